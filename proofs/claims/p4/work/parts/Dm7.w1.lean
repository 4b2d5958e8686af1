set_option maxHeartbeats 1600000
/-! the reference's words and numbers -/
theorem bv_85 {x y : Int32} (h0 : 0 ≤ x.toInt) (h1 : x.toInt < 256) (h2 : 0 ≤ y.toInt) (h3 : y.toInt < 256) (h : BitVec.ofNat 8 x.toInt.toNat = BitVec.ofNat 8 y.toInt.toNat) : x = y := by
  have z := congrArg BitVec.toNat h
  rw [BitVec.toNat_ofNat, BitVec.toNat_ofNat, Nat.mod_eq_of_lt (by omega), Nat.mod_eq_of_lt (by omega)] at z
  exact Int32.toInt_inj.mp (by omega)
theorem gD_05 {w : List Int32} {i : Nat} (h : w.length ≤ i) : w.getD i 0 = 0 := by
  rw [List.getD_eq_getElem?_getD, List.getElem?_eq_none h]
  rfl
theorem fw_5 {B : Nat → Int32} {p k : Nat} {F W : Int64} {G : Int32} {w : List Int32} (h : nmP5 B p k F G) (hb : ∀ i, i < k → 0 < (B (p + i)).toInt ∧ (B (p + i)).toInt < 256) (hw : ∀ i, i < 8 → b8_5 W i = BitVec.ofNat 8 (w.getD i 0).toInt.toNat) (hl : w.length ≤ 7) (hz : ∀ i, i < w.length → 0 < (w.getD i 0).toInt ∧ (w.getD i 0).toInt < 256) : (F = W ∧ G = 0) ↔ nmqq5 B p k = w := by
  constructor
  · rintro ⟨e1, e2⟩
    subst e1
    have hk : ∀ i, i < 8 → (if i < k then BitVec.ofNat 8 (B (p + i)).toInt.toNat else 0) = BitVec.ofNat 8 (w.getD i 0).toInt.toNat := fun i hi => (h.1 i hi).symm.trans (hw i hi)
    have l1 : k = w.length := by
      rcases Nat.lt_trichotomy k w.length with c | c | c
      · have z := hk k (by omega)
        rw [if_neg (by omega)] at z
        have q := hz k c
        have y := congrArg BitVec.toNat z
        rw [BitVec.toNat_ofNat, Nat.mod_eq_of_lt (by omega)] at y
        have t : (0 : BitVec 8).toNat = 0 := rfl
        rw [t] at y
        omega
      · exact c
      · have z := hk w.length (by omega)
        rw [if_pos c, gD_05 (Nat.le_refl _)] at z
        have q := hb w.length c
        have y := congrArg BitVec.toNat z
        have t : (0 : Int32).toInt.toNat = 0 := rfl
        rw [t, BitVec.toNat_ofNat, BitVec.toNat_ofNat, Nat.mod_eq_of_lt (by omega)] at y
        omega
    refine nm_iff5.mpr ⟨l1, fun i hi => ?_⟩
    have z := hk i (by omega)
    rw [if_pos hi] at z
    have q1 := hb i hi
    have q2 := hz i (by omega)
    exact bv_85 (by omega) q1.2 (by omega) q2.2 z
  · intro h2
    obtain ⟨l1, l2⟩ := nm_iff5.mp h2
    refine ⟨b8_e5 (fun i hi => ?_), b4_e5 (fun i hi => ?_)⟩
    · rw [h.1 i hi, hw i hi]
      by_cases c : i < k
      · rw [if_pos c, l2 i c]
      · rw [if_neg c, gD_05 (by omega)]
        rfl
    · rw [h.2 i hi, if_neg (by omega), b4_z5]
theorem fx_5 {B : Nat → Int32} {p k : Nat} {F W : Int64} {G : Int32} {w : List Int32} (h : nmP5 B p k F G) (hb : ∀ i, i < k → 0 < (B (p + i)).toInt ∧ (B (p + i)).toInt < 256) (hG : G = 0) (hw : ∀ i, i < 8 → b8_5 W i = BitVec.ofNat 8 (w.getD i 0).toInt.toNat) (hl : w.length ≤ 7) (hz : ∀ i, i < w.length → 0 < (w.getD i 0).toInt ∧ (w.getD i 0).toInt < 256) : lg_cmp F W = 0 ↔ nmqq5 B p k = w :=
  (lg_cmp_eq F W).trans ⟨fun e => (fw_5 h hb hw hl hz).mp ⟨e, hG⟩, fun e => ((fw_5 h hb hw hl hz).mpr e).1⟩
def wrs5 (l : List Int32) : Int32 := if l = [118, 97, 114] then 1 else if l = [97, 114, 114] then 2 else if l = [102, 117, 110, 99] then 3 else if l = [105, 102] then 5 else if l = [101, 108, 115, 101] then 6 else if l = [103, 97, 105, 110] then 10 else if l = [112, 105, 99, 107] then 11 else if l = [102, 108, 105, 112] then 12 else 0
def wrt5 (l : List Int32) : Int32 := if l = [108, 111, 99, 97, 108] then 4 else if l = [119, 104, 105, 108, 101] then 7 else if l = [114, 101, 116, 117, 114, 110] then 8 else if l = [111, 98, 115, 101, 114, 118, 101] then 9 else if l = [99, 104, 111, 111, 115, 101] then 13 else 0
def wrf5 (l : List Int32) : Int32 := if wrs5 l ≤ 0 then wrt5 l else wrs5 l
theorem gs_5 {B : Nat → Int32} {p k : Nat} {F : Int64} {G : Int32} {σ : rS} (h : nmP5 B p k F G) (hb : ∀ i, i < k → 0 < (B (p + i)).toInt ∧ (B (p + i)).toInt < 256) (hG : G = 0) : g5_shortWord F σ = wrs5 (nmqq5 B p k) := by
  unfold g5_shortWord wrs5
  dsimp only [pb5]
  refine ifc_5 (fx_5 h hb hG (w := [118, 97, 114]) (by unfold g5_word; decide +kernel) (by decide) (by decide)) rfl ?_
  refine ifc_5 (fx_5 h hb hG (w := [97, 114, 114]) (by unfold g5_word; decide +kernel) (by decide) (by decide)) rfl ?_
  refine ifc_5 (fx_5 h hb hG (w := [102, 117, 110, 99]) (by unfold g5_word; decide +kernel) (by decide) (by decide)) rfl ?_
  refine ifc_5 (fx_5 h hb hG (w := [105, 102]) (by unfold g5_word; decide +kernel) (by decide) (by decide)) rfl ?_
  refine ifc_5 (fx_5 h hb hG (w := [101, 108, 115, 101]) (by unfold g5_word; decide +kernel) (by decide) (by decide)) rfl ?_
  refine ifc_5 (fx_5 h hb hG (w := [103, 97, 105, 110]) (by unfold g5_word; decide +kernel) (by decide) (by decide)) rfl ?_
  refine ifc_5 (fx_5 h hb hG (w := [112, 105, 99, 107]) (by unfold g5_word; decide +kernel) (by decide) (by decide)) rfl ?_
  refine ifc_5 (fx_5 h hb hG (w := [102, 108, 105, 112]) (by unfold g5_word; decide +kernel) (by decide) (by decide)) rfl ?_
  rfl
theorem gwd_5 {B : Nat → Int32} {p k : Nat} {F : Int64} {G : Int32} {σ : rS} (h : nmP5 B p k F G) (hb : ∀ i, i < k → 0 < (B (p + i)).toInt ∧ (B (p + i)).toInt < 256) (hG : G = 0) : g5_wordOf F σ = wrf5 (nmqq5 B p k) := by
  unfold g5_wordOf wrf5
  dsimp only [pb5]
  rw [gs_5 h hb hG]
  refine ifc_5 Iff.rfl ?_ rfl
  unfold wrt5
  refine ifc_5 (fx_5 h hb hG (w := [108, 111, 99, 97, 108]) (by unfold g5_word; decide +kernel) (by decide) (by decide)) rfl ?_
  refine ifc_5 (fx_5 h hb hG (w := [119, 104, 105, 108, 101]) (by unfold g5_word; decide +kernel) (by decide) (by decide)) rfl ?_
  refine ifc_5 (fx_5 h hb hG (w := [114, 101, 116, 117, 114, 110]) (by unfold g5_word; decide +kernel) (by decide) (by decide)) rfl ?_
  refine ifc_5 (fx_5 h hb hG (w := [111, 98, 115, 101, 114, 118, 101]) (by unfold g5_word; decide +kernel) (by decide) (by decide)) rfl ?_
  refine ifc_5 (fx_5 h hb hG (w := [99, 104, 111, 111, 115, 101]) (by unfold g5_word; decide +kernel) (by decide) (by decide)) rfl ?_
  rfl
theorem wr_l5 {l : List Int32} (h : 8 ≤ l.length) : wrf5 l = 0 := by
  unfold wrf5 wrs5 wrt5
  have hn : ∀ w : List Int32, w.length < 8 → ¬ l = w := fun w a b => by rw [b] at h; omega
  rw [if_neg (hn [118, 97, 114] (by decide)), if_neg (hn [97, 114, 114] (by decide)), if_neg (hn [102, 117, 110, 99] (by decide)), if_neg (hn [105, 102] (by decide)), if_neg (hn [101, 108, 115, 101] (by decide)), if_neg (hn [103, 97, 105, 110] (by decide)), if_neg (hn [112, 105, 99, 107] (by decide)), if_neg (hn [102, 108, 105, 112] (by decide))]
  rw [if_neg (hn [108, 111, 99, 97, 108] (by decide)), if_neg (hn [119, 104, 105, 108, 101] (by decide)), if_neg (hn [114, 101, 116, 117, 114, 110] (by decide)), if_neg (hn [111, 98, 115, 101, 114, 118, 101] (by decide)), if_neg (hn [99, 104, 111, 111, 115, 101] (by decide))]
  rfl
theorem wr_5 (l : List Int32) : (wch5 wl5 150 l = 140 ∧ wrf5 l = 0) ∨ (0 < (wrf5 l).toInt ∧ (wrf5 l).toInt ≤ 13 ∧ wch5 wl5 150 l = 149 + wrf5 l) := by
  by_cases h0 : l = [118, 97, 114]
  · subst h0; exact Or.inr (by decide +kernel)
  by_cases h1 : l = [97, 114, 114]
  · subst h1; exact Or.inr (by decide +kernel)
  by_cases h2 : l = [102, 117, 110, 99]
  · subst h2; exact Or.inr (by decide +kernel)
  by_cases h3 : l = [108, 111, 99, 97, 108]
  · subst h3; exact Or.inr (by decide +kernel)
  by_cases h4 : l = [105, 102]
  · subst h4; exact Or.inr (by decide +kernel)
  by_cases h5 : l = [101, 108, 115, 101]
  · subst h5; exact Or.inr (by decide +kernel)
  by_cases h6 : l = [119, 104, 105, 108, 101]
  · subst h6; exact Or.inr (by decide +kernel)
  by_cases h7 : l = [114, 101, 116, 117, 114, 110]
  · subst h7; exact Or.inr (by decide +kernel)
  by_cases h8 : l = [111, 98, 115, 101, 114, 118, 101]
  · subst h8; exact Or.inr (by decide +kernel)
  by_cases h9 : l = [103, 97, 105, 110]
  · subst h9; exact Or.inr (by decide +kernel)
  by_cases h10 : l = [112, 105, 99, 107]
  · subst h10; exact Or.inr (by decide +kernel)
  by_cases h11 : l = [102, 108, 105, 112]
  · subst h11; exact Or.inr (by decide +kernel)
  by_cases h12 : l = [99, 104, 111, 111, 115, 101]
  · subst h12; exact Or.inr (by decide +kernel)
  refine Or.inl ⟨?_, ?_⟩
  · unfold wl5
    simp only [wch5]
    rw [if_neg h0, if_neg h1, if_neg h2, if_neg h3, if_neg h4, if_neg h5, if_neg h6, if_neg h7, if_neg h8, if_neg h9, if_neg h10, if_neg h11, if_neg h12]
  · unfold wrf5 wrs5 wrt5
    rw [if_neg h0, if_neg h1, if_neg h2, if_neg h4, if_neg h5, if_neg h9, if_neg h10, if_neg h11]
    rw [if_neg h3, if_neg h6, if_neg h7, if_neg h8, if_neg h12]
    rfl
/-- a token written -/
def tkE5 (σ σ' : rS) (T : Nat) (pl so nu : Int32) (F : Int64) (G : Int32) : Prop := (∀ j, σ'.1 j = σ.1 j) ∧ (∀ r j, ¬ (j = T ∧ (r = 5 ∨ r = 6 ∨ r = 7 ∨ r = 9)) → σ'.2.2.1 r j = σ.2.2.1 r j) ∧ (∀ j, j ≠ T → σ'.2.2.2 8 j = σ.2.2.2 8 j) ∧ σ'.2.2.1 5 T = so ∧ σ'.2.2.1 6 T = pl ∧ σ'.2.2.1 7 T = nu ∧ σ'.2.2.1 9 T = G ∧ σ'.2.2.2 8 T = F
theorem tk_05 {σ : rS} {T : Nat} {pl : Int32} : tkE5 σ (riU (rlU (riU (riU σ 6 T pl) 7 T 0) 8 T 0) 9 T 0) T pl (σ.2.2.1 5 T) 0 0 0 := by
  refine ⟨fun _ => rfl, fun r j h => ?_, fun j h => ?_, ?_, ?_, ?_, ?_, ?_⟩
  · rw [ri34]
    by_cases a : r = 9
    · subst a
      rw [if_pos rfl, if_neg (fun q => h ⟨q, by omega⟩), rl3a, ri34, if_neg (by decide), ri34, if_neg (by decide)]
    · rw [if_neg a, rl3a, ri34]
      by_cases b : r = 7
      · subst b
        rw [if_pos rfl, if_neg (fun q => h ⟨q, by omega⟩), ri34, if_neg (by decide)]
      · rw [if_neg b, ri34]
        by_cases c : r = 6
        · subst c
          rw [if_pos rfl, if_neg (fun q => h ⟨q, by omega⟩)]
        · rw [if_neg c]
  · rw [ri5, rl45, if_pos rfl, if_neg h]
    rfl
  · rw [ri34, if_neg (by decide), rl3a, ri34, if_neg (by decide), ri34, if_neg (by decide)]
  · rw [ri34, if_neg (by decide), rl3a, ri34, if_neg (by decide), ri34, if_pos rfl, if_pos rfl]
  · rw [ri34, if_neg (by decide), rl3a, ri34, if_pos rfl, if_pos rfl]
  · rw [ri34, if_pos rfl, if_pos rfl]
  · rw [ri5, rl45, if_pos rfl, if_pos rfl]
theorem tk_55 {σ σ' : rS} {T : Nat} {pl so nu x : Int32} {F : Int64} {G : Int32} (h : tkE5 σ σ' T pl so nu F G) : tkE5 σ (riU σ' 5 T x) T pl x nu F G := by
  refine ⟨h.1, fun r j a => ?_, h.2.2.1, ?_, ?_, ?_, ?_, h.2.2.2.2.2.2.2⟩
  · rw [ri34]
    by_cases b : r = 5
    · subst b
      rw [if_pos rfl, if_neg (fun q => a ⟨q, by omega⟩)]
      exact h.2.1 5 j a
    · rw [if_neg b]
      exact h.2.1 r j a
  · rw [ri34, if_pos rfl, if_pos rfl]
  · rw [ri34, if_neg (by decide)]; exact h.2.2.2.2.1
  · rw [ri34, if_neg (by decide)]; exact h.2.2.2.2.2.1
  · rw [ri34, if_neg (by decide)]; exact h.2.2.2.2.2.2.1
theorem tk_75 {σ σ' : rS} {T : Nat} {pl so nu x : Int32} {F : Int64} {G : Int32} (h : tkE5 σ σ' T pl so nu F G) : tkE5 σ (riU σ' 7 T x) T pl so x F G := by
  refine ⟨h.1, fun r j a => ?_, h.2.2.1, ?_, ?_, ?_, ?_, h.2.2.2.2.2.2.2⟩
  · rw [ri34]
    by_cases b : r = 7
    · subst b
      rw [if_pos rfl, if_neg (fun q => a ⟨q, by omega⟩)]
      exact h.2.1 7 j a
    · rw [if_neg b]
      exact h.2.1 r j a
  · rw [ri34, if_neg (by decide)]; exact h.2.2.2.1
  · rw [ri34, if_neg (by decide)]; exact h.2.2.2.2.1
  · rw [ri34, if_pos rfl, if_pos rfl]
  · rw [ri34, if_neg (by decide)]; exact h.2.2.2.2.2.2.1
theorem tk_n5 {σ σ' : rS} {T : Nat} {pl so nu : Int32} {F F' : Int64} {G G' : Int32} (h : tkE5 σ σ' T pl so nu F G) : tkE5 σ (nmS5 σ' T F' G') T pl so nu F' G' := by
  unfold nmS5
  refine ⟨h.1, fun r j a => ?_, fun j a => ?_, ?_, ?_, ?_, ?_, ?_⟩
  · rw [ri34]
    by_cases b : r = 9
    · subst b
      rw [if_pos rfl, if_neg (fun q => a ⟨q, by omega⟩), rl3a]
      exact h.2.1 9 j a
    · rw [if_neg b, rl3a]
      exact h.2.1 r j a
  · rw [ri5, rl45, if_pos rfl, if_neg a]
    exact h.2.2.1 j a
  · rw [ri34, if_neg (by decide), rl3a]; exact h.2.2.2.1
  · rw [ri34, if_neg (by decide), rl3a]; exact h.2.2.2.2.1
  · rw [ri34, if_neg (by decide), rl3a]; exact h.2.2.2.2.2.1
  · rw [ri34, if_pos rfl, if_pos rfl]
  · rw [ri5, rl45, if_pos rfl, if_pos rfl]
theorem tk_b5 {σ σ' : rS} {T : Nat} {pl so nu : Int32} {F : Int64} {G : Int32} (h : tkE5 σ σ' T pl so nu F G) : bS5 σ' = bS5 σ ∧ nS5 σ' = nS5 σ ∧ (okS5 σ → okS5 σ') := by
  refine ⟨funext fun j => ?_, ?_, fun q => ?_⟩
  · unfold bS5
    rw [h.2.1 1 j (by omega)]
  · unfold nS5
    rw [h.1]
  · unfold okS5 at q ⊢
    rw [h.1]
    exact q
/-- a number's value -/
def nv5 (B : Nat → Int32) (p : Nat) : Nat → Int32
  | 0 => 0
  | k + 1 => nv5 B p k * 10 + B (p + k) - 48
theorem td_m5 {σ0 : rS} {t1 a1 pl so : Int32} {T p : Nat} (H : okS5 σ0) (ht : t1.toNatClampNeg = T) (ha : a1.toInt = p) : ∀ (m k : Nat) (a4 : Int32) (σ : rS), a4.toInt = p + k → p + k ≤ nS5 σ0 → nS5 σ0 - (p + k) < m → tkE5 σ0 σ T pl so (nv5 (bS5 σ0) p (min k 9)) 0 0 → ∃ (σ' : rS) (e so' : Int32), g5_take_68 m a1 t1 a4 σ = (σ', e) ∧ e.toInt = rnqq5 isDqq5 (bS5 σ0) (nS5 σ0) (p + k) ∧ tkE5 σ0 σ' T pl so' (nv5 (bS5 σ0) p (min (rnqq5 isDqq5 (bS5 σ0) (nS5 σ0) (p + k) - p) 9)) 0 0 ∧ so' = (if rnqq5 isDqq5 (bS5 σ0) (nS5 σ0) (p + k) - p ≤ 9 then 2 else 4)
  | 0, _, _, _, _, _, h, _ => by omega
  | m + 1, k, a4, σ, e4, hk, hm, hE => by
    have hn : nS5 σ0 ≤ 65536 := by have := H.2; unfold nS5; omega
    obtain ⟨b1, b2, b3⟩ := tk_b5 hE
    have e4n : a4.toInt.toNat = p + k := by omega
    have hbA : g5_byteAt a4 σ = bAqq5 (bS5 σ0) (nS5 σ0) (p + k) := by rw [bs_5 (by omega), b1, b2, e4n]
    have ed : (a4 - a1).toInt = k := by rw [su_i5 (by omega) (by omega)]; omega
    have e9 : (9 : Int32).toInt = 9 := rfl
    unfold g5_take_68
    dsimp only [pb5]
    rw [hbA, gd_5]
    by_cases c : p + k < nS5 σ0 ∧ isDqq5 (bS5 σ0 (p + k)) = true
    · have e5 : (a4 + 1).toInt = (p : Int) + (k + 1 : Nat) := by
        rw [in_5 (n := 65536) (by omega) (by omega) (by omega)]
        omega
      rw [ba_5 c.1, if_pos c.2, if_neg (by decide), rn_s5 c, ht]
      unfold g5_take_122
      dsimp only [pb5]
      rw [ht]
      by_cases k9 : k < 9
      · rw [if_neg (by rw [lei, ed, e9]; omega)]
        refine td_m5 (so := so) H ht ha m (k + 1) (a4 + 1) _ e5 (by omega) (by omega) ?_
        have z := tk_75 (x := (10 : Int32) * σ.2.2.1 7 T + bS5 σ0 (p + k) - 48) hE
        have y : (10 : Int32) * σ.2.2.1 7 T + bS5 σ0 (p + k) - 48 = nv5 (bS5 σ0) p (min (k + 1) 9) := by
          rw [hE.2.2.2.2.2.1, show min k 9 = k by omega, show min (k + 1) 9 = k + 1 by omega, Int32.mul_comm]
          rfl
        rw [y] at z ⊢
        exact z
      · rw [if_pos (by rw [lei, ed, e9]; omega)]
        refine td_m5 (so := so) H ht ha m (k + 1) (a4 + 1) _ e5 (by omega) (by omega) ?_
        have z := tk_75 (x := σ.2.2.1 7 T) hE
        have y : σ.2.2.1 7 T = nv5 (bS5 σ0) p (min (k + 1) 9) := by
          rw [hE.2.2.2.2.2.1, show min k 9 = 9 by omega, show min (k + 1) 9 = 9 by omega]
        rw [y] at z ⊢
        exact z
    · have q : isDqq5 (bAqq5 (bS5 σ0) (nS5 σ0) (p + k)) = false := by
        by_cases l : p + k < nS5 σ0
        · rw [ba_5 l]
          exact Bool.eq_false_iff.mpr (fun y => c ⟨l, y⟩)
        · have w : bAqq5 (bS5 σ0) (nS5 σ0) (p + k) = -1 := if_neg l
          rw [w]
          decide
      rw [rn_e5 c, q, if_pos (by decide), ht, show p + k - p = k by omega]
      by_cases k9 : k ≤ 9
      · rw [if_pos (by rw [lei, ed, e9]; omega), if_pos k9]
        exact ⟨_, a4, 2, rfl, by omega, tk_55 hE, rfl⟩
      · rw [if_neg (by rw [lei, ed, e9]; omega), if_neg k9]
        exact ⟨_, a4, 4, rfl, by omega, tk_55 hE, rfl⟩
