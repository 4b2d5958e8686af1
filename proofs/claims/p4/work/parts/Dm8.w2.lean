set_option maxHeartbeats 1600000
/-! a token taken on both sides -/
theorem rn_a5 {f : Int32 → Bool} {B : Nat → Int32} {n p i : Nat} : p ≤ i → i < rnqq5 f B n p → f (B i) = true := by
  fun_induction rnqq5 f B n p with
  | case1 p h ih =>
    intro a b
    by_cases c : i = p
    · rw [c]; exact h.2
    · exact ih (by omega) b
  | case2 p h => intro a b; omega
theorem is_c5 {c a x : Int32} {l : List Int32} (h : x = if c ∈ l then 1 else 0) : (if c = a then 1 else x) = if c ∈ a :: l then 1 else 0 := by
  by_cases z : c = a
  · rw [if_pos z, if_pos (by rw [z]; exact List.mem_cons_self)]
  · rw [if_neg z, h]
    exact ifc_5 ⟨fun q => List.mem_cons_of_mem _ q, fun q => by
      rcases List.mem_cons.mp q with y | y
      · exact absurd y z
      · exact y⟩ rfl rfl
theorem gi_5 {c : Int32} {σ : rS} : g5_isSign c σ = if c ∈ sn5 then 1 else 0 := by
  unfold g5_isSign sn5
  iterate 21 refine is_c5 ?_
  exact (if_neg (List.not_mem_nil)).symm
theorem lt_15 {c : Int32} (h : cL5 c = true) : 0 < c.toInt ∧ c.toInt < 128 := by
  unfold cL5 isLqq5 isDqq5 at h
  simp only [Bool.or_eq_true, Bool.and_eq_true, decide_eq_true_eq] at h
  have e1 : (97 : Int32).toInt = 97 := rfl
  have e2 : (122 : Int32).toInt = 122 := rfl
  have e3 : (65 : Int32).toInt = 65 := rfl
  have e4 : (90 : Int32).toInt = 90 := rfl
  have e5 : (95 : Int32).toInt = 95 := rfl
  have e6 : (48 : Int32).toInt = 48 := rfl
  have e7 : (57 : Int32).toInt = 57 := rfl
  rcases h with ((h | h) | h) | h
  · rw [lei, lei, e1, e2] at h; omega
  · rw [lei, lei, e3, e4] at h; omega
  · rw [h, e5]; omega
  · rw [lei, lei, e6, e7] at h; omega
/-- what the reference writes of a token -/
def tQ5 (B : Nat → Int32) (n p : Nat) (so nu : Int32) (F : Int64) (G : Int32) : Prop :=
  (isLqq5 (B p) = true ∧ nmP5 B p (tEnq5 B n p - p) F G ∧ (∀ i, i < tEnq5 B n p - p → cL5 (B (p + i)) = true) ∧ ((12 < tEnq5 B n p - p ∧ so = 4) ∨ (tEnq5 B n p - p ≤ 12 ∧ nu = wrf5 (nmqq5 B p (tEnq5 B n p - p)) ∧ so = if wrf5 (nmqq5 B p (tEnq5 B n p - p)) ≤ 0 then 1 else 6))) ∨
  (¬ isLqq5 (B p) = true ∧ isDqq5 (B p) = true ∧ ((9 < tEnq5 B n p - p ∧ so = 4) ∨ (tEnq5 B n p - p ≤ 9 ∧ so = 2 ∧ nu = nv5 B p (tEnq5 B n p - p)))) ∨
  (¬ isLqq5 (B p) = true ∧ ¬ isDqq5 (B p) = true ∧ so = (if B p ∈ sn5 then 3 else 4) ∧ nu = if tEnq5 B n p = p + 2 then (if B p = 61 then 256 else if B p = 33 then 257 else if B p = 60 then 258 else 259) else B p)
theorem b4_05 {B : Nat → Int32} {p k : Nat} {F : Int64} {G : Int32} (h : nmP5 B p k F G) (hk : k ≤ 8) : G = 0 := b4_e5 (fun i hi => by rw [h.2 i hi, if_neg (by omega), b4_z5])
theorem te_L5 {B : Nat → Int32} {n p : Nat} (h : isLqq5 (B p) = true) (hp : p < n) : tEnq5 B n p = rnqq5 cL5 B n p := by
  unfold tEnq5
  rw [if_pos h, rn_s5 (f := cL5) ⟨hp, by unfold cL5; rw [h]; rfl⟩]
  rfl
theorem te_D5 {B : Nat → Int32} {n p : Nat} (h : ¬ isLqq5 (B p) = true) (h2 : isDqq5 (B p) = true) (hp : p < n) : tEnq5 B n p = rnqq5 isDqq5 B n p := by
  unfold tEnq5
  rw [if_neg h, if_pos h2, rn_s5 (f := isDqq5) ⟨hp, h2⟩]
theorem tk_9_5 {σ σ5 : rS} {t1 a1 a3 pl so nu wd : Int32} {F : Int64} {G : Int32} {T p k : Nat} (ht : t1.toNatClampNeg = T) (ha : a1.toInt = p) (h3 : a3.toInt = p + k) (hk : p + k ≤ 65536) (hE : tkE5 σ σ5 T pl so nu F G) : ∃ σ', g5_takeName_159 t1 a1 a3 t1 wd σ5 = (σ', a3) ∧ tkE5 σ σ' T pl (if k ≤ 12 then (if wd ≤ 0 then 1 else 6) else 4) wd F G := by
  unfold g5_takeName_159
  dsimp only [pb5]
  have ed : (a3 - a1).toInt = k := by rw [su_i5 (by omega) (by omega)]; omega
  have e12 : (12 : Int32).toInt = 12 := rfl
  rw [ht, ri34, if_pos rfl, if_pos rfl]
  by_cases c : k ≤ 12
  · rw [if_pos (by rw [lei, ed, e12]; omega), if_pos c]
    by_cases d : wd ≤ 0
    · rw [if_pos d, if_pos d]
      exact ⟨_, rfl, tk_55 (tk_75 hE)⟩
    · rw [if_neg d, if_neg d]
      exact ⟨_, rfl, tk_55 (tk_75 hE)⟩
  · rw [if_neg (by rw [lei, ed, e12]; omega), if_neg c]
    exact ⟨_, rfl, tk_55 (tk_75 hE)⟩
theorem tk_L5 {σ σ5 : rS} {a1 t1 so : Int32} {p T : Nat} (H : okS5 σ) (ha : a1.toInt = p) (hp : p < nS5 σ) (hT : t1.toNatClampNeg = T) (hE : tkE5 σ σ5 T a1 so 0 0 0) (hL : isLqq5 (bS5 σ p) = true) : ∃ (σ' : rS) (e so nu : Int32) (F : Int64) (G : Int32), g5_takeName t1 a1 σ5 = (σ', e) ∧ e.toInt = tEnq5 (bS5 σ) (nS5 σ) p ∧ tkE5 σ σ' T a1 so nu F G ∧ tQ5 (bS5 σ) (nS5 σ) p so nu F G := by
  obtain ⟨b1, b2, b3⟩ := tk_b5 hE
  have hn : nS5 σ ≤ 65536 := by have := H.2; unfold nS5; omega
  have hi : nmS5 σ5 T 0 0 = σ5 := nm_i5 hE.2.2.2.2.2.2.2 hE.2.2.2.2.2.2.1
  obtain ⟨k, F, G, a3, r1, r2, r3, r4⟩ := tn_m5 (b3 H) hT (by rw [b2]; exact hp) fu5 0 a1 a1 0 0 ha (by omega) (by rw [b2]; omega) (by rw [b2]; unfold fu5; omega) nm_05
  rw [hi] at r4
  rw [b1, b2, Nat.add_zero, ← te_L5 hL hp] at r3
  rw [b1] at r1
  have tb := te_b5 (B := bS5 σ) hp
  have hk : tEnq5 (bS5 σ) (nS5 σ) p - p = k := by omega
  have hcl : ∀ i, i < k → cL5 (bS5 σ (p + i)) = true := fun i hi => by
    have z := te_L5 (n := nS5 σ) hL hp
    exact rn_a5 (n := nS5 σ) (p := p) (by omega) (by rw [← z]; omega)
  have hb : ∀ i, i < k → 0 < (bS5 σ (p + i)).toInt ∧ (bS5 σ (p + i)).toInt < 256 := fun i hi => by
    have z := lt_15 (hcl i hi)
    omega
  have fin : ∀ wd : Int32, wd = wrf5 (nmqq5 (bS5 σ) p k) → g5_takeName t1 a1 σ5 = g5_takeName_159 t1 a1 a3 t1 wd (nmS5 σ5 T F G) → ∃ (σ' : rS) (e so nu : Int32) (F : Int64) (G : Int32), g5_takeName t1 a1 σ5 = (σ', e) ∧ e.toInt = tEnq5 (bS5 σ) (nS5 σ) p ∧ tkE5 σ σ' T a1 so nu F G ∧ tQ5 (bS5 σ) (nS5 σ) p so nu F G := fun wd hw hg => by
    obtain ⟨σ', s1, s2⟩ := tk_9_5 (wd := wd) hT ha r2 (by omega) (tk_n5 (F' := F) (G' := G) hE)
    refine ⟨σ', a3, _, _, F, G, hg.trans s1, by omega, s2, Or.inl ⟨hL, by rw [hk]; exact r1, by rw [hk]; exact hcl, ?_⟩⟩
    rw [hk]
    by_cases c : k ≤ 12
    · rw [if_pos c, ← hw]
      exact Or.inr ⟨c, rfl, rfl⟩
    · rw [if_neg c]
      exact Or.inl ⟨by omega, rfl⟩
  by_cases g : G = 0
  · exact fin _ (gwd_5 (σ := nmS5 σ5 T F G) r1 hb g) (by unfold g5_takeName; rw [r4, if_pos g])
  · refine fin 0 ?_ (by unfold g5_takeName; rw [r4, if_neg g])
    rw [wr_l5]
    rw [nm_l5]
    exact Nat.le_of_lt (Nat.lt_of_not_le (fun q => g (b4_05 r1 q)))
theorem tk_S5 {σ : rS} {a1 : Int32} {p T : Nat} (H : okS5 σ) (ha : a1.toInt = p) (hp : p < nS5 σ) (hT : (σ.1 3 + σ.1 4).toNatClampNeg = T) : ∃ (σ' : rS) (e so nu : Int32) (F : Int64) (G : Int32), g5_take a1 σ = (σ', e) ∧ e.toInt = tEnq5 (bS5 σ) (nS5 σ) p ∧ tkE5 σ σ' T a1 so nu F G ∧ tQ5 (bS5 σ) (nS5 σ) p so nu F G := by
  have hn : nS5 σ ≤ 65536 := by have := H.2; unfold nS5; omega
  have hE := tk_05 (σ := σ) (T := T) (pl := a1)
  unfold g5_take
  dsimp only [pb5, pm5]
  rw [hT]
  revert hE
  generalize (riU (rlU (riU (riU σ 6 T a1) 7 T 0) 8 T 0) 9 T 0) = σ5
  intro hE
  obtain ⟨b1, b2, b3⟩ := tk_b5 hE
  have e1 : (a1 + 1).toInt = a1.toInt + 1 := in_5 (n := 65536) (by omega) (by omega) (by omega)
  have e1n : (a1 + 1).toInt.toNat = p + 1 := by omega
  have ean : a1.toInt.toNat = p := by omega
  rw [bs_5 (σ := σ5) (a := a1) (by omega), bs_5 (σ := σ5) (a := a1 + 1) (by omega), b1, b2, e1n, ean, ba_5 hp, gl_5, gd_5]
  by_cases cL : isLqq5 (bS5 σ p) = true
  · rw [if_pos cL, if_neg (by decide)]
    exact tk_L5 H ha hp hT hE cL
  · rw [if_neg cL, if_pos rfl]
    by_cases cD : isDqq5 (bS5 σ p) = true
    · rw [if_pos cD, if_neg (by decide)]
      obtain ⟨σ', e, so', r1, r2, r3, r4⟩ := td_m5 H hT ha fu5 0 a1 σ5 (by omega) (by omega) (by unfold fu5; omega) hE
      rw [Nat.add_zero, ← te_D5 cL cD hp] at r2 r3 r4
      refine ⟨σ', e, so', _, 0, 0, r1, r2, r3, Or.inr (Or.inl ⟨cL, cD, ?_⟩)⟩
      by_cases c : tEnq5 (bS5 σ) (nS5 σ) p - p ≤ 9
      · rw [if_pos c] at r4
        exact Or.inr ⟨c, r4, by rw [show min (tEnq5 (bS5 σ) (nS5 σ) p - p) 9 = tEnq5 (bS5 σ) (nS5 σ) p - p by omega]⟩
      · rw [if_neg c] at r4
        exact Or.inl ⟨by omega, r4⟩
    · rw [if_neg cD, if_pos rfl]
      have e2 : (a1 + 2).toInt = a1.toInt + 2 := by rw [add_i (by have : (2 : Int32).toInt = 2 := rfl; omega) (by have : (2 : Int32).toInt = 2 := rfl; omega)]; rfl
      have hte : tEnq5 (bS5 σ) (nS5 σ) p = if (bS5 σ p = 61 ∨ bS5 σ p = 33 ∨ bS5 σ p = 60 ∨ bS5 σ p = 62) ∧ bAqq5 (bS5 σ) (nS5 σ) (p + 1) = 61 then p + 2 else p + 1 := by
        unfold tEnq5
        rw [if_neg cL, if_neg cD]
      have fin : ∀ s0 : Int32, (s0 = 1 ∧ tEnq5 (bS5 σ) (nS5 σ) p = p + 2) ∨ (s0 = 0 ∧ tEnq5 (bS5 σ) (nS5 σ) p = p + 1) → ∃ (σ' : rS) (e so nu : Int32) (F : Int64) (G : Int32), g5_take_194 a1 (σ.1 3 + σ.1 4) (bS5 σ p) s0 σ5 = (σ', e) ∧ e.toInt = tEnq5 (bS5 σ) (nS5 σ) p ∧ tkE5 σ σ' T a1 so nu F G ∧ tQ5 (bS5 σ) (nS5 σ) p so nu F G := fun s0 hs => by
        have go : ∀ s2 so' : Int32, vp_nar .byte (s2).toInt8.toInt32 = so' → so' = (if bS5 σ p ∈ sn5 then 3 else 4) → ∃ (σ' : rS) (e so nu : Int32) (F : Int64) (G : Int32), g5_take_213 a1 (σ.1 3 + σ.1 4) (bS5 σ p) s0 (σ.1 3 + σ.1 4) s2 σ5 = (σ', e) ∧ e.toInt = tEnq5 (bS5 σ) (nS5 σ) p ∧ tkE5 σ σ' T a1 so nu F G ∧ tQ5 (bS5 σ) (nS5 σ) p so nu F G := fun s2 so' hv hs2 => by
          have last : ∀ nw : Int32, nw = (if tEnq5 (bS5 σ) (nS5 σ) p = p + 2 then (if bS5 σ p = 61 then 256 else if bS5 σ p = 33 then 257 else if bS5 σ p = 60 then 258 else 259) else bS5 σ p) → ∃ (σ' : rS) (e so nu : Int32) (F : Int64) (G : Int32), g5_take_268 a1 s0 (σ.1 3 + σ.1 4) nw (riU σ5 5 T so') = (σ', e) ∧ e.toInt = tEnq5 (bS5 σ) (nS5 σ) p ∧ tkE5 σ σ' T a1 so nu F G ∧ tQ5 (bS5 σ) (nS5 σ) p so nu F G := fun nw hnu => by
            unfold g5_take_268
            dsimp only [pb5]
            rw [hT]
            have ht := tk_75 (x := nw) (tk_55 (x := so') hE)
            have hq : tQ5 (bS5 σ) (nS5 σ) p so' nw 0 0 := Or.inr (Or.inr ⟨cL, cD, hs2, hnu⟩)
            rcases hs with ⟨rfl, q⟩ | ⟨rfl, q⟩
            · rw [if_neg (by decide)]
              exact ⟨_, _, so', nw, 0, 0, rfl, by rw [q]; omega, ht, hq⟩
            · rw [if_pos rfl]
              exact ⟨_, _, so', nw, 0, 0, rfl, by rw [q]; omega, ht, hq⟩
          unfold g5_take_213
          dsimp only [pb5]
          rw [hT, hv]
          rcases hs with ⟨rfl, q⟩ | ⟨rfl, q⟩
          · rw [if_neg (by decide)]
            rw [if_pos q] at last
            by_cases d1 : bS5 σ p = 61
            · rw [if_pos d1] at last ⊢
              exact last _ rfl
            · rw [if_neg d1] at last ⊢
              by_cases d2 : bS5 σ p = 33
              · rw [if_pos d2] at last ⊢
                exact last _ rfl
              · rw [if_neg d2] at last ⊢
                by_cases d3 : bS5 σ p = 60
                · rw [if_pos d3] at last ⊢
                  exact last _ rfl
                · rw [if_neg d3] at last ⊢
                  exact last _ rfl
          · rw [if_pos rfl]
            rw [if_neg (by omega)] at last
            exact last _ rfl
        unfold g5_take_194
        dsimp only [pb5]
        rw [gi_5]
        by_cases cs : bS5 σ p ∈ sn5
        · rw [if_pos cs, if_neg (by decide)]
          exact go 3 3 rfl (if_pos cs).symm
        · rw [if_neg cs, if_pos rfl]
          exact go 4 4 rfl (if_neg cs).symm
      by_cases c61 : bAqq5 (bS5 σ) (nS5 σ) (p + 1) = 61
      · rw [if_pos c61]
        by_cases d1 : bS5 σ p = 61
        · rw [if_pos d1]; exact fin 1 (Or.inl ⟨rfl, by rw [hte, if_pos ⟨Or.inl d1, c61⟩]⟩)
        · rw [if_neg d1]
          by_cases d2 : bS5 σ p = 33
          · rw [if_pos d2]; exact fin 1 (Or.inl ⟨rfl, by rw [hte, if_pos ⟨Or.inr (Or.inl d2), c61⟩]⟩)
          · rw [if_neg d2]
            by_cases d3 : bS5 σ p = 60
            · rw [if_pos d3]; exact fin 1 (Or.inl ⟨rfl, by rw [hte, if_pos ⟨Or.inr (Or.inr (Or.inl d3)), c61⟩]⟩)
            · rw [if_neg d3]
              by_cases d4 : bS5 σ p = 62
              · rw [if_pos d4]; exact fin 1 (Or.inl ⟨rfl, by rw [hte, if_pos ⟨Or.inr (Or.inr (Or.inr d4)), c61⟩]⟩)
              · rw [if_neg d4]
                exact fin 0 (Or.inr ⟨rfl, by
                  rw [hte, if_neg (fun q => by
                    rcases q.1 with q | q | q | q
                    · exact d1 q
                    · exact d2 q
                    · exact d3 q
                    · exact d4 q)]⟩)
      · rw [if_neg c61]
        exact fin 0 (Or.inr ⟨rfl, by rw [hte, if_neg (fun q => c61 q.2)]⟩)
/-- the class's kind of a token -/
def cK5 (B : Nat → Int32) (n p : Nat) : Int32 := if isLqq5 (B p) = true then (if tEnq5 B n p - p ≤ 12 then wch5 wl5 150 (nmqq5 B p (tEnq5 B n p - p)) else 143) else if isDqq5 (B p) = true then (if tEnq5 B n p - p ≤ 9 then 141 else 143) else if tEnq5 B n p = p + 2 then (if B p = 61 then 128 else if B p = 33 then 129 else if B p = 60 then 130 else 131) else if B p ∈ sn5 then B p else 143
theorem ixs_5 : ∀ n, n < 256 → (ix5 sn5 (UInt32.toInt32 (Int32.toUInt32 (Int32.ofNat n) % 65536)) < 0 ↔ ¬ (Int32.ofNat n) ∈ sn5) := by decide +kernel
theorem bU_r5 {U : U5} {j : Nat} : 0 ≤ (bU5 U j).toInt ∧ (bU5 U j).toInt < 256 := by
  unfold bU5
  have a := andi_i (x := U.1 j) (m := 255) (by decide)
  have e255 : (255 : Int32).toInt = 255 := rfl
  rw [e255] at a
  omega
theorem of_t5 {x : Int32} (h : 0 ≤ x.toInt) : x = Int32.ofNat x.toInt.toNat := by
  apply Int32.toInt_inj.mp
  have h2 := x.toInt_lt
  rw [Int32.toInt_ofNat_of_lt (by omega)]
  omega
theorem kn_U5 {U : U5} {r : Int32} {p : Nat} (H : okU5 U) (hr : r.toInt = p) (hp : p < nU5 U) : kn5 U r = cK5 (bU5 U) (nU5 U) p ∧ (sz5 U r).toInt = (tEnq5 (bU5 U) (nU5 U) p : Int) - p := by
  have hb : nU5 U = U.2.1.toInt.toNat := rfl
  have hl : ¬ U.2.1 ≤ r := by rw [lei]; omega
  have h0 := H.1
  have ern : r.toInt.toNat = p := by omega
  have hz : sz5 U r = f5_Ta_sizeAt U r := if_neg hl
  have hs := sz_U5 (a := r) H (by omega) (by omega)
  rw [ern, hr] at hs
  have tl := te_ltqq5 (B := bU5 U) (n := nU5 U) (p := p)
  have tb := te_b5 (B := bU5 U) hp
  refine ⟨?_, by rw [hz]; exact hs⟩
  unfold kn5
  rw [if_neg hl, hz]
  have e9 : (9 : Int32).toInt = 9 := rfl
  have e12 : (12 : Int32).toInt = 12 := rfl
  have e2 : (2 : Int32).toInt = 2 := rfl
  have hsn : f5_Ta_sizeAt U r = Int32.ofNat (tEnq5 (bU5 U) (nU5 U) p - p) := by
    rw [of_t5 (x := f5_Ta_sizeAt U r) (by omega), hs]
    congr 1
    omega
  unfold f5_Ta_kindOf cK5
  dsimp only [pb5]
  rw [by_5 H (by omega), ern, ba_5 hp, le_5, dg_5]
  by_cases cL : isLqq5 (bU5 U p) = true
  · rw [if_pos cL, if_neg (by decide), if_pos cL]
    by_cases c : tEnq5 (bU5 U) (nU5 U) p - p ≤ 12
    · rw [if_pos (by rw [lei, hs, e12]; omega), if_pos c]
      exact wo_U5 H hr hsn c (by omega)
    · rw [if_neg (by rw [lei, hs, e12]; omega), if_neg c]
  · rw [if_neg cL, if_pos rfl, if_neg cL]
    by_cases cD : isDqq5 (bU5 U p) = true
    · rw [if_pos cD, if_neg (by decide), if_pos cD]
      by_cases c : tEnq5 (bU5 U) (nU5 U) p - p ≤ 9
      · rw [if_pos (by rw [lei, hs, e9]; omega), if_pos c]
      · rw [if_neg (by rw [lei, hs, e9]; omega), if_neg c]
    · rw [if_neg cD, if_pos rfl, if_neg cD]
      by_cases c : tEnq5 (bU5 U) (nU5 U) p = p + 2
      · rw [if_pos (by apply Int32.toInt_inj.mp; rw [hs, e2]; omega), if_pos c]
      · rw [if_neg (fun q => by rw [q, e2] at hs; omega), if_neg c]
        have b := bU_r5 (U := U) (j := p)
        have ix := ixs_5 (bU5 U p).toInt.toNat (by omega)
        rw [← of_t5 b.1] at ix
        by_cases d : bU5 U p ∈ sn5
        · rw [if_neg (fun q => (ix.mp q) d), if_pos d]
        · rw [if_pos (ix.mpr d), if_neg d]
/-- a token alike -/
def tR5 (B : Nat → Int32) (p s : Nat) (K so nu : Int32) (F : Int64) (G : Int32) : Prop :=
  (K = 143 ∧ so = 4) ∨ (K = 140 ∧ so = 1 ∧ 0 < s ∧ s ≤ 12 ∧ nmP5 B p s F G ∧ ∀ i, i < s → cL5 (B (p + i)) = true) ∨ (K = 141 ∧ so = 2 ∧ nu = nv5 B p s) ∨ (150 ≤ K.toInt ∧ K.toInt ≤ 162 ∧ so = 6 ∧ nu = K - 149) ∨ (so = 3 ∧ ((0 < K.toInt ∧ K.toInt < 128 ∧ nu = K) ∨ (128 ≤ K.toInt ∧ K.toInt ≤ 131 ∧ nu = K + 128)))
theorem sn_b5 : ∀ x ∈ sn5, 0 < x.toInt ∧ x.toInt < 128 := by decide
theorem tR_5 {B : Nat → Int32} {n p : Nat} {so nu : Int32} {F : Int64} {G : Int32} (h : tQ5 B n p so nu F G) : tR5 B p (tEnq5 B n p - p) (cK5 B n p) so nu F G := by
  unfold cK5
  rcases h with ⟨a, b, d, c⟩ | ⟨a, b, c⟩ | ⟨a, b, c, d⟩
  · rw [if_pos a]
    rcases c with ⟨c1, c2⟩ | ⟨c1, c2, c3⟩
    · rw [if_neg (by omega)]
      exact Or.inl ⟨rfl, c2⟩
    · rw [if_pos c1]
      rcases wr_5 (nmqq5 B p (tEnq5 B n p - p)) with ⟨w1, w2⟩ | ⟨w1, w2, w3⟩
      · rw [w2, if_pos (by decide)] at c3
        exact Or.inr (Or.inl ⟨w1, c3, by have := te_ltqq5 (B := B) (n := n) (p := p); omega, c1, b, d⟩)
      · rw [if_neg (by rw [lei, t0i]; omega)] at c3
        have e149 : (149 : Int32).toInt = 149 := rfl
        have ek : (149 + wrf5 (nmqq5 B p (tEnq5 B n p - p))).toInt = 149 + (wrf5 (nmqq5 B p (tEnq5 B n p - p))).toInt := by rw [add_i (by omega) (by omega), e149]
        refine Or.inr (Or.inr (Or.inr (Or.inl ?_)))
        rw [w3]
        refine ⟨by omega, by omega, c3, ?_⟩
        rw [c2]
        apply Int32.toInt_inj.mp
        rw [sub_i (by omega) (by omega), ek, e149]
        omega
  · rw [if_neg a, if_pos b]
    rcases c with ⟨c1, c2⟩ | ⟨c1, c2, c3⟩
    · rw [if_neg (by omega)]
      exact Or.inl ⟨rfl, c2⟩
    · rw [if_pos c1]
      exact Or.inr (Or.inr (Or.inl ⟨rfl, c2, c3⟩))
  · rw [if_neg a, if_neg b]
    by_cases e : tEnq5 B n p = p + 2
    · rw [if_pos e] at d ⊢
      have hc : B p = 61 ∨ B p = 33 ∨ B p = 60 ∨ B p = 62 := by
        unfold tEnq5 at e
        rw [if_neg a, if_neg b] at e
        by_cases q : (B p = 61 ∨ B p = 33 ∨ B p = 60 ∨ B p = 62) ∧ bAqq5 B n (p + 1) = 61
        · exact q.1
        · rw [if_neg q] at e; omega
      rcases hc with q | q | q | q <;> rw [q] at c d ⊢
      · exact Or.inr (Or.inr (Or.inr (Or.inr ⟨c, Or.inr ⟨by decide, by decide, d⟩⟩)))
      · exact Or.inr (Or.inr (Or.inr (Or.inr ⟨c, Or.inr ⟨by decide, by decide, d⟩⟩)))
      · exact Or.inr (Or.inr (Or.inr (Or.inr ⟨c, Or.inr ⟨by decide, by decide, d⟩⟩)))
      · exact Or.inr (Or.inr (Or.inr (Or.inr ⟨c, Or.inr ⟨by decide, by decide, d⟩⟩)))
    · rw [if_neg e] at d ⊢
      by_cases q : B p ∈ sn5
      · rw [if_pos q] at c ⊢
        have z := sn_b5 (B p) q
        exact Or.inr (Or.inr (Or.inr (Or.inr ⟨c, Or.inl ⟨z.1, z.2, d⟩⟩)))
      · rw [if_neg q] at c ⊢
        exact Or.inl ⟨rfl, c⟩
