section
set_option maxHeartbeats 1600000
/-! the class's stores of states and endings against the reference's tables -/
theorem hhs_e6 {K K' : Nat → Int32} {x : Int32} : ∀ {n : Nat}, (∀ i, i < n → K i = K' i) → hhs9 K x n = hhs9 K' x n
  | 0, _ => rfl
  | n + 1, h => by
    show hst9 (hhs9 K x n) (K n) = hst9 (hhs9 K' x n) (K' n)
    rw [hhs_e6 (fun i hi => h i (by omega)), h n (by omega)]
theorem hs_e6 {S l : Nat} {K K' : Nat → Int32} (hl : l ≤ 67108864) (h : ∀ i, i < l → K i = K' i) (j : Nat) : hs9 S K (Int32.ofNat l) j = hs9 S K' (Int32.ofNat l) j := by
  unfold hs9
  rw [cl_5 hl, hhs_e6 h]
section
variable {κ κ' τ : zS} {h S g l l' : Nat} {K K' : Nat → Int32}
theorem hk_e6 (hl : l ≤ 67108864) (e : ∀ i, i < l → K i = K' i) (H : hk9 κ h K (Int32.ofNat l).toInt g) : hk9 κ h K' (Int32.ofNat l).toInt g := by
  obtain ⟨h1, h2, h3⟩ := H
  refine ⟨h1, h2, fun i hi => ?_⟩
  rw [← e i (by rw [ofn_i hl] at hi; omega)]
  exact h3 i hi
theorem hkS_e6 (hl : l ≤ 67108864) (e : ∀ i, i < l → K i = K' i) (H : hkS9 κ h S K (Int32.ofNat l) g) : hkS9 κ h S K' (Int32.ofNat l) g := by
  obtain ⟨h1, j, h2, h3, h4⟩ := H
  refine ⟨hk_e6 hl e h1, j, h2, fun i hi => ?_, by rw [← hs_e6 hl e]; exact h4⟩
  obtain ⟨a, b⟩ := h3 i hi
  rw [← hs_e6 hl e]
  exact ⟨a, fun y => b (hk_e6 hl (fun i hi => (e i hi).symm) y)⟩
theorem hk_u6 (hl : l ≤ 67108864) (hl' : l' ≤ 67108864) (H : hk9 κ h K (Int32.ofNat l).toInt g) (H' : hk9 κ h K' (Int32.ofNat l').toInt g) : l = l' ∧ ∀ i, i < l → K i = K' i := by
  obtain ⟨h1, h2, h3⟩ := H
  obtain ⟨g1, g2, g3⟩ := H'
  rw [ofn_i hl] at h2 h3
  rw [ofn_i hl'] at g2 g3
  have e : l = l' := by omega
  exact ⟨e, fun i hi => (h3 i (by omega)).symm.trans (g3 i (by omega))⟩
/-- the states' store -/
def SH6 (κ : zS) (h w s n : Nat) (σ : rS) : Prop := hoU9 κ h 2048 ∧ zI κ hoTotal h = Int32.ofNat n ∧ n ≤ 1000 ∧ ∀ g, g < n → ∃ d K, KS6 w s d (σ.2.2.1 30) K (fun i => σ.2.2.1 73 (143 * g + i)) ∧ hkS9 κ h 2048 K (Int32.ofNat (w + 9 * d)) g
def EH6 (κ : zS) (h w m : Nat) (σ : rS) : Prop := hoU9 κ h 2048 ∧ zI κ hoTotal h = Int32.ofNat m ∧ m ≤ 1000 ∧ ∀ g, g < m → ∃ K, (∀ i, i < w → K i = σ.2.2.1 75 (35 * g + 1 + i)) ∧ (∀ i, w ≤ i → i < 34 → σ.2.2.1 75 (35 * g + 1 + i) = 0) ∧ K w = σ.2.2.1 75 (35 * g) ∧ hkS9 κ h 2048 K (Int32.ofNat (w + 1)) g
/-- a store that isn't touched -/
def HS6 (κ τ : zS) (h : Nat) : Prop := zA τ (zR τ hoStarts h) = zA κ (zR κ hoStarts h) ∧ zA τ (zR τ hoPool h) = zA κ (zR κ hoPool h) ∧ zA τ (zR τ hoTable h) = zA κ (zR κ hoTable h) ∧ zI τ hoTotal h = zI κ hoTotal h
theorem HS_z6 {C : zC} {n0 : Nat} {F : Nat → Nat → Prop} (W : zW C n0 κ) (T : zT κ h = 6) (Z : zF F κ τ) (hF : ∀ f, ¬ F f h) : HS6 κ τ h :=
  ⟨(Z.row W (show zr hoStarts = some 20 by decide +kernel) (by decide) T (hF hoStarts)).1, (Z.row W (show zr hoPool = some 20 by decide +kernel) (by decide) T (hF hoPool)).1, (Z.row W (show zr hoTable = some 20 by decide +kernel) (by decide) T (hF hoTable)).1, Z.i (hF hoTotal)⟩
theorem hkS_h6 {L : Int32} (H : HS6 κ τ h) (k : hkS9 κ h S K L g) : hkS9 τ h S K L g := by
  obtain ⟨a1, a2, a3, a4⟩ := H
  unfold hkS9 hkW9 hk9 at k ⊢
  rw [a1, a2, a3, a4]
  exact k
theorem hoU_h6 (H : HS6 κ τ h) (k : hoU9 κ h S) : hoU9 τ h S := by
  unfold hoU9 at k ⊢
  rw [H.2.2.1]
  exact k
theorem SH_h6 {w s n : Nat} {σ σ' : rS} (H : HS6 κ τ h) (k : SH6 κ h w s n σ) (h30 : σ'.2.2.1 30 = σ.2.2.1 30) (h73 : σ'.2.2.1 73 = σ.2.2.1 73) : SH6 τ h w s n σ' := by
  obtain ⟨k1, k2, k3, k4⟩ := k
  refine ⟨hoU_h6 H k1, H.2.2.2.trans k2, k3, fun g hg => ?_⟩
  obtain ⟨d, K, a, b⟩ := k4 g hg
  rw [h30, h73]
  exact ⟨d, K, a, hkS_h6 H b⟩
theorem EH_h6 {w m : Nat} {σ σ' : rS} (H : HS6 κ τ h) (k : EH6 κ h w m σ) (h75 : σ'.2.2.1 75 = σ.2.2.1 75) : EH6 τ h w m σ' := by
  obtain ⟨k1, k2, k3, k4⟩ := k
  refine ⟨hoU_h6 H k1, H.2.2.2.trans k2, k3, fun g hg => ?_⟩
  obtain ⟨K, a, b, c, d⟩ := k4 g hg
  rw [h75]
  exact ⟨K, a, b, c, hkS_h6 H d⟩
theorem HS_r6 : HS6 κ κ h := ⟨rfl, rfl, rfl, rfl⟩
/-- what entering a state changes of the reference -/
def SF6 (σ σ' : rS) : Prop := (∀ g, g ≠ 70 → σ'.1 g = σ.1 g) ∧ (∀ g, g ≠ 73 → g ≠ 74 → g ≠ 84 → σ'.2.2.1 g = σ.2.2.1 g) ∧ σ'.2.2.2 = σ.2.2.2
/-- a state entered on both sides -/
theorem ent_6 {w s n lim d : Nat} {v : Int32} {σ : rS} (S : SH6 κ h w s n σ) (KS : KS6 w s d (σ.2.2.1 30) K (key6 d σ)) (h58 : σ.1 58 = Int32.ofNat d) (h70 : σ.1 70 = Int32.ofNat n) (h85 : σ.1 85 = Int32.ofNat lim) (nl : n ≤ lim) (l1 : lim ≤ 1000) (HT : HT6 n σ) (E1 : -1 ≤ v.toInt) (E3 : enS κ κ' h (Int32.ofNat (w + 9 * d)) (Int32.ofNat lim) v) (E4 : enP9 κ κ' h 1000 142 2048 K (Int32.ofNat (w + 9 * d)) (Int32.ofNat lim) v) : ∃ σ', g5_stateNumber σ = (σ', v) ∧ (v = -1 ∨ ∃ n', SH6 κ' h w s n' σ' ∧ σ'.1 70 = Int32.ofNat n' ∧ n' ≤ lim ∧ HT6 n' σ' ∧ SF6 σ σ') := by
  obtain ⟨S1, S2, S3, S4⟩ := S
  obtain ⟨P1, P2, P3, P4, P5, _⟩ := E4
  have d12 := KS.1.2.1
  have d0 := KS.1.1
  have w34 := KS.1.2.2.1
  have tn : (zI κ hoTotal h).toInt = n := by rw [S2, ofn_i (by omega)]
  have neg : (∀ j, j < n → ¬ KQ6 σ j (key6 d σ)) → κ' = κ → v = -1 := fun no e => by
    by_cases y : 0 ≤ v.toInt
    · exfalso
      have q := (P3 y).1
      rw [e] at q
      have q1 := q.1
      rw [tn] at q1
      obtain ⟨dg, Kg, a, b⟩ := S4 v.toNatClampNeg (by omega)
      have dg12 := a.1.2.1
      obtain ⟨u1, u2⟩ := hk_u6 (by omega) (by omega) b.1 q
      exact no v.toNatClampNeg (by omega) ((KS_e6 a KS).mpr ⟨by omega, u2⟩)
    · exact Int32.toInt_inj.mp (by rw [show (-1 : Int32).toInt = -1 from rfl]; omega)
  rcases stn_6 d12 h58 h70 h85 nl l1 HT with ⟨g, τ, g1, g2, g3, g4, g5⟩ | ⟨no, ⟨q, τ, g4, g5⟩ | ⟨q, τ, g4, g5⟩⟩
  · obtain ⟨dg, Kg, a, b⟩ := S4 g g1
    obtain ⟨u1, u2⟩ := (KS_e6 a KS).mp g2
    rw [u1] at b u2
    obtain ⟨e1, e2⟩ := P4 g (hkS_e6 (by omega) u2 b)
    have ev : v = Int32.ofNat g := Int32.toInt_inj.mp (by rw [ofn_i (by omega)]; omega)
    refine ⟨τ, by rw [ev]; exact g4, Or.inr ⟨n, ?_, by rw [g5.1]; exact h70, nl, fun j hj => by rw [g5.2.2.1 74 (by decide), g5.2.2.1 73 (by decide)]; exact HT j hj, fun k _ => by rw [g5.1], fun k _ _ y => g5.2.2.1 k y, g5.2.2.2⟩⟩
    rw [e1]
    exact SH_h6 HS_r6 ⟨S1, S2, S3, S4⟩ (g5.2.2.1 30 (by decide)) (g5.2.2.1 73 (by decide))
  · have e : κ' = κ := by
      rcases E3 with e | ⟨_, _, y, _⟩
      · exact e
      · rw [ofn_i (by omega)] at y
        omega
    have ev := neg no e
    exact ⟨τ, by rw [ev]; exact g4, Or.inl ev⟩
  · rcases E3 with e | ⟨y1, y2, y3, _, _⟩
    · exfalso
      have ev := neg no e
      have y := P5 (by rw [ev]; decide)
      rw [ofn_i (by omega), ofn_i (by omega)] at y
      omega
    · have ev : v = Int32.ofNat n := Int32.toInt_inj.mp (by rw [ofn_i (by omega)]; omega)
      obtain ⟨z1, z2, z3, z4, z5, z6⟩ := g5
      have row : ∀ g, g < n → ∀ i, i < 143 → τ.2.2.1 73 (143 * g + i) = σ.2.2.1 73 (143 * g + i) := fun g hg i hi => by rw [z5, if_neg (by omega)]
      have new : ∀ i, i < 143 → τ.2.2.1 73 (143 * n + i) = key6 d σ i := fun i hi => by rw [z5, if_pos (by omega), show 143 * n + i - 143 * n = i by omega]
      have z30 := z3 30 (by decide) (by decide) (by decide)
      refine ⟨τ, by rw [ev]; exact g4, Or.inr ⟨n + 1, ⟨P1, Int32.toInt_inj.mp (by rw [ofn_i (by omega)]; omega), by omega, fun g hg => ?_⟩, z1, by omega, fun j hj => ?_, z2, z3, z4⟩⟩
      · by_cases gn : g = n
        · rw [z30, gn]
          have p3 := P3 (by omega)
          rw [show v.toNatClampNeg = n by rw [ev, cl_5 (by omega)]] at p3
          exact ⟨d, K, KS_q6 KS new, p3⟩
        · obtain ⟨dg, Kg, a, b⟩ := S4 g (by omega)
          rw [z30]
          exact ⟨dg, Kg, KS_q6 a (row g (by omega)), P2 _ _ _ b⟩
      · rw [z6]
        by_cases jn : j = n
        · rw [if_pos jn, jn]
          exact (hh_e6 new).symm
        · rw [if_neg jn, HT j (by omega)]
          exact (hh_e6 (row j (by omega))).symm
def EF6 (σ σ' : rS) : Prop := (∀ g, g ≠ 71 → σ'.1 g = σ.1 g) ∧ (∀ g, g ≠ 75 → σ'.2.2.1 g = σ.2.2.1 g) ∧ σ'.2.2.2 = σ.2.2.2
/-- an ending entered on both sides -/
theorem enE_6 {w m : Nat} {v : Int32} {σ : rS} (S : EH6 κ h w m σ) (w34 : w ≤ 34) (hg : ∀ i, i < w → K i = σ.2.2.1 57 i) (hz : zt6 w σ) (hw : K w = σ.1 61) (h71 : σ.1 71 = Int32.ofNat m) (E1 : -1 ≤ v.toInt) (E3 : enS κ κ' h (Int32.ofNat (w + 1)) 1000 v) (E4 : enP9 κ κ' h 1000 35 2048 K (Int32.ofNat (w + 1)) 1000 v) : ∃ σ', g5_endingNumber σ = (σ', v) ∧ (v = -1 ∨ ∃ m', EH6 κ' h w m' σ' ∧ σ'.1 71 = Int32.ofNat m' ∧ EF6 σ σ') := by
  obtain ⟨S1, S2, S3, S4⟩ := S
  obtain ⟨P1, P2, P3, P4, P5, _⟩ := E4
  have tn : (zI κ hoTotal h).toInt = m := by rw [S2, ofn_i (by omega)]
  have l1000 : (1000 : Int32).toInt = 1000 := rfl
  have iff : ∀ (g : Nat) (Kg : Nat → Int32), (∀ i, i < w → Kg i = σ.2.2.1 75 (35 * g + 1 + i)) → (∀ i, w ≤ i → i < 34 → σ.2.2.1 75 (35 * g + 1 + i) = 0) → Kg w = σ.2.2.1 75 (35 * g) → (EQ6 σ g ↔ ∀ i, i < w + 1 → Kg i = K i) := fun g Kg a b c => by
    refine ⟨fun e i hi => ?_, fun e => ⟨?_, fun i hi => ?_⟩⟩
    · by_cases y : i = w
      · rw [y, c, hw]; exact e.1
      · rw [a i (by omega), hg i (by omega)]; exact e.2 i (by omega)
    · rw [← c, e w (by omega), hw]
    · by_cases y : i < w
      · rw [← a i y, e i (by omega), hg i y]
      · rw [b i (by omega) hi, hz i (by omega) hi]
  have neg : (∀ j, j < m → ¬ EQ6 σ j) → κ' = κ → v = -1 := fun no e => by
    by_cases y : 0 ≤ v.toInt
    · exfalso
      have q := (P3 y).1
      rw [e] at q
      have q1 := q.1
      rw [tn] at q1
      obtain ⟨Kg, a, b, c, b'⟩ := S4 v.toNatClampNeg (by omega)
      obtain ⟨_, u2⟩ := hk_u6 (by omega) (by omega) b'.1 q
      exact no v.toNatClampNeg (by omega) ((iff _ Kg a b c).mpr u2)
    · exact Int32.toInt_inj.mp (by rw [show (-1 : Int32).toInt = -1 from rfl]; omega)
  rcases enn_6 S3 h71 with ⟨g, g1, g2, g4⟩ | ⟨no, ⟨q, g4⟩ | ⟨q, τ, g4, g5⟩⟩
  · obtain ⟨Kg, a, b, c, b'⟩ := S4 g g1
    obtain ⟨e1, e2⟩ := P4 g (hkS_e6 (by omega) ((iff g Kg a b c).mp g2) b')
    have ev : v = Int32.ofNat g := Int32.toInt_inj.mp (by rw [ofn_i (by omega)]; omega)
    refine ⟨σ, by rw [ev]; exact g4, Or.inr ⟨m, ?_, h71, fun _ _ => rfl, fun _ _ => rfl, rfl⟩⟩
    rw [e1]
    exact ⟨S1, S2, S3, S4⟩
  · have e : κ' = κ := by
      rcases E3 with e | ⟨_, _, y, _⟩
      · exact e
      · rw [l1000] at y
        omega
    have ev := neg no e
    exact ⟨σ, by rw [ev]; exact g4, Or.inl ev⟩
  · rcases E3 with e | ⟨y1, y2, y3, _, _⟩
    · exfalso
      have ev := neg no e
      have y := P5 (by rw [ev]; decide)
      rw [ofn_i (by omega), l1000] at y
      omega
    · have ev : v = Int32.ofNat m := Int32.toInt_inj.mp (by rw [ofn_i (by omega)]; omega)
      obtain ⟨z1, z2, z3, z4, z5⟩ := g5
      refine ⟨τ, by rw [ev]; exact g4, Or.inr ⟨m + 1, ⟨P1, Int32.toInt_inj.mp (by rw [ofn_i (by omega)]; omega), by omega, fun g hg9 => ?_⟩, z1, z2, z3, z4⟩⟩
      by_cases gn : g = m
      · rw [gn]
        have p3 := P3 (by omega)
        rw [show v.toNatClampNeg = m by rw [ev, cl_5 (by omega)]] at p3
        refine ⟨K, fun i hi => ?_, fun i h1 h2 => ?_, ?_, p3⟩
        · rw [z5, if_neg (by omega), if_pos (by omega), show 35 * m + 1 + i - (35 * m + 1) = i by omega]
          exact hg i hi
        · rw [z5, if_neg (by omega), if_pos (by omega), show 35 * m + 1 + i - (35 * m + 1) = i by omega]
          exact hz i h1 h2
        · rw [z5, if_pos rfl]
          exact hw
      · obtain ⟨Kg, a, b, c, b'⟩ := S4 g (by omega)
        refine ⟨Kg, fun i hi => ?_, fun i h1 h2 => ?_, ?_, P2 _ _ _ b'⟩
        · rw [z5, if_neg (by omega), if_neg (by omega)]; exact a i hi
        · rw [z5, if_neg (by omega), if_neg (by omega)]; exact b i h1 h2
        · rw [z5, if_neg (by omega), if_neg (by omega)]; exact c
end
/-- what is explored so far, on both sides -/
def RL6 (κ : zS) (a w s lim : Nat) (σ : rS) : Prop := ∃ n m nx, SH6 κ (zR κ atStates a) w s n σ ∧ EH6 κ (zR κ atEndings a) w m σ ∧ (σ.1 70 = Int32.ofNat n ∧ σ.1 71 = Int32.ofNat m ∧ σ.1 72 = Int32.ofNat nx ∧ σ.1 85 = Int32.ofNat lim) ∧ (n ≤ lim ∧ lim ≤ 1000 ∧ nx ≤ 20000) ∧ HT6 n σ ∧ zI κ atNexts a = Int32.ofNat nx ∧ ∀ t, t < nx → zA κ (zR κ atSorts a) t = σ.2.2.1 77 t ∧ zA κ (zR κ atNumbers a) t = σ.2.2.1 78 t ∧ zA κ (zR κ atWeights a) t = σ.2.2.1 79 t
def NF6 (σ σ' : rS) : Prop := (∀ g, g ≠ 70 → g ≠ 71 → g ≠ 72 → σ'.1 g = σ.1 g) ∧ (∀ g, g ≠ 73 → g ≠ 74 → g ≠ 75 → g ≠ 77 → g ≠ 78 → g ≠ 79 → g ≠ 84 → σ'.2.2.1 g = σ.2.2.1 g) ∧ σ'.2.2.2 = σ.2.2.2
theorem NF_r6 {σ : rS} : NF6 σ σ := ⟨fun _ _ _ _ => rfl, fun _ _ _ _ _ _ _ _ => rfl, rfl⟩
theorem NF_t6 {a b c : rS} (h : NF6 a b) (k : NF6 b c) : NF6 a c := ⟨fun g x1 x2 x3 => (k.1 g x1 x2 x3).trans (h.1 g x1 x2 x3), fun g x1 x2 x3 x4 x5 x6 x7 => (k.2.1 g x1 x2 x3 x4 x5 x6 x7).trans (h.2.1 g x1 x2 x3 x4 x5 x6 x7), k.2.2.trans h.2.2⟩
theorem NF_s6 {a b : rS} (h : SF6 a b) : NF6 a b := ⟨fun g x _ _ => h.1 g x, fun g x1 x2 _ _ _ _ x7 => h.2.1 g x1 x2 x7, h.2.2⟩
theorem NF_e6 {a b : rS} (h : EF6 a b) : NF6 a b := ⟨fun g _ x _ => h.1 g x, fun g _ _ x _ _ _ _ => h.2.1 g x, h.2.2⟩

end
section
set_option maxHeartbeats 1600000
/-! a next told, on both sides: pieces -/
section
variable {C : zC} {n0 a h : Nat} {κ τ υ : zS} {F : Nat → Nat → Prop}
theorem HS_t6 (x : HS6 κ τ h) (y : HS6 τ υ h) : HS6 κ υ h := ⟨y.1.trans x.1, y.2.1.trans x.2.1, y.2.2.1.trans x.2.2.1, y.2.2.2.trans x.2.2.2⟩
/-- the store's lengths too -/
def HN6 (κ τ : zS) (h : Nat) : Prop := HS6 κ τ h ∧ zN τ (zR τ hoTable h) = zN κ (zR κ hoTable h) ∧ zN τ (zR τ hoStarts h) = zN κ (zR κ hoStarts h) ∧ zN τ (zR τ hoPool h) = zN κ (zR κ hoPool h)
theorem HN_z6 (W : zW C n0 κ) (T : zT κ h = 6) (Z : zF F κ τ) (hF : ∀ f, ¬ F f h) : HN6 κ τ h :=
  ⟨HS_z6 W T Z hF, by rw [Z.r (hF hoTable)]; exact Z.l (ty_hoTable W T), by rw [Z.r (hF hoStarts)]; exact Z.l (ty_hoStarts W T), by rw [Z.r (hF hoPool)]; exact Z.l (ty_hoPool W T)⟩
theorem HN_r6 : HN6 κ κ h := ⟨HS_r6, rfl, rfl, rfl⟩
theorem HN_t6 (x : HN6 κ τ h) (y : HN6 τ υ h) : HN6 κ υ h := ⟨HS_t6 x.1 y.1, y.2.1.trans x.2.1, y.2.2.1.trans x.2.2.1, y.2.2.2.trans x.2.2.2⟩
theorem hoA_n6 {M D S : Nat} (x : HN6 κ τ h) (A : hoA κ h M D S) : hoA τ h M D S := by
  obtain ⟨⟨a1, a2, a3, a4⟩, b1, b2, b3⟩ := x
  unfold hoA at A ⊢
  rw [a1, a3, a4, b1, b2, b3]
  exact A
/-- both stores in order, no number twice -/
def lU9 (κ : zS) (a : Nat) : Prop := hoA κ (zR κ atStates a) 1000 142 2048 ∧ hoA κ (zR κ atEndings a) 1000 35 2048 ∧ hoU9 κ (zR κ atStates a) 2048 ∧ hoU9 κ (zR κ atEndings a) 2048
/-- the atlas's own where it isn't touched -/
def NP6 (κ τ : zS) (a : Nat) : Prop := zI τ atNexts a = zI κ atNexts a ∧ zA τ (zR τ atSorts a) = zA κ (zR κ atSorts a) ∧ zA τ (zR τ atNumbers a) = zA κ (zR κ atNumbers a) ∧ zA τ (zR τ atWeights a) = zA κ (zR κ atWeights a) ∧ zR τ atStates a = zR κ atStates a ∧ zR τ atEndings a = zR κ atEndings a ∧ zR τ atMachine a = zR κ atMachine a ∧ zA τ (zR τ atFirsts a) = zA κ (zR κ atFirsts a) ∧ zA τ (zR τ atChooses a) = zA κ (zR κ atChooses a)
theorem NP_z6 (W : zW C n0 κ) (T : zT κ a = 3) (Z : zF F κ τ) (hF : ∀ f, ¬ F f a) : NP6 κ τ a :=
  ⟨Z.i (hF atNexts), (Z.row W (show zr atSorts = some 20 by decide +kernel) (by decide) T (hF atSorts)).1, (Z.row W (show zr atNumbers = some 20 by decide +kernel) (by decide) T (hF atNumbers)).1, (Z.row W (show zr atWeights = some 20 by decide +kernel) (by decide) T (hF atWeights)).1, Z.r (hF atStates), Z.r (hF atEndings), Z.r (hF atMachine), (Z.row W (show zr atFirsts = some 20 by decide +kernel) (by decide) T (hF atFirsts)).1, (Z.row W (show zr atChooses = some 23 by decide +kernel) (by decide) T (hF atChooses)).1⟩
theorem NP_t6 (x : NP6 κ τ a) (y : NP6 τ υ a) : NP6 κ υ a := ⟨y.1.trans x.1, y.2.1.trans x.2.1, y.2.2.1.trans x.2.2.1, y.2.2.2.1.trans x.2.2.2.1, y.2.2.2.2.1.trans x.2.2.2.2.1, y.2.2.2.2.2.1.trans x.2.2.2.2.2.1, y.2.2.2.2.2.2.1.trans x.2.2.2.2.2.2.1, y.2.2.2.2.2.2.2.1.trans x.2.2.2.2.2.2.2.1, y.2.2.2.2.2.2.2.2.trans x.2.2.2.2.2.2.2.2⟩
/-- nothing of what is explored was touched -/
theorem RL_n6 {w s lim : Nat} {σ σ' : rS} (N : NP6 κ τ a) (H1 : HS6 κ τ (zR κ atStates a)) (H2 : HS6 κ τ (zR κ atEndings a)) (R : RL6 κ a w s lim σ) (hf : ∀ g, g = 70 ∨ g = 71 ∨ g = 72 ∨ g = 85 → σ'.1 g = σ.1 g) (hr : ∀ g, g = 30 ∨ g = 73 ∨ g = 74 ∨ g = 75 ∨ g = 77 ∨ g = 78 ∨ g = 79 → σ'.2.2.1 g = σ.2.2.1 g) : RL6 τ a w s lim σ' := by
  obtain ⟨n, m, nx, r1, r2, ⟨r3, r4, r5, r6⟩, r7, r8, r9, r10⟩ := R
  obtain ⟨p1, p2, p3, p4, p5, p6, _⟩ := N
  refine ⟨n, m, nx, by rw [p5]; exact SH_h6 H1 r1 (hr 30 (by decide)) (hr 73 (by decide)), by rw [p6]; exact EH_h6 H2 r2 (hr 75 (by decide)), ⟨(hf 70 (by decide)).trans r3, (hf 71 (by decide)).trans r4, (hf 72 (by decide)).trans r5, (hf 85 (by decide)).trans r6⟩, r7, fun j hj => by rw [hr 74 (by decide), hr 73 (by decide)]; exact r8 j hj, p1.trans r9, fun t ht => ?_⟩
  rw [p2, p3, p4, hr 77 (by decide), hr 78 (by decide), hr 79 (by decide)]
  exact r10 t ht
/-- the machine's record where the machine isn't touched -/
theorem am_z6 {m : Nat} (W : zW C n0 κ) (T : zT κ m = 7) (Z : zF F κ τ) (h1 : ∀ f, ¬ F f m) (h2 : ∀ f, ¬ F f (zR κ maCode m)) : am6 τ m = am6 κ m := by
  have Tc : zT κ (zR κ maCode m) = 5 := ty_maCode W T
  have rc : zR τ maCode m = zR κ maCode m := Z.r (h1 maCode)
  have i1 : ∀ f, zI τ f m = zI κ f m := fun f => Z.i (h1 f)
  have i2 : ∀ f, zI τ f (zR κ maCode m) = zI κ f (zR κ maCode m) := fun f => Z.i (h2 f)
  have a1 : ∀ f, f ∈ mr6 → zA τ (zR τ f m) = zA κ (zR κ f m) ∧ zN τ (zR τ f m) = zN κ (zR κ f m) := fun f hf => by
    obtain ⟨f1, f2⟩ := mr_t6 f hf
    exact ⟨(Z.row W f1 (by decide) (T.trans f2.symm) (h1 f)).1, by rw [Z.r (h1 f)]; exact Z.l (W.r f1 (T.trans f2.symm))⟩
  have a2 : ∀ f, ((f = 506 ∨ f = 507 ∨ f = 508) ∨ f ∈ cr6) → zA τ (zR τ f (zR κ maCode m)) = zA κ (zR κ f (zR κ maCode m)) ∧ zN τ (zR τ f (zR κ maCode m)) = zN κ (zR κ f (zR κ maCode m)) := fun f hf => by
    obtain ⟨f1, f2⟩ := cr_t6 f hf
    exact ⟨(Z.row W f1 (by decide) (Tc.trans f2.symm) (h2 f)).1, by rw [Z.r (h2 f)]; exact Z.l (W.r f1 (Tc.trans f2.symm))⟩
  unfold am6 mb6
  rw [rc, i2 513, i2 515]
  refine Prod.ext (funext fun g => ?_) (Prod.ext (funext fun g => ?_) (funext fun g => ?_))
  · show (if g ∈ ci6 then zI τ g (zR κ maCode m) else if g ∈ mi6 then zI τ g m else 0) = (if g ∈ ci6 then zI κ g (zR κ maCode m) else if g ∈ mi6 then zI κ g m else 0)
    rw [i1, i2]
  · show (if g = 506 ∨ g = 507 ∨ g = 508 then _ else if g ∈ cr6 then _ else if g ∈ mr6 then _ else _) = (if g = 506 ∨ g = 507 ∨ g = 508 then _ else if g ∈ cr6 then _ else if g ∈ mr6 then _ else _)
    by_cases q1 : g = 506 ∨ g = 507 ∨ g = 508
    · rw [if_pos q1, if_pos q1, (a2 g (Or.inl q1)).1]
    · rw [if_neg q1, if_neg q1]
      by_cases q2 : g ∈ cr6
      · rw [if_pos q2, if_pos q2, (a2 g (Or.inr q2)).1]
      · rw [if_neg q2, if_neg q2]
        by_cases q3 : g ∈ mr6
        · rw [if_pos q3, if_pos q3, (a1 g q3).1]
        · rw [if_neg q3, if_neg q3]
  · show (if g ∈ cr6 then _ else if g ∈ mr6 then _ else _) = (if g ∈ cr6 then _ else if g ∈ mr6 then _ else _)
    by_cases q2 : g ∈ cr6
    · rw [if_pos q2, if_pos q2, (a2 g (Or.inr q2)).2]
    · rw [if_neg q2, if_neg q2]
      by_cases q3 : g ∈ mr6
      · rw [if_pos q3, if_pos q3, (a1 g q3).2]
      · rw [if_neg q3, if_neg q3]
/-- of the machine the memory alone was touched -/
def MM6 (κ τ : zS) (a : Nat) : Prop := zR τ atMachine a = zR κ atMachine a ∧ (am6 τ (zR κ atMachine a)).1 = (am6 κ (zR κ atMachine a)).1 ∧ (∀ g, g ≠ 701 → (am6 τ (zR κ atMachine a)).2.1 g = (am6 κ (zR κ atMachine a)).2.1 g) ∧ (am6 τ (zR κ atMachine a)).2.2 = (am6 κ (zR κ atMachine a)).2.2
theorem MM_r6 : MM6 κ κ a := ⟨rfl, rfl, fun _ _ => rfl, rfl⟩
theorem MM_t6 (x : MM6 κ τ a) (y : MM6 τ υ a) : MM6 κ υ a := by
  obtain ⟨y1, y2, y3, y4⟩ := y
  rw [x.1] at y1 y2 y3 y4
  exact ⟨y1, y2.trans x.2.1, fun g q => (y3 g q).trans (x.2.2.1 g q), y4.trans x.2.2.2⟩
theorem MM_e6 (r : zR τ atMachine a = zR κ atMachine a) (h : am6 τ (zR κ atMachine a) = am6 κ (zR κ atMachine a)) : MM6 κ τ a := ⟨r, by rw [h], fun _ _ => by rw [h], by rw [h]⟩
theorem MM_m6 {i : Nat} {x : Int32} (W : zW C n0 κ) (T : zT κ a = 3) (e : τ = ua κ (zR κ maMemory (zR κ atMachine a)) i x) : MM6 κ τ a := by
  have z := am_ur6 (τ := τ) (f := maMemory) W (ty_atMachine W T) (by decide) (by rw [e]; rfl) (by rw [e]; rfl) (by rw [e]; rfl) (fun y q => by rw [e]; exact if_neg q)
  exact ⟨by rw [e]; rfl, by rw [z], fun g q => by rw [z]; exact if_neg q, by rw [z]⟩
theorem cod_6 (W : zW C n0 κ) (T : zT κ a = 3) {b t : Nat} (Tb : zT κ b = t) (ht : t ≠ 5) : zR κ maCode (zR κ atMachine a) ≠ b := fun e => by
  have q := ty_maCode W (ty_atMachine W T)
  rw [e, Tb] at q
  exact ht q
/-- rows of states that are there stay there -/
def HP6 (κ τ : zS) (a : Nat) : Prop := ∀ K L g, hkS9 κ (zR κ atStates a) 2048 K L g → hkS9 τ (zR τ atStates a) 2048 K L g
theorem HP_r6 : HP6 κ κ a := fun _ _ _ h => h
theorem HP_t6 (x : HP6 κ τ a) (y : HP6 τ υ a) : HP6 κ υ a := fun K L g h => y K L g (x K L g h)
theorem HP_h6 (r : zR τ atStates a = zR κ atStates a) (H : HS6 κ τ (zR κ atStates a)) : HP6 κ τ a := fun K L g h => by
  rw [r]
  exact hkS_h6 H h
/-- what is given when a next is told -/
def LDi6 (κ : zS) (a : Nat) (k a3 : Int32) (nv w s lim : Nat) (σ : rS) (r c : Int32) : Prop := RL6 κ a w s lim σ ∧ OU6 nv w s (am6 κ (zR κ atMachine a)) σ r ∧ (a3 = Int32.ofNat lim ∧ zI κ maShared (zR κ atMachine a) = Int32.ofNat w ∧ w ≤ 34) ∧ (c ≠ 0 → zA κ (zR κ atChooses a) k.toNatClampNeg = 0) ∧ (c = 0 → zA κ (zR κ atChooses a) k.toNatClampNeg ≠ 0 ∨ zA κ (zR κ atFirsts a) k.toNatClampNeg = zI κ atNexts a)
def ldS6 (κ κ' : zS) (a : Nat) (k a2 a3 v : Int32) : Prop := (lU9 κ' a ∧ MM6 κ κ' a ∧ HP6 κ κ' a) ∧ ∀ nv w s lim σ r c, LDi6 κ a k a3 nv w s lim σ r c → ∃ σ', g5_addNext r a2 c (zA κ (zR κ atFirsts a) k.toNatClampNeg) σ = (σ', v) ∧ (v ≠ 0 → RL6 κ' a w s lim σ' ∧ NF6 σ σ')
def ldE6 (κ τ : zS) (a : Nat) (k a3 l4 l5 : Int32) : Prop := lU9 τ a ∧ (zA τ (zR τ atFirsts a) = zA κ (zR κ atFirsts a) ∧ zA τ (zR τ atChooses a) = zA κ (zR κ atChooses a) ∧ zI τ atNexts a = zI κ atNexts a ∧ MM6 κ τ a ∧ HP6 κ τ a) ∧ ∀ nv w s lim σ r c, LDi6 κ a k a3 nv w s lim σ r c → ∃ σ1, whr6 r σ = (σ1, l5) ∧ l4 = r ∧ ((l5 = -1 ∧ ¬ (2 : Int32) ≤ r) ∨ (l5 ≠ -1 ∧ RL6 τ a w s lim σ1 ∧ NF6 σ σ1))
theorem ou_r6 {nv w s m : Nat} {σ : rS} {r : Int32} (h : OU6 nv w s (am6 κ m) σ r) : zI κ maOutcome m = r := (am_i6 (f := 711) (by decide)).symm.trans h.1
theorem ldE_36 {k a3 x : Int32} (hU : lU9 κ a) (hx : x = zI κ maOutcome (zR κ atMachine a)) (c0 : ¬ x = 0) (c1 : ¬ x = 1) (c2 : ¬ x = 2) : ldE6 κ κ a k a3 x 0 := by
  refine ⟨hU, ⟨rfl, rfl, rfl, MM_r6, HP_r6⟩, fun nv w s lim σ r c L => ?_⟩
  have xr : x = r := hx.trans (ou_r6 L.2.1)
  refine ⟨σ, ?_, xr, Or.inr ⟨by decide, L.1, NF_r6⟩⟩
  unfold whr6
  rw [← xr, if_neg c0, if_neg c1, if_neg c2]
theorem ldE_26 {k a3 x y : Int32} (hU : lU9 κ a) (hx : x = zI κ maOutcome (zR κ atMachine a)) (c2 : x = 2) (hy : y = zI κ maFailure (zR κ atMachine a)) : ldE6 κ κ a k a3 x y := by
  refine ⟨hU, ⟨rfl, rfl, rfl, MM_r6, HP_r6⟩, fun nv w s lim σ r c L => ?_⟩
  have xr : x = r := hx.trans (ou_r6 L.2.1)
  have r2 : r = 2 := xr.symm.trans c2
  have y713 : (am6 κ (zR κ atMachine a)).1 713 = y := (am_i6 (f := 713) (by decide)).trans hy.symm
  rcases L.2.1.2 with ⟨q, _⟩ | ⟨q, _⟩ | ⟨_, q1, q2⟩ | q
  · rw [r2] at q; exact absurd q (by decide)
  · rw [r2] at q; exact absurd q (by decide)
  · rw [y713] at q1 q2
    refine ⟨σ, ?_, xr, Or.inr ⟨q2, L.1, NF_r6⟩⟩
    unfold whr6
    rw [r2, if_neg (by decide), if_neg (by decide), if_pos rfl, q1]
  · rw [r2] at q; exact absurd q (by decide)
/-- a state told -/
theorem ldE_06 {k a3 x r10 v : Int32} {m : Nat} (W : zW C n0 κ) (T : zT κ a = 3) (ne : zR κ atStates a ≠ zR κ atEndings a) (hU : lU9 κ a) (hx : x = zI κ maOutcome (zR κ atMachine a)) (c0 : x = 0) (hl : r10 = zI κ maShared (zR κ atMachine a) + zI κ maOpen (zR κ atMachine a) * 9) (Z : zF (hoF (zR κ atStates a)) κ τ) (hA : hoA τ (zR κ atStates a) 1000 142 2048) (E1 : -1 ≤ v.toInt) (E3 : enS κ τ (zR κ atStates a) r10 a3 v) (E4 : enP9 κ τ (zR κ atStates a) 1000 142 2048 (zA κ (zR κ maMemory (zR κ atMachine a))) r10 a3 v) : ldE6 κ τ a k a3 x v := by
  have nn := at_ne W T
  have N : NP6 κ τ a := NP_z6 W T Z (fun f q => nn.1.2.1 q.1.symm)
  have HE : HN6 κ τ (zR κ atEndings a) := HN_z6 W (ty_atEndings W T) Z (fun f q => ne q.1.symm)
  obtain ⟨u1, u2, u3, u4⟩ := hU
  refine ⟨⟨by rw [N.2.2.2.2.1]; exact hA, by rw [N.2.2.2.2.2.1]; exact hoA_n6 HE u2, by rw [N.2.2.2.2.1]; exact E4.1, by rw [N.2.2.2.2.2.1]; exact hoU_h6 HE.1 u4⟩, ⟨N.2.2.2.2.2.2.2.1, N.2.2.2.2.2.2.2.2, N.1, MM_e6 N.2.2.2.2.2.2.1 (am_z6 W (ty_atMachine W T) Z (fun f q => nn.2.1 q.1) (fun f q => cod_6 W T (ty_atStates W T) (by decide) q.1)), fun K L g y => by rw [N.2.2.2.2.1]; exact E4.2.1 K L g y⟩, fun nv w s lim σ r c L => ?_⟩
  obtain ⟨R, O, ⟨L1, L2, L3⟩, _⟩ := L
  have xr : x = r := hx.trans (ou_r6 O)
  have r0 : r = 0 := xr.symm.trans c0
  rcases O.2 with ⟨_, d, d0, M, A⟩ | ⟨q, _⟩ | ⟨q, _⟩ | q
  · have KS := KS_m6 M d0 A
    rw [(am_rw6 (f := 701) (by decide)).1] at KS
    have d12 := M.2.1.2.2.1
    have o3 : zI κ maOpen (zR κ atMachine a) = Int32.ofNat d := (am_i6 (f := 703) (by decide)).symm.trans M.2.1.1
    have el : r10 = Int32.ofNat (w + 9 * d) := by
      rw [hl, L2, o3, show (9 : Int32) = Int32.ofNat 9 from rfl, mul_n6 (by omega) (by omega) (by omega), on_5 (by omega), Nat.mul_comm d 9]
    obtain ⟨n, mm, nx, q1, q2, ⟨q3, q4, q5, q6⟩, ⟨q7, q8, q9⟩, q10, q11, q12⟩ := R
    rw [el, L1] at E3 E4
    obtain ⟨σ', z1, z2⟩ := ent_6 q1 KS M.2.1.2.1 q3 q6 q7 q8 q10 E1 E3 E4
    refine ⟨σ', ?_, xr, ?_⟩
    · unfold whr6
      rw [r0, if_pos rfl]
      exact z1
    · by_cases y : v = -1
      · exact Or.inl ⟨y, by rw [r0]; decide⟩
      · obtain ⟨n', y1, y2, y3, y4, y5⟩ := z2.resolve_left y
        have NF := NF_s6 y5
        refine Or.inr ⟨y, ⟨n', mm, nx, by rw [N.2.2.2.2.1]; exact y1, by rw [N.2.2.2.2.2.1]; exact EH_h6 HE.1 q2 (y5.2.1 75 (by decide) (by decide) (by decide)), ⟨y2, (y5.1 71 (by decide)).trans q4, (y5.1 72 (by decide)).trans q5, (y5.1 85 (by decide)).trans q6⟩, ⟨y3, q8, q9⟩, y4, N.1.trans q11, fun t ht => ?_⟩, NF⟩
        rw [N.2.1, N.2.2.1, N.2.2.2.1, y5.2.1 77 (by decide) (by decide) (by decide), y5.2.1 78 (by decide) (by decide) (by decide), y5.2.1 79 (by decide) (by decide) (by decide)]
        exact q12 t ht
  · rw [r0] at q; exact absurd q (by decide)
  · rw [r0] at q; exact absurd q (by decide)
  · rw [r0] at q; exact absurd q (by decide)
/-- an ending told -/
theorem ldE_16 {k a3 x v : Int32} (W : zW C n0 κ) (T : zT κ a = 3) (Wt : zW C n0 τ) (ne : zR κ atStates a ≠ zR κ atEndings a) (hU : lU9 κ a) (hx : x = zI κ maOutcome (zR κ atMachine a)) (c1 : x = 1) (e22 : τ = ua κ (zR κ maMemory (zR κ atMachine a)) (zI κ maShared (zR κ atMachine a)).toNatClampNeg (zI κ maNumber (zR κ atMachine a))) (Z : zF (hoF (zR τ atEndings a)) τ υ) (hA : hoA υ (zR τ atEndings a) 1000 35 2048) (E1 : -1 ≤ v.toInt) (E3 : enS τ υ (zR τ atEndings a) (zI τ maShared (zR τ atMachine a) + 1) 1000 v) (E4 : enP9 τ υ (zR τ atEndings a) 1000 35 2048 (zA τ (zR τ maMemory (zR τ atMachine a))) (zI τ maShared (zR τ atMachine a) + 1) 1000 v) : ldE6 κ υ a k a3 x v := by
  have nn := at_ne W T
  have rR : zR τ = zR κ := by rw [e22]; rfl
  have rI : zI τ = zI κ := by rw [e22]; rfl
  have Z1 : zF (objF (zR κ atMachine a)) κ τ := by rw [e22]; exact zF_ua (by rw [ow_maMemory W (ty_atMachine W T)])
  have N1 : NP6 κ τ a := NP_z6 W T Z1 (fun f q => nn.1.1 (Eq.symm q))
  have HS1 : HN6 κ τ (zR κ atStates a) := HN_z6 W (ty_atStates W T) Z1 (fun f q => nn.2.1 (Eq.symm q))
  have HE1 : HN6 κ τ (zR κ atEndings a) := HN_z6 W (ty_atEndings W T) Z1 (fun f q => nn.2.2 (Eq.symm q))
  rw [rR, rI] at E3 E4
  rw [rR] at Z hA
  have Tt : zT τ a = 3 := Z1.t T (by decide)
  have N2 : NP6 τ υ a := NP_z6 Wt Tt Z (fun f q => nn.1.2.2 q.1.symm)
  have HS2 : HN6 τ υ (zR κ atStates a) := HN_z6 Wt (by have q := ty_atStates Wt Tt; rw [rR] at q; exact q) Z (fun f q => ne q.1)
  have N := NP_t6 N1 N2
  have HS := HN_t6 HS1 HS2
  obtain ⟨u1, u2, u3, u4⟩ := hU
  refine ⟨⟨by rw [N.2.2.2.2.1]; exact hoA_n6 HS u1, by rw [N.2.2.2.2.2.1]; exact hA, by rw [N.2.2.2.2.1]; exact hoU_h6 HS.1 u3, by rw [N.2.2.2.2.2.1]; exact E4.1⟩, ⟨N.2.2.2.2.2.2.2.1, N.2.2.2.2.2.2.2.2, N.1, MM_t6 (MM_m6 W T e22) (MM_e6 N2.2.2.2.2.2.2.1 (am_z6 Wt (ty_atMachine Wt Tt) Z (fun f q => by have y := q.1; rw [rR] at y; exact nn.2.2 y) (fun f q => by have y := q.1; rw [rR] at y; exact cod_6 W T (ty_atEndings W T) (by decide) y))), HP_h6 N.2.2.2.2.1 HS.1⟩, fun nv w s lim σ r c L => ?_⟩
  obtain ⟨R, O, ⟨L1, L2, L3⟩, _⟩ := L
  have xr : x = r := hx.trans (ou_r6 O)
  have r1 : r = 1 := xr.symm.trans c1
  rcases O.2 with ⟨q, _⟩ | ⟨_, o1, o2, o3⟩ | ⟨q, _⟩ | q
  · rw [r1] at q; exact absurd q (by decide)
  · rw [(am_rw6 (f := 701) (by decide)).1] at o2
    have o1 : zI κ maNumber (zR κ atMachine a) = σ.1 61 := (am_i6 (f := 712) (by decide)).symm.trans o1
    have mem : ∀ i, zA τ (zR κ maMemory (zR κ atMachine a)) i = if i = w then σ.1 61 else zA κ (zR κ maMemory (zR κ atMachine a)) i := fun i => by
      have q : zA τ (zR κ maMemory (zR κ atMachine a)) = upd (zA κ (zR κ maMemory (zR κ atMachine a))) w (σ.1 61) := by
        rw [e22, L2, cl_5 (by omega), o1]
        exact if_pos rfl
      rw [q]
      rfl
    have el : zI κ maShared (zR κ atMachine a) + 1 = Int32.ofNat (w + 1) := by rw [L2, on_15 (by omega)]
    rw [el] at E3 E4
    obtain ⟨n, mm, nx, q1, q2, ⟨q3, q4, q5, q6⟩, q7, q10, q11, q12⟩ := R
    obtain ⟨σ', z1, z2⟩ := enE_6 (EH_h6 HE1.1 q2 rfl) L3 (fun i hi => by rw [mem, if_neg (by omega)]; exact o2 i hi) o3 (by rw [mem, if_pos rfl]) q4 E1 E3 E4
    refine ⟨σ', ?_, xr, ?_⟩
    · unfold whr6
      rw [r1, if_neg (by decide), if_pos rfl]
      exact z1
    · by_cases y : v = -1
      · exact Or.inl ⟨y, by rw [r1]; decide⟩
      · obtain ⟨m', y1, y2, y5⟩ := z2.resolve_left y
        refine Or.inr ⟨y, ⟨n, m', nx, by rw [N.2.2.2.2.1]; exact SH_h6 HS.1 q1 (y5.2.1 30 (by decide)) (y5.2.1 73 (by decide)), by rw [N.2.2.2.2.2.1]; exact y1, ⟨(y5.1 70 (by decide)).trans q3, y2, (y5.1 72 (by decide)).trans q5, (y5.1 85 (by decide)).trans q6⟩, q7, fun j hj => by rw [y5.2.1 74 (by decide), y5.2.1 73 (by decide)]; exact q10 j hj, N.1.trans q11, fun t ht => ?_⟩, NF_e6 y5⟩
        rw [N.2.1, N.2.2.1, N.2.2.2.1, y5.2.1 77 (by decide), y5.2.1 78 (by decide), y5.2.1 79 (by decide)]
        exact q12 t ht
  · rw [r1] at q; exact absurd q (by decide)
  · rw [r1] at q; exact absurd q (by decide)
/-- no room -/
theorem ldS_n6 {k a2 a3 x y : Int32} (E : ldE6 κ τ a k a3 x y) (hy : y = -1) : ldS6 κ τ a k a2 a3 0 := by
  refine ⟨⟨E.1, E.2.1.2.2.2.1, E.2.1.2.2.2.2⟩, fun nv w s lim σ r c L => ?_⟩
  obtain ⟨σ1, z1, z2, z3⟩ := E.2.2 nv w s lim σ r c L
  rcases z3 with ⟨_, z4⟩ | ⟨z4, _⟩
  · refine ⟨σ1, ?_, fun q => absurd rfl q⟩
    rw [adn_6, z1]
    unfold g5_addNext_36
    rw [if_pos hy, if_neg z4]
  · exact absurd hy z4
theorem s36_6 {r z c f y : Int32} {σ : rS} (hy : y ≠ -1) : g5_addNext_36 r z c f y σ = g5_addNext_55 fu5 r z c y f σ := by
  unfold g5_addNext_36
  rw [if_neg hy]
/-- told together with another -/
theorem ldS_w6 {k a2 a3 x y : Int32} {i : Nat} (W : zW C n0 τ) (T : zT τ a = 3) (E : ldE6 κ τ a k a3 x y) (hy : ¬ y = -1) (hc : zA τ (zR τ atChooses a) k.toNatClampNeg = 0) (f0 : 0 ≤ (zA τ (zR τ atFirsts a) k.toNatClampNeg).toInt) (h1 : (zA τ (zR τ atFirsts a) k.toNatClampNeg).toInt ≤ (i : Int)) (h2 : (i : Int) < (zI τ atNexts a).toInt) (m1 : zA τ (zR τ atSorts a) i = x) (m2 : zA τ (zR τ atNumbers a) i = y) (no : ∀ j : Nat, (zA τ (zR τ atFirsts a) k.toNatClampNeg).toInt ≤ (j : Int) → j < i → ¬ (zA τ (zR τ atSorts a) j = x ∧ zA τ (zR τ atNumbers a) j = y)) (e : υ = ua τ (zR τ atWeights a) i (zA τ (zR τ atWeights a) i + a2)) : ldS6 κ υ a k a2 a3 1 := by
  obtain ⟨⟨u1, u2, u3, u4⟩, ⟨v1, v2, v3, v4, v5⟩, E⟩ := E
  have rR : zR υ = zR τ := by rw [e]; rfl
  have rI : zI υ = zI τ := by rw [e]; rfl
  have Z : zF (objF a) τ υ := by rw [e]; exact zF_ua (by rw [atRf_o W T (by decide)])
  have nn := at_ne W T
  have HS : HN6 τ υ (zR τ atStates a) := HN_z6 W (ty_atStates W T) Z (fun f q => nn.1.2.1 q)
  have HE : HN6 τ υ (zR τ atEndings a) := HN_z6 W (ty_atEndings W T) Z (fun f q => nn.1.2.2 q)
  have MT : MM6 τ υ a := MM_e6 (by rw [rR]) (am_z6 W (ty_atMachine W T) Z (fun f q => nn.1.1 q) (fun f q => cod_6 W T T (by decide) q))
  refine ⟨⟨⟨by rw [rR]; exact hoA_n6 HS u1, by rw [rR]; exact hoA_n6 HE u2, by rw [rR]; exact hoU_h6 HS.1 u3, by rw [rR]; exact hoU_h6 HE.1 u4⟩, MM_t6 v4 MT, HP_t6 v5 (HP_h6 (by rw [rR]) HS.1)⟩, fun nv w s lim σ r c L => ?_⟩
  obtain ⟨σ1, z1, z2, z3⟩ := E nv w s lim σ r c L
  obtain ⟨_, R, NF⟩ := z3.resolve_left (fun q => hy q.1)
  obtain ⟨n, mm, nx, q1, q2, ⟨q3, q4, q5, q6⟩, ⟨q7, q8, q9⟩, q10, q11, q12⟩ := R
  have c0 : c ≠ 0 := fun z => by
    rcases L.2.2.2.2 z with y1 | y1
    · rw [v2] at hc; exact y1 hc
    · rw [← v1, ← v3] at y1
      rw [y1] at h1
      omega
  obtain ⟨b, hb⟩ : ∃ b, b = ((zA τ (zR τ atFirsts a) k.toNatClampNeg).toInt).toNat := ⟨_, rfl⟩
  have fb : zA κ (zR κ atFirsts a) k.toNatClampNeg = Int32.ofNat b := by
    rw [← v1]
    exact Int32.toInt_inj.mp (by rw [ofn_i (by rw [q11, ofn_i (by omega)] at h2; omega)]; omega)
  rw [q11, ofn_i (by omega)] at h2
  have row : ∀ t, t < nx → (zA τ (zR τ atSorts a) t = x ∧ zA τ (zR τ atNumbers a) t = y ↔ σ1.2.2.1 77 t = r ∧ σ1.2.2.1 78 t = y) := fun t ht => by
    obtain ⟨y1, y2, _⟩ := q12 t ht
    rw [y1, y2, z2]
  rcases n55_6 (x := r) (y := y) (z := a2) (c := c) q5 q9 (nx - b) fu5 b (by omega) (by unfold fu5; omega) with ⟨_, g, g1, g2, g3, g4, g5, g6⟩ | ⟨g1, _⟩
  · have gi : g = i := by
      rcases Nat.lt_trichotomy g i with y1 | y1 | y1
      · exact absurd ((row g g2).mpr ⟨g3, g4⟩) (no g (by omega) y1)
      · exact y1
      · exact absurd ((row i (by omega)).mp ⟨m1, m2⟩) (g5 i (by omega) y1)
    rw [gi] at g6
    refine ⟨riU σ1 79 i (σ1.2.2.1 79 i + a2), ?_, fun _ => ⟨⟨n, mm, nx, by rw [rR]; exact SH_h6 HS.1 q1 (ri_o6 (by decide)) (ri_o6 (by decide)), by rw [rR]; exact EH_h6 HE.1 q2 (ri_o6 (by decide)), ⟨q3, q4, q5, q6⟩, ⟨q7, q8, q9⟩, fun j hj => by rw [ri_o6 (by decide), ri_o6 (by decide)]; exact q10 j hj, by rw [rI]; exact q11, fun t ht => ?_⟩, NF_t6 NF ⟨fun _ _ _ _ => rfl, fun g' _ _ _ _ _ y1 _ => ri_o6 y1, rfl⟩⟩⟩
    · rw [adn_6, z1, s36_6 hy, fb]
      exact g6
    · obtain ⟨y1, y2, y3⟩ := q12 t ht
      have n13 := atRf_n W T (f := atSorts) (g := atWeights) (by decide) (by decide) (by decide)
      have n23 := atRf_n W T (f := atNumbers) (g := atWeights) (by decide) (by decide) (by decide)
      have a1 : zA υ (zR τ atSorts a) = zA τ (zR τ atSorts a) := by rw [e]; exact if_neg n13
      have a2' : zA υ (zR τ atNumbers a) = zA τ (zR τ atNumbers a) := by rw [e]; exact if_neg n23
      have a3' : zA υ (zR τ atWeights a) = upd (zA τ (zR τ atWeights a)) i (zA τ (zR τ atWeights a) i + a2) := by rw [e]; exact if_pos rfl
      rw [rR, a1, a2', a3', ri_o6 (by decide), ri_o6 (by decide), ri_s6]
      refine ⟨y1, y2, ?_⟩
      show (if t = i then zA τ (zR τ atWeights a) i + a2 else zA τ (zR τ atWeights a) t) = _
      by_cases ti : t = i
      · rw [if_pos ti, if_pos ti, ← ti, y3]
      · rw [if_neg ti, if_neg ti, y3]
  · rcases g1 with g1 | g1
    · exact absurd g1 c0
    · exact absurd ((row i (by omega)).mp ⟨m1, m2⟩) (g1 i (by omega) (by omega))
/-- a next of its own -/
theorem ldS_a6 {k a2 a3 x y v : Int32} (W : zW C n0 τ) (T : zT τ a = 3) (E : ldE6 κ τ a k a3 x y) (hy : ¬ y = -1) (f0 : 0 ≤ (zA τ (zR τ atFirsts a) k.toNatClampNeg).toInt ∧ (zA τ (zR τ atFirsts a) k.toNatClampNeg).toInt ≤ (zI τ atNexts a).toInt) (no : zA τ (zR τ atChooses a) k.toNatClampNeg ≠ 0 ∨ ∀ j : Nat, (zA τ (zR τ atFirsts a) k.toNatClampNeg).toInt ≤ (j : Int) → (j : Int) < (zI τ atNexts a).toInt → ¬ (zA τ (zR τ atSorts a) j = x ∧ zA τ (zR τ atNumbers a) j = y)) (q : (v = 0 ∧ υ = τ) ∨ (v = 1 ∧ adN τ υ a x y a2)) (qv : (v = 0 → ¬ zI τ atNexts a < 20000) ∧ (v = 1 → zI τ atNexts a < 20000)) : ldS6 κ υ a k a2 a3 v := by
  obtain ⟨⟨u1, u2, u3, u4⟩, ⟨v1, v2, v3, v4, v5⟩, E⟩ := E
  have nn := at_ne W T
  have l20 : (20000 : Int32).toInt = 20000 := rfl
  have lU : lU9 υ a := by
    rcases q with ⟨_, e⟩ | ⟨_, A⟩
    · rw [e]; exact ⟨u1, u2, u3, u4⟩
    · have HS : HN6 τ υ (zR τ atStates a) := HN_z6 W (ty_atStates W T) A.1 (fun f q => nn.1.2.1 q.1)
      have HE : HN6 τ υ (zR τ atEndings a) := HN_z6 W (ty_atEndings W T) A.1 (fun f q => nn.1.2.2 q.1)
      have rS : zR υ atStates a = zR τ atStates a := A.2.2.1 _ _ (fun q => absurd q.2 (by decide))
      have rE : zR υ atEndings a = zR τ atEndings a := A.2.2.1 _ _ (fun q => absurd q.2 (by decide))
      exact ⟨by rw [rS]; exact hoA_n6 HS u1, by rw [rE]; exact hoA_n6 HE u2, by rw [rS]; exact hoU_h6 HS.1 u3, by rw [rE]; exact hoU_h6 HE.1 u4⟩
  have MT : MM6 τ υ a := by
    rcases q with ⟨_, e⟩ | ⟨_, A⟩
    · rw [e]; exact MM_r6
    · exact MM_e6 (A.2.2.1 _ _ (fun q => absurd q.2 (by decide))) (am_z6 W (ty_atMachine W T) A.1 (fun f q => nn.1.1 q.1) (fun f q => cod_6 W T T (by decide) q.1))
  have PT : HP6 τ υ a := by
    rcases q with ⟨_, e⟩ | ⟨_, A⟩
    · rw [e]; exact HP_r6
    · exact HP_h6 (A.2.2.1 _ _ (fun q => absurd q.2 (by decide))) (HN_z6 W (ty_atStates W T) A.1 (fun f q => nn.1.2.1 q.1)).1
  refine ⟨⟨lU, MM_t6 v4 MT, HP_t6 v5 PT⟩, fun nv w s lim σ r c L => ?_⟩
  obtain ⟨σ1, z1, z2, z3⟩ := E nv w s lim σ r c L
  obtain ⟨_, R, NF⟩ := z3.resolve_left (fun q => hy q.1)
  obtain ⟨n, mm, nx, q1, q2, ⟨q3, q4, q5, q6⟩, ⟨q7, q8, q9⟩, q10, q11, q12⟩ := R
  obtain ⟨b, hb⟩ : ∃ b, b = ((zA τ (zR τ atFirsts a) k.toNatClampNeg).toInt).toNat := ⟨_, rfl⟩
  rw [q11, ofn_i (by omega)] at f0
  have fb : zA κ (zR κ atFirsts a) k.toNatClampNeg = Int32.ofNat b := by
    rw [← v1]
    exact Int32.toInt_inj.mp (by rw [ofn_i (by omega)]; omega)
  have row : ∀ t, t < nx → (zA τ (zR τ atSorts a) t = x ∧ zA τ (zR τ atNumbers a) t = y ↔ σ1.2.2.1 77 t = r ∧ σ1.2.2.1 78 t = y) := fun t ht => by
    obtain ⟨y1, y2, _⟩ := q12 t ht
    rw [y1, y2, z2]
  have e55 : g5_addNext_55 fu5 r a2 c y (Int32.ofNat b) σ1 = g5_addNext_110 r a2 y σ1 := by
    rcases n55_6 (x := r) (y := y) (z := a2) (c := c) q5 q9 (nx - b) fu5 b (by omega) (by unfold fu5; omega) with ⟨c1, g, g1, g2, g3, g4, _⟩ | ⟨_, g2⟩
    · exfalso
      rcases no with y1 | y1
      · rw [v2] at y1
        exact y1 (L.2.2.2.1 c1)
      · exact y1 g (by omega) (by rw [q11, ofn_i (by omega)]; omega) ((row g g2).mpr ⟨g3, g4⟩)
    · exact g2
  have eR : g5_addNext r a2 c (zA κ (zR κ atFirsts a) k.toNatClampNeg) σ = g5_addNext_110 r a2 y σ1 := by
    rw [adn_6, z1, s36_6 hy, fb]
    exact e55
  rw [lti, l20, q11, ofn_i (by omega)] at qv
  rcases q with ⟨e1, e2⟩ | ⟨e1, A⟩
  · have qq := qv.1 e1
    rcases n110_6 (x := r) (y := y) (z := a2) q5 q9 with ⟨_, g2⟩ | ⟨g1, _⟩
    · exact ⟨σ1, by rw [eR, e1]; exact g2, fun z => absurd e1 z⟩
    · omega
  · have qq := qv.2 e1
    rcases n110_6 (x := r) (y := y) (z := a2) q5 q9 with ⟨g1, _⟩ | ⟨_, ρ, g2, g3⟩
    · omega
    · have HS : HN6 τ υ (zR τ atStates a) := HN_z6 W (ty_atStates W T) A.1 (fun f q => nn.1.2.1 q.1)
      have HE : HN6 τ υ (zR τ atEndings a) := HN_z6 W (ty_atEndings W T) A.1 (fun f q => nn.1.2.2 q.1)
      have rS : zR υ atStates a = zR τ atStates a := A.2.2.1 _ _ (fun q => absurd q.2 (by decide))
      have rE : zR υ atEndings a = zR τ atEndings a := A.2.2.1 _ _ (fun q => absurd q.2 (by decide))
      obtain ⟨b1, b2, b3, b4, b5, b6, b7⟩ := g3
      obtain ⟨_, _, _, _, ⟨t1, t2⟩, t3, t4, t5, t6⟩ := A
      have nt : ((zI τ atNexts a).toInt).toNat = nx := by rw [q11, ofn_i (by omega)]; rfl
      rw [nt] at t4 t5 t6
      refine ⟨ρ, by rw [eR, e1]; exact g2, fun _ => ⟨⟨n, mm, nx + 1, by rw [rS]; exact SH_h6 HS.1 q1 (b3 30 (by decide) (by decide) (by decide)) (b3 73 (by decide) (by decide) (by decide)), by rw [rE]; exact EH_h6 HE.1 q2 (b3 75 (by decide) (by decide) (by decide)), ⟨(b2 70 (by decide)).trans q3, (b2 71 (by decide)).trans q4, b1, (b2 85 (by decide)).trans q6⟩, ⟨q7, q8, by omega⟩, fun j hj => by rw [b3 74 (by decide) (by decide) (by decide), b3 73 (by decide) (by decide) (by decide)]; exact q10 j hj, Int32.toInt_inj.mp (by rw [ofn_i (by omega), t1, q11, ofn_i (by omega)]; omega), fun t ht => ?_⟩, NF_t6 NF ⟨fun g' _ _ y1 => b2 g' y1, fun g' _ _ _ y1 y2 y3 _ => b3 g' y1 y2 y3, b4⟩⟩⟩
      rw [b5, b6, b7]
      by_cases tn : t = nx
      · rw [if_pos tn, if_pos tn, if_pos tn, tn, t4, t5, t6]
        exact ⟨z2, rfl, rfl⟩
      · rw [if_neg tn, if_neg tn, if_neg tn]
        obtain ⟨y1, y2, y3⟩ := t3 t (by rw [q11, ofn_i (by omega)]; omega)
        rw [y1, y2, y3]
        exact q12 t (by omega)
end
theorem lU_m6 {C : zC} {n0 a i : Nat} {κ τ : zS} {x : Int32} (W : zW C n0 κ) (T : zT κ a = 3) (e : τ = ua κ (zR κ maMemory (zR κ atMachine a)) i x) (U : lU9 κ a) : lU9 τ a := by
  have nn := at_ne W T
  have rR : zR τ = zR κ := by rw [e]; rfl
  have Z1 : zF (objF (zR κ atMachine a)) κ τ := by rw [e]; exact zF_ua (by rw [ow_maMemory W (ty_atMachine W T)])
  have HS1 : HN6 κ τ (zR κ atStates a) := HN_z6 W (ty_atStates W T) Z1 (fun f q => nn.2.1 (Eq.symm q))
  have HE1 : HN6 κ τ (zR κ atEndings a) := HN_z6 W (ty_atEndings W T) Z1 (fun f q => nn.2.2 (Eq.symm q))
  obtain ⟨u1, u2, u3, u4⟩ := U
  exact ⟨by rw [rR]; exact hoA_n6 HS1 u1, by rw [rR]; exact hoA_n6 HE1 u2, by rw [rR]; exact hoU_h6 HS1.1 u3, by rw [rR]; exact hoU_h6 HE1.1 u4⟩

end
section
set_option maxHeartbeats 1600000
/-! the class's machine loads a state, begins: what its record is then -/
theorem lo_6 {v : Int32} {D : Nat} {A B : Prop} [Decidable (A ∧ B)] {x : Int} (q : (0 ≤ v.toInt ∧ v.toInt ≤ D) ∧ v.toInt = if A ∧ B then x else 0) : 0 ≤ v.toInt ∧ v.toInt ≤ D ∧ (0 < v.toInt → A ∧ B ∧ v.toInt = x) := by
  refine ⟨q.1.1, q.1.2, fun h => ?_⟩
  by_cases c : A ∧ B
  · have e := q.2
    rw [if_pos c] at e
    exact ⟨c.1, c.2, e⟩
  · have e := q.2
    rw [if_neg c] at e
    omega
/-- a row copied from a store -/
def cpS6 (κ κ' : zS) (h : Nat) (k : Int32) (r : Nat) : Prop := ∀ (K : Nat → Int32) (l : Nat), l ≤ 142 → 0 < l → 0 ≤ k.toInt → l ≤ zN κ r → hk9 κ h K (Int32.ofNat l).toInt k.toNatClampNeg → zI κ' = zI κ ∧ zR κ' = zR κ ∧ zN κ' = zN κ ∧ (∀ x, x ≠ r → zA κ' x = zA κ x) ∧ ∀ i, i < l → zA κ' r i = K i
theorem len_6 {κ : zS} {h l : Nat} {k v : Int32} {K : Nat → Int32} {D : Nat} (h0 : 0 ≤ k.toInt) (hl : l ≤ 67108864) (H : hk9 κ h K (Int32.ofNat l).toInt k.toNatClampNeg) (q : (0 ≤ v.toInt ∧ v.toInt ≤ D) ∧ v.toInt = if 0 ≤ k.toInt ∧ k.toInt < (zI κ hoTotal h).toInt then (zA κ (zR κ hoStarts h) (k.toNatClampNeg + 1)).toInt - (zA κ (zR κ hoStarts h) k.toNatClampNeg).toInt else 0) : v = Int32.ofNat l := by
  obtain ⟨h1, h2, _⟩ := H
  have kk := cnk h0
  have e := q.2
  rw [if_pos ⟨h0, by omega⟩, h2, ofn_i hl] at e
  exact Int32.toInt_inj.mp (by rw [ofn_i hl]; exact e)
theorem cpS_16 {κ : zS} {h r : Nat} {k v x : Int32} {D : Nat} (nN : zN κ r ≤ 67108864) (q : (0 ≤ v.toInt ∧ v.toInt ≤ D) ∧ v.toInt = if 0 ≤ k.toInt ∧ k.toInt < (zI κ hoTotal h).toInt then (zA κ (zR κ hoStarts h) (k.toNatClampNeg + 1)).toInt - (zA κ (zR κ hoStarts h) k.toNatClampNeg).toInt else 0) (hx : x = if Int32.ofNat (zN κ r) < v then Int32.ofNat (zN κ r) else v) (c : x ≤ 0) : cpS6 κ κ h k r := fun K l l1 l0 k0 ln H => by
  exfalso
  have e := len_6 k0 (by omega) H q
  rw [e, if_neg (show ¬ Int32.ofNat (zN κ r) < Int32.ofNat l by rw [lti, ofn_i nN, ofn_i (by omega)]; omega)] at hx
  rw [hx, lei, ofn_i (by omega), t0i] at c
  omega
theorem cpS_26 {κ κ' : zS} {h r : Nat} {k v x : Int32} {D : Nat} (nN : zN κ r ≤ 67108864) (q : (0 ≤ v.toInt ∧ v.toInt ≤ D) ∧ v.toInt = if 0 ≤ k.toInt ∧ k.toInt < (zI κ hoTotal h).toInt then (zA κ (zR κ hoStarts h) (k.toNatClampNeg + 1)).toInt - (zA κ (zR κ hoStarts h) k.toNatClampNeg).toInt else 0) (hx : x = if Int32.ofNat (zN κ r) < v then Int32.ofNat (zN κ r) else v) (e : κ' = uc κ (zR κ hoPool h) r (zA κ (zR κ hoStarts h) k.toNatClampNeg).toNatClampNeg (0 : Int32).toNatClampNeg x.toNatClampNeg) : cpS6 κ κ' h k r := fun K l l1 l0 k0 ln H => by
  have ev := len_6 k0 (by omega) H q
  rw [ev, if_neg (show ¬ Int32.ofNat (zN κ r) < Int32.ofNat l by rw [lti, ofn_i nN, ofn_i (by omega)]; omega)] at hx
  refine ⟨by rw [e]; rfl, by rw [e]; rfl, by rw [e]; rfl, fun y hy => by rw [e]; exact if_neg hy, fun i hi => ?_⟩
  have z : zA κ' r = va_cpy (zA κ (zR κ hoPool h)) (zA κ r) (zA κ (zR κ hoStarts h) k.toNatClampNeg).toNatClampNeg (0 : Int32).toNatClampNeg x.toNatClampNeg := by rw [e]; exact if_pos rfl
  rw [z]
  unfold va_cpy
  rw [show (0 : Int32).toNatClampNeg = 0 from rfl, hx, cl_5 (by omega), if_pos (by omega)]
  have q3 := H.2.2 i (by rw [ofn_i (by omega)]; omega)
  rw [← q3]
  congr 1
/-- a machine that loaded a row -/
def LM6 (e e' : E5) (K : Nat → Int32) (l : Nat) : Prop := (e'.1 703 = (if (Int32.ofNat l - e.1 702) / 9 < 1 then 1 else (Int32.ofNat l - e.1 702) / 9) ∧ e'.1 704 = e.1 702 + (e'.1 703 - 1) * 9 ∧ e'.1 711 = 0 ∧ ∀ g, g ≠ 703 → g ≠ 704 → g ≠ 711 → e'.1 g = e.1 g) ∧ (∀ g, g ≠ 701 → e'.2.1 g = e.2.1 g) ∧ (∀ i, i < l → e'.2.1 701 i = K i) ∧ e'.2.2 = e.2.2
theorem am_1f6 {κ τ : zS} {m f : Nat} {x : Int32} (h : τ = ui κ f m x) (hf : f ∈ mi6) : am6 τ m = fl6 f x (am6 κ m) := by
  have z := am_ui6 h hf
  unfold stI5 at z
  have z := congrArg Prod.fst (Sum.inl.inj z)
  exact z.symm
theorem LM_6 {C : zC} {n0 m h l : Nat} {κ κ3 κ13 κ15 κ17 : zS} {k r8 : Int32} {K : Nat → Int32} {D : Nat} (W : zW C n0 κ) (T : zT κ m = 7) (Th : zT κ h = 6) (W3 : zW C n0 κ3) (l1 : l ≤ 142) (l0 : 0 < l) (k0 : 0 ≤ k.toInt) (Lm : zN κ (zR κ maMemory m) = 142) (H : hk9 κ h K (Int32.ofNat l).toInt k.toNatClampNeg) (z : cpS6 κ κ3 h k (zR κ maMemory m)) (q : (0 ≤ r8.toInt ∧ r8.toInt ≤ D) ∧ r8.toInt = if 0 ≤ k.toInt ∧ k.toInt < (zI κ3 hoTotal h).toInt then (zA κ3 (zR κ3 hoStarts h) (k.toNatClampNeg + 1)).toInt - (zA κ3 (zR κ3 hoStarts h) k.toNatClampNeg).toInt else 0) (e13 : κ13 = ui κ3 maOpen m (if (r8 - zI κ3 maShared m) / 9 < 1 then 1 else (r8 - zI κ3 maShared m) / 9)) (e15 : κ15 = ui κ13 maFrame m (zI κ13 maShared m + (zI κ13 maOpen m - 1) * 9)) (e17 : κ17 = ui κ15 maOutcome m 0) : LM6 (am6 κ m) (am6 κ17 m) K l := by
  obtain ⟨z1, z2, z3, z4, z5⟩ := z K l l1 l0 k0 (by omega) H
  have nS : zR κ hoStarts h ≠ zR κ maMemory m := ow_ne W (show zr hoStarts = some 20 by decide +kernel) (by decide) Th (show zr maMemory = some 20 by decide +kernel) (by decide) T (by decide)
  have nP : zR κ hoPool h ≠ zR κ maMemory m := ow_ne W (show zr hoPool = some 20 by decide +kernel) (by decide) Th (show zr maMemory = some 20 by decide +kernel) (by decide) T (by decide)
  have H3 : hk9 κ3 h K (Int32.ofNat l).toInt k.toNatClampNeg := by
    unfold hk9 at H ⊢
    rw [z1, z2, z4 _ nS, z4 _ nP]
    exact H
  have ev := len_6 k0 (by omega) H3 q
  have a3 := am_ur6 (τ := κ3) (f := maMemory) W T (by decide) z1 z2 z3 z4
  have i13 := am_1f6 e13 (by decide)
  have i15 := am_1f6 e15 (by decide)
  have i17 := am_1f6 e17 (by decide)
  have s3 : zI κ3 maShared m = (am6 κ m).1 702 := by rw [z1]; exact (am_i6 (f := 702) (by decide)).symm
  have s13 : zI κ13 maShared m = zI κ3 maShared m := by rw [e13]; rfl
  have o13 : zI κ13 maOpen m = (if (r8 - zI κ3 maShared m) / 9 < 1 then 1 else (r8 - zI κ3 maShared m) / 9) := by rw [e13]; exact if_pos ⟨rfl, rfl⟩
  rw [s13, o13] at i15
  rw [ev, s3] at i13 i15
  have c3 : (am6 κ3 m).1 = (am6 κ m).1 := by rw [a3]
  refine ⟨⟨?_, ?_, ?_, fun g g1 g2 g3 => ?_⟩, fun g hg => ?_, fun i hi => ?_, ?_⟩
  · rw [i17, fl_o6 (by decide), i15, fl_o6 (by decide), i13, fl_s6]
  · rw [i17, fl_o6 (by decide), i15, fl_s6, fl_o6 (by decide), fl_o6 (by decide), i13, fl_s6]
  · rw [i17]; exact fl_s6
  · rw [i17, fl_o6 g3, i15, fl_o6 g2, i13, fl_o6 g1, c3]
  · rw [i17, i15, i13]
    show (am6 κ3 m).2.1 g = _
    rw [a3]
    exact if_neg hg
  · rw [i17, i15, i13]
    show (am6 κ3 m).2.1 701 i = _
    rw [a3]
    show (if 701 = maMemory then zA κ3 (zR κ maMemory m) else (am6 κ m).2.1 701) i = _
    rw [if_pos rfl]
    exact z5 i hi
  · rw [i17, i15, i13]
    show (am6 κ3 m).2.2 = _
    rw [a3]
/-- a machine that begins -/
def sh36 (e : E5) : Int32 := if 34 < sh6 e then 34 else sh6 e
def bg6 (e : E5) : E5 := (fun g => if g = 710 then 0 else if g = 709 then fo6 (e.1 514) e else if g = 711 then 0 else if g = 715 then -1 else if g = 714 then 0 else if g = 713 then 0 else if g = 704 then sh36 e else if g = 703 then 1 else if g = 702 then sh36 e else e.1 g, fun g j => if g = 701 then (if j < (if 10 < e.1 509 then 10 else e.1 509 : Int32).toNatClampNeg then e.2.1 500 j else if j < e.2.2 701 then 0 else e.2.1 701 j) else e.2.1 g j, e.2.2)

end
section
set_option maxHeartbeats 1600000
/-! a state expanded on both sides: what is carried along -/
/-- what keeps the code of both sides as it was -/
def FMw6 (e e' : E5) (σ σ' : rS) : Prop := ((∀ g, g < 600 ∨ g = 702 → e'.1 g = e.1 g) ∧ (∀ g, g < 600 → e'.2.1 g = e.2.1 g) ∧ e'.2.2 = e.2.2) ∧ (∀ g, g = 11 ∨ g = 15 ∨ g = 16 ∨ g = 17 ∨ g = 18 ∨ g = 19 ∨ g = 40 → σ'.1 g = σ.1 g) ∧ (∀ g, g ≤ 45 → σ'.2.2.1 g = σ.2.2.1 g) ∧ σ'.2.2.2 = σ.2.2.2
theorem FMw_6 {e e' : E5} {σ σ' : rS} (h : FM6 e e' σ σ') : FMw6 e e' σ σ' := ⟨h.1, fun g q => h.2.1 g (by omega), fun g q => h.2.2.1 g (Or.inl q), h.2.2.2⟩
theorem FN_w6 {T : T5} {Bk N nv na f s : Nat} {e e' : E5} {σ σ' : rS} (h : FN6 T Bk N nv na f s e σ) (k : FMw6 e e' σ σ') : FN6 T Bk N nv na f s e' σ' := by
  obtain ⟨⟨c1, c2, _⟩, d1, d2, _⟩ := k
  obtain ⟨⟨a1, a2, a3, a4, i, i1, i2, i3, i4⟩, ⟨b0, b1, b2, b3, b4⟩, p3, p4, p5, p6, ⟨q1, q2, q3⟩, ⟨g1, g2, g3, g4, g5⟩, R, r1, r2⟩ := h
  have hm : cm6 e e' := cm_e6 (c1 515 (by decide)) (c2 507 (by decide)) (c2 508 (by decide))
  refine ⟨⟨by rw [c1 509 (by decide)]; exact a1, by rw [c1 510 (by decide)]; exact a2, by rw [c1 512 (by decide)]; exact a3, by rw [c1 513 (by decide)]; exact a4, i, i1, by rw [c1 514 (by decide)]; exact i2, by rw [d1 40 (by decide)]; exact i3, by rw [c2 504 (by decide)]; exact i4⟩, ⟨by rw [d1 11 (by decide)]; exact b0, by rw [d1 15 (by decide)]; exact b1, by rw [d1 16 (by decide)]; exact b2, by rw [d1 18 (by decide)]; exact b3, by rw [d1 19 (by decide)]; exact b4⟩, fun j hj => ?_, fun j hj => ?_, fun j hj k5 => ?_, fun k hk => ?_, ⟨fun g hg => ?_, fun g hg => ?_, fun g x y => ?_⟩, ⟨fun k hk => ?_, fun k hk => ?_, ?_, ?_, ?_⟩, R, cd_e6 r1 (c1 515 (by decide)) (c2 507 (by decide)) (c2 508 (by decide)), r2⟩
  · obtain ⟨z, z1, z2⟩ := p3 j hj
    exact ⟨z, z1, st_m6 z2 hm (Nat.le_refl _) (Nat.le_refl _) (fun c _ => by rw [c2 506 (by decide)]) (by rw [d2 30 (by decide)]) (by rw [d2 31 (by decide)]) (by rw [d2 32 (by decide)]) (fun t _ _ _ => by rw [d2 39 (by decide)])⟩
  · have l := p4 j hj
    unfold lf6 at l ⊢
    rw [c2 506 (by decide), d2 33 (by decide), d2 34 (by decide), d2 37 (by decide), d2 38 (by decide)]
    exact l
  · rw [d2 30 (by decide)] at k5
    have l := p5 j hj k5
    unfold cl6 at l ⊢
    rw [c2 506 (by decide), c2 504 (by decide), d2 32 (by decide), d2 39 (by decide)]
    exact l
  · rw [c2 504 (by decide), d2 26 (by decide)]; exact p6 k hk
  · rw [c2 505 (by decide), d2 27 (by decide)]; exact q1 g hg
  · rw [c2 503 (by decide), d2 29 (by decide)]; exact q2 g hg
  · rw [c2 503 (by decide)]; exact q3 g x y
  · rw [c2 500 (by decide), d2 21 (by decide)]; exact g1 k hk
  · rw [c2 501 (by decide), c2 502 (by decide), d2 23 (by decide), d2 24 (by decide), c1 511 (by decide)]; exact g2 k hk
  · rw [c1 511 (by decide), d1 17 (by decide)]; exact g3
  · rw [c1 511 (by decide)]; exact g4
  · rw [c1 511 (by decide)]; exact g5
def CD6 (T : T5) (X : X5) (Bk N : Nat) (Z : Int32) (nv na f s w : Nat) (e : E5) (σ : rS) : Prop := (TR5 T X Bk N Z ∧ T.2.1 (N - 1) = 142) ∧ FN6 T Bk N nv na f s e σ ∧ sx5 σ = X ∧ (∀ k, k < f → ∃ n, n ≤ 4 ∧ σ.2.2.1 26 k = Int32.ofNat n) ∧ (e.1 702 = Int32.ofNat w ∧ nv ≤ w ∧ w ≤ 34 ∧ (w : Int) = nv + (e.1 511).toInt) ∧ (e.2.2 705 = 256 ∧ e.2.2 707 = 16 ∧ e.2.2 701 = 142)
def CE6 (nv s w : Nat) (e : E5) (σ : rS) : Prop := ∃ T X Bk N Z na f, CD6 T X Bk N Z nv na f s w e σ
theorem CE_w6 {nv s w : Nat} {e e' : E5} {σ σ' : rS} (h : CE6 nv s w e σ) (k : FMw6 e e' σ σ') : CE6 nv s w e' σ' := by
  obtain ⟨T, X, Bk, N, Z, na, f, h1, h2, h3, h4, ⟨h5, h6, h7, h8⟩, h9⟩ := h
  refine ⟨T, X, Bk, N, Z, na, f, h1, FN_w6 h2 k, ?_, fun j hj => by rw [k.2.2.1 26 (by decide)]; exact h4 j hj, ⟨(k.1.1 702 (Or.inr rfl)).trans h5, h6, h7, by rw [k.1.1 511 (by decide)]; exact h8⟩, by rw [k.1.2.2]; exact h9⟩
  rw [← h3]
  unfold sx5
  rw [k.2.2.1 5 (by decide), k.2.2.1 6 (by decide), k.2.2.1 7 (by decide), k.2.2.1 9 (by decide), k.2.2.2]
/-- the same, the fault of the last text aside -/
def CF6 (nv s w : Nat) (e : E5) (σ : rS) : Prop := CE6 nv s w e (siU σ 11 0)
theorem CF_w6 {nv s w : Nat} {e e' : E5} {σ σ' : rS} (h : CF6 nv s w e σ) (k : ((∀ g, g < 600 ∨ g = 702 → e'.1 g = e.1 g) ∧ (∀ g, g < 600 → e'.2.1 g = e.2.1 g) ∧ e'.2.2 = e.2.2) ∧ (∀ g, g = 15 ∨ g = 16 ∨ g = 17 ∨ g = 18 ∨ g = 19 ∨ g = 40 → σ'.1 g = σ.1 g) ∧ (∀ g, g ≤ 45 → σ'.2.2.1 g = σ.2.2.1 g) ∧ σ'.2.2.2 = σ.2.2.2) : CF6 nv s w e' σ' := by
  refine CE_w6 (e := e) (σ := siU σ 11 0) h ⟨k.1, fun g q => ?_, k.2.2.1, k.2.2.2⟩
  rw [si1, si1]
  by_cases c : g = 11
  · rw [if_pos c, if_pos c]
  · rw [if_neg c, if_neg c]
    exact k.2.1 g (by omega)
theorem CF_e6 {nv s w : Nat} {e : E5} {σ : rS} (h : CE6 nv s w e σ) : CF6 nv s w e σ := by
  have b0 : σ.1 11 = 0 := by
    obtain ⟨_, _, _, _, _, _, _, _, F, _⟩ := id h
    exact F.2.1.1
  refine CE_w6 h ⟨⟨fun _ _ => rfl, fun _ _ => rfl, rfl⟩, fun g q => ?_, fun _ _ => rfl, rfl⟩
  rw [si1]
  by_cases c : g = 11
  · rw [if_pos c, c]; exact b0.symm
  · rw [if_neg c]
theorem MB_116 {nv s w d : Nat} {e : E5} {σ : rS} (M : MB6 nv w s d e σ) : MB6 nv w s d e (siU σ 11 0) := by
  unfold MB6 zt6 at M ⊢
  rw [si1, if_neg (show ¬ 58 = 11 by decide)]
  exact M
theorem si_116 {x y : Int32} {σ : rS} : siU (siU σ 11 x) 11 y = siU σ 11 y := by
  refine Prod.ext (funext fun g => ?_) rfl
  rw [si1, si1, si1]
  by_cases c : g = 11
  · rw [if_pos c, if_pos c]
  · rw [if_neg c, if_neg c, if_neg c]
theorem act_116 {x : Int32} {σ : rS} : g5_act (siU σ 11 x) = g5_act σ := by
  unfold g5_act
  rw [si_116, si1, if_neg (show ¬ 58 = 11 by decide)]
  rfl
/-- tables of states expanded -/
def TB6 (κ : zS) (a j0 : Nat) (σ : rS) : Prop := ∀ j, j < j0 → zA κ (zR κ atFirsts a) j = σ.2.2.1 76 j ∧ zA κ (zR κ atTotals a) j = σ.2.2.1 80 j ∧ zA κ (zR κ atGains a) j = σ.2.2.1 82 j ∧ zA κ (zR κ atChooses a) j = σ.2.2.1 81 j
def XP6 (nv s w lim : Nat) (κ : zS) (a k : Nat) (σ : rS) : Prop := CF6 nv s w (am6 κ (zR κ atMachine a)) σ ∧ RL6 κ a w s lim σ ∧ TB6 κ a k σ ∧ (0 < k → zA κ (zR κ atFirsts a) k = σ.2.2.1 76 k)
/-- rows of a state's tables that aren't touched -/
def TR6 (κ τ : zS) (a : Nat) : Prop := zA τ (zR τ atFirsts a) = zA κ (zR κ atFirsts a) ∧ zA τ (zR τ atTotals a) = zA κ (zR κ atTotals a) ∧ zA τ (zR τ atGains a) = zA κ (zR κ atGains a) ∧ zA τ (zR τ atChooses a) = zA κ (zR κ atChooses a)
section
variable {C : zC} {n0 a k : Nat} {κ τ υ : zS} {F : Nat → Nat → Prop} {nv s w lim : Nat} {σ σ' : rS}
theorem TR_z6 (W : zW C n0 κ) (T : zT κ a = 3) (Z : zF F κ τ) (hF : ∀ f, ¬ F f a) : TR6 κ τ a :=
  ⟨(Z.row W (show zr atFirsts = some 20 by decide +kernel) (by decide) T (hF atFirsts)).1, (Z.row W (show zr atTotals = some 20 by decide +kernel) (by decide) T (hF atTotals)).1, (Z.row W (show zr atGains = some 20 by decide +kernel) (by decide) T (hF atGains)).1, (Z.row W (show zr atChooses = some 23 by decide +kernel) (by decide) T (hF atChooses)).1⟩
theorem TR_l6 (W : zW C n0 κ) (T : zT κ a = 3) (Z : zF (ldF κ a) κ τ) : TR6 κ τ a := by
  obtain ⟨_, _, q⟩ := ld_r W T Z
  exact ⟨(q atFirsts (by decide) (by decide)).1, (q atTotals (by decide) (by decide)).1, (q atGains (by decide) (by decide)).1, (q atChooses (by decide) (by decide)).1⟩
theorem TB_r6 {j0 : Nat} (R : TR6 κ τ a) (B : TB6 κ a j0 σ) (h : ∀ g, g = 76 ∨ g = 80 ∨ g = 81 ∨ g = 82 → σ'.2.2.1 g = σ.2.2.1 g) : TB6 τ a j0 σ' := fun j hj => by
  rw [R.1, R.2.1, R.2.2.1, R.2.2.2, h 76 (by decide), h 80 (by decide), h 81 (by decide), h 82 (by decide)]
  exact B j hj
/-- a row of the atlas's own stored to -/
theorem own_6 {f i t : Nat} {x : Int32} (W : zW C n0 κ) (T : zT κ a = 3) (hf : zr f = some t) (ht : 20 ≤ t) (h3 : f / 100 = 3) (hn : f ≠ atSorts ∧ f ≠ atNumbers ∧ f ≠ atWeights) (e : τ = ua κ (zR κ f a) i x) : (zR τ = zR κ ∧ zI τ = zI κ) ∧ am6 τ (zR κ atMachine a) = am6 κ (zR κ atMachine a) ∧ HN6 κ τ (zR κ atStates a) ∧ HN6 κ τ (zR κ atEndings a) ∧ (zA τ (zR κ atSorts a) = zA κ (zR κ atSorts a) ∧ zA τ (zR κ atNumbers a) = zA κ (zR κ atNumbers a) ∧ zA τ (zR κ atWeights a) = zA κ (zR κ atWeights a)) ∧ zA τ (zR κ f a) = upd (zA κ (zR κ f a)) i x ∧ ∀ g u, zr g = some u → 20 ≤ u → g / 100 = 3 → g ≠ f → zA τ (zR κ g a) = zA κ (zR κ g a) := by
  have nn := at_ne W T
  have ow : zO κ (zR κ f a) = (f, a) := W.o hf ht (T.trans h3.symm)
  have Z : zF (objF a) κ τ := by rw [e]; exact zF_ua (by rw [ow])
  have oth : ∀ g u, zr g = some u → 20 ≤ u → g / 100 = 3 → g ≠ f → zA τ (zR κ g a) = zA κ (zR κ g a) := fun g u h1 h2 g3 h4 => by
    rw [e]
    exact if_neg (ow_ne W h1 h2 (T.trans g3.symm) hf ht (T.trans h3.symm) h4)
  refine ⟨⟨by rw [e]; rfl, by rw [e]; rfl⟩, am_z6 W (ty_atMachine W T) Z (fun f q => nn.1.1 q) (fun f q => cod_6 W T T (by decide) q), HN_z6 W (ty_atStates W T) Z (fun f q => nn.1.2.1 q), HN_z6 W (ty_atEndings W T) Z (fun f q => nn.1.2.2 q), ⟨?_, ?_, ?_⟩, by rw [e]; exact if_pos rfl, oth⟩
  · exact oth atSorts 20 (by decide +kernel) (by decide) (by decide) (Ne.symm hn.1)
  · exact oth atNumbers 20 (by decide +kernel) (by decide) (by decide) (Ne.symm hn.2.1)
  · exact oth atWeights 20 (by decide +kernel) (by decide) (by decide) (Ne.symm hn.2.2)
theorem own_R6 {f i t : Nat} {x : Int32} (W : zW C n0 κ) (T : zT κ a = 3) (hf : zr f = some t) (ht : 20 ≤ t) (h3 : f / 100 = 3) (hn : f ≠ atSorts ∧ f ≠ atNumbers ∧ f ≠ atWeights) (e : τ = ua κ (zR κ f a) i x) (R : RL6 κ a w s lim σ) (hs : ∀ g, g = 70 ∨ g = 71 ∨ g = 72 ∨ g = 85 → σ'.1 g = σ.1 g) (hr : ∀ g, g = 30 ∨ g = 73 ∨ g = 74 ∨ g = 75 ∨ g = 77 ∨ g = 78 ∨ g = 79 → σ'.2.2.1 g = σ.2.2.1 g) : RL6 τ a w s lim σ' := by
  obtain ⟨⟨r1, r2⟩, _, h1, h2, ⟨a1, a2, a3⟩, _, _⟩ := own_6 W T hf ht h3 hn e
  obtain ⟨n, m, nx, q1, q2, ⟨q3, q4, q5, q6⟩, q7, q8, q9, q10⟩ := R
  refine ⟨n, m, nx, by rw [r1]; exact SH_h6 h1.1 q1 (hr 30 (by decide)) (hr 73 (by decide)), by rw [r1]; exact EH_h6 h2.1 q2 (hr 75 (by decide)), ⟨(hs 70 (by decide)).trans q3, (hs 71 (by decide)).trans q4, (hs 72 (by decide)).trans q5, (hs 85 (by decide)).trans q6⟩, q7, fun j hj => by rw [hr 74 (by decide), hr 73 (by decide)]; exact q8 j hj, by rw [r2]; exact q9, fun t ht => ?_⟩
  rw [r1, a1, a2, a3, hr 77 (by decide), hr 78 (by decide), hr 79 (by decide)]
  exact q10 t ht
/-- the machine alone was touched -/
theorem mach_R6 (W : zW C n0 κ) (T : zT κ a = 3) (Z : zF (objF (zR κ atMachine a)) κ τ) (R : RL6 κ a w s lim σ) (hs : ∀ g, g = 70 ∨ g = 71 ∨ g = 72 ∨ g = 85 → σ'.1 g = σ.1 g) (hr : ∀ g, g = 30 ∨ g = 73 ∨ g = 74 ∨ g = 75 ∨ g = 77 ∨ g = 78 ∨ g = 79 → σ'.2.2.1 g = σ.2.2.1 g) : RL6 τ a w s lim σ' ∧ TR6 κ τ a ∧ HP6 κ τ a ∧ HN6 κ τ (zR κ atStates a) ∧ HN6 κ τ (zR κ atEndings a) ∧ NP6 κ τ a := by
  have nn := at_ne W T
  have N := NP_z6 W T Z (fun f q => nn.1.1 (Eq.symm q))
  have h1 := HN_z6 W (ty_atStates W T) Z (fun f q => nn.2.1 (Eq.symm q))
  have h2 := HN_z6 W (ty_atEndings W T) Z (fun f q => nn.2.2 (Eq.symm q))
  exact ⟨RL_n6 N h1.1 h2.1 R hs hr, TR_z6 W T Z (fun f q => nn.1.1 (Eq.symm q)), HP_h6 N.2.2.2.2.1 h1.1, h1, h2, N⟩
end
/-- the row of state k and its calls, as they stay while it is expanded -/
def SK6 (κ : zS) (a w d k : Nat) : Prop := 0 < d ∧ d ≤ 12 ∧ ∃ K, hkS9 κ (zR κ atStates a) 2048 K (Int32.ofNat (w + 9 * d)) k
/-- the state's own row against the reference's key -/
theorem SK_k6 {κ : zS} {a w s lim d k : Nat} {σ : rS} {K : Nat → Int32} (R : RL6 κ a w s lim σ) (hd : d ≤ 12) (hk : hkS9 κ (zR κ atStates a) 2048 K (Int32.ofNat (w + 9 * d)) k) : k ≤ 1000 ∧ KS6 w s d (σ.2.2.1 30) K (fun i => σ.2.2.1 73 (143 * k + i)) := by
  obtain ⟨n, m, nx, ⟨q1, q2, q3, q4⟩, _⟩ := R
  have k1 := hk.1.1
  rw [q2, ofn_i (by omega)] at k1
  obtain ⟨dg, Kg, a1, b1⟩ := q4 k (by omega)
  have w34 := a1.1.2.2.1
  have dg12 := a1.1.2.1
  obtain ⟨u1, u2⟩ := hk_u6 (by omega) (by omega) b1.1 hk.1
  have dd : dg = d := by omega
  rw [dd] at a1
  refine ⟨by omega, KS_k6 a1 (fun i hi => (u2 i (by omega)).symm)⟩
/-- a state loaded, on both sides -/
theorem ldm_6 {κ τ : zS} {a nv s w lim d k : Nat} {σ : rS} {K : Nat → Int32} (CE : CE6 nv s w (am6 κ (zR κ atMachine a)) σ) (R : RL6 κ a w s lim σ) (d0 : 0 < d) (hd : d ≤ 12) (hk : hkS9 κ (zR κ atStates a) 2048 K (Int32.ofNat (w + 9 * d)) k) (L : LM6 (am6 κ (zR κ atMachine a)) (am6 τ (zR κ atMachine a)) K (w + 9 * d)) : ∃ σ', g5_unpack (Int32.ofNat k) σ = σ' ∧ MB6 nv w s d (am6 τ (zR κ atMachine a)) σ' ∧ AT6 w s d (am6 τ (zR κ atMachine a)) σ' ∧ (∀ g, g ≠ 58 → σ'.1 g = σ.1 g) ∧ (∀ g, g ≠ 57 → g ≠ 59 → g ≠ 60 → σ'.2.2.1 g = σ.2.2.1 g) ∧ σ'.2.2.2 = σ.2.2.2 ∧ CE6 nv s w (am6 τ (zR κ atMachine a)) σ' := by
  obtain ⟨k1, KS⟩ := SK_k6 R hd hk
  obtain ⟨⟨l1, l2, l3, l4⟩, l5, l6, l7⟩ := L
  have CE' := CE
  obtain ⟨T, X, Bk, N, Z, na, f, _, _, _, _, ⟨h5, h6, h7, h8⟩, _, _, h9⟩ := CE
  have o3 : (am6 τ (zR κ atMachine a)).1 703 = Int32.ofNat d := by
    rw [l1, h5]
    have e1 : Int32.ofNat (w + 9 * d) - Int32.ofNat w = Int32.ofNat (9 * d) := Int32.toInt_inj.mp (by rw [sub_i (by rw [ofn_i (by omega), ofn_i (by omega)]; omega) (by rw [ofn_i (by omega), ofn_i (by omega)]; omega), ofn_i (by omega), ofn_i (by omega), ofn_i (by omega)]; omega)
    have e2 : Int32.ofNat (9 * d) / 9 = Int32.ofNat d := by
      have h : ∀ x, x < 13 → Int32.ofNat (9 * x) / 9 = Int32.ofNat x := by decide
      exact h d (by omega)
    rw [e1, e2, if_neg (show ¬ Int32.ofNat d < 1 by rw [lti, ofn_i (by omega), show (1 : Int32).toInt = 1 from rfl]; omega)]
  have o4 : (am6 τ (zR κ atMachine a)).1 704 = Int32.ofNat (w + 9 * (d - 1)) := by
    rw [l2, h5, o3, of_s5 (b := d - 1) (by congr 1; omega) (by omega), show (9 : Int32) = Int32.ofNat 9 from rfl, mul_n6 (by omega) (by omega) (by omega), on_5 (by omega), Nat.mul_comm (d - 1) 9]
  have e2 : (am6 τ (zR κ atMachine a)).1 702 = Int32.ofNat w := (l4 702 (by decide) (by decide) (by decide)).trans h5
  obtain ⟨σ', u1, u2, u3, u4, u5, u6⟩ := KS_l6 (e := am6 τ (zR κ atMachine a)) (nv := nv) k1 h6 KS e2 o3 o4 (by rw [l7]; exact h9) l6
  refine ⟨σ', u1, u2, u3, u4, u5, u6, CE_w6 CE' ⟨⟨fun g q => l4 g (by omega) (by omega) (by omega), fun g q => l5 g (by omega), l7⟩, fun g q => u4 g (by omega), fun g q => u5 g (by omega) (by omega) (by omega), u6⟩⟩
/-- a state loaded, on both sides -/
theorem ldmF_6 {κ τ : zS} {a nv s w lim d k : Nat} {σ : rS} {K : Nat → Int32} (CE : CF6 nv s w (am6 κ (zR κ atMachine a)) σ) (R : RL6 κ a w s lim σ) (d0 : 0 < d) (hd : d ≤ 12) (hk : hkS9 κ (zR κ atStates a) 2048 K (Int32.ofNat (w + 9 * d)) k) (L : LM6 (am6 κ (zR κ atMachine a)) (am6 τ (zR κ atMachine a)) K (w + 9 * d)) : ∃ σ', g5_unpack (Int32.ofNat k) σ = σ' ∧ MB6 nv w s d (am6 τ (zR κ atMachine a)) σ' ∧ AT6 w s d (am6 τ (zR κ atMachine a)) σ' ∧ (∀ g, g ≠ 58 → σ'.1 g = σ.1 g) ∧ (∀ g, g ≠ 57 → g ≠ 59 → g ≠ 60 → σ'.2.2.1 g = σ.2.2.1 g) ∧ σ'.2.2.2 = σ.2.2.2 ∧ CF6 nv s w (am6 τ (zR κ atMachine a)) σ' := by
  obtain ⟨k1, KS⟩ := SK_k6 R hd hk
  obtain ⟨⟨l1, l2, l3, l4⟩, l5, l6, l7⟩ := L
  have CE' := CE
  obtain ⟨T, X, Bk, N, Z, na, f, _, _, _, _, ⟨h5, h6, h7, h8⟩, _, _, h9⟩ := CE
  have o3 : (am6 τ (zR κ atMachine a)).1 703 = Int32.ofNat d := by
    rw [l1, h5]
    have e1 : Int32.ofNat (w + 9 * d) - Int32.ofNat w = Int32.ofNat (9 * d) := Int32.toInt_inj.mp (by rw [sub_i (by rw [ofn_i (by omega), ofn_i (by omega)]; omega) (by rw [ofn_i (by omega), ofn_i (by omega)]; omega), ofn_i (by omega), ofn_i (by omega), ofn_i (by omega)]; omega)
    have e2 : Int32.ofNat (9 * d) / 9 = Int32.ofNat d := by
      have h : ∀ x, x < 13 → Int32.ofNat (9 * x) / 9 = Int32.ofNat x := by decide
      exact h d (by omega)
    rw [e1, e2, if_neg (show ¬ Int32.ofNat d < 1 by rw [lti, ofn_i (by omega), show (1 : Int32).toInt = 1 from rfl]; omega)]
  have o4 : (am6 τ (zR κ atMachine a)).1 704 = Int32.ofNat (w + 9 * (d - 1)) := by
    rw [l2, h5, o3, of_s5 (b := d - 1) (by congr 1; omega) (by omega), show (9 : Int32) = Int32.ofNat 9 from rfl, mul_n6 (by omega) (by omega) (by omega), on_5 (by omega), Nat.mul_comm (d - 1) 9]
  have e2 : (am6 τ (zR κ atMachine a)).1 702 = Int32.ofNat w := (l4 702 (by decide) (by decide) (by decide)).trans h5
  obtain ⟨σ', u1, u2, u3, u4, u5, u6⟩ := KS_l6 (e := am6 τ (zR κ atMachine a)) (nv := nv) k1 h6 KS e2 o3 o4 (by rw [l7]; exact h9) l6
  refine ⟨σ', u1, u2, u3, u4, u5, u6, CF_w6 CE' ⟨⟨fun g q => l4 g (by omega) (by omega) (by omega), fun g q => l5 g (by omega), l7⟩, fun g q => u4 g (by omega), fun g q => u5 g (by omega) (by omega) (by omega), u6⟩⟩

end
section
set_option maxHeartbeats 1600000
/-! a state expanded on both sides: the steps -/
section
variable {nv s w lim d k : Nat} {e : E5} {σ σ' : rS} {r : Int32}
theorem AF_w6 (A : AF6 nv w s d e σ r) : (e.1 715 = 4 ↔ r = 5) ∧ (e.1 715 = 3 ↔ r = 4) ∧ (e.1 715 = -1 ↔ ¬ (4 : Int32) ≤ r) := by
  rcases A with ⟨h, A⟩ | ⟨⟨A, _⟩, _⟩
  · have hr : r = 0 ∨ r = 1 ∨ r = 2 ∨ r = 3 := by
      rcases A with ⟨q, _⟩ | ⟨q, _⟩ | ⟨q, _⟩ | ⟨q, _⟩
      · exact Or.inl q
      · exact Or.inr (Or.inl q)
      · exact Or.inr (Or.inr (Or.inl q))
      · exact Or.inr (Or.inr (Or.inr q))
    rw [h]
    rcases hr with q | q | q | q
    all_goals (rw [q]; decide)
  · rcases A with ⟨q, h⟩ | ⟨q, h⟩
    all_goals (rw [q, h]; decide)
/-- ways to go on, alike on both sides -/
def AV6 (nv w d : Nat) (e : E5) (σ : rS) (r : Int32) : Prop := ((r = 4 ∧ e.1 715 = 3) ∨ (r = 5 ∧ e.1 715 = 4)) ∧ (∃ n, n ≤ 64 ∧ e.1 716 = Int32.ofNat n ∧ σ.1 63 = Int32.ofNat n ∧ WY6 n e σ) ∧ ∃ i, e.1 708 = Int32.ofNat i ∧ tg6 nv w d i (σ.1 67)
def AG6 (nv w d : Nat) (e : E5) (σ : rS) (r : Int32) : Prop := (e.1 715 = -1 ∧ ¬ (4 : Int32) ≤ r) ∨ AV6 nv w d e σ r
theorem AG_f6 (A : AF6 nv w s d e σ r) : AG6 nv w d e σ r := by
  have z := AF_w6 A
  rcases A with ⟨h, _⟩ | ⟨⟨h, _, _, _, q, i⟩, _⟩
  · exact Or.inl ⟨h, z.2.2.mp h⟩
  · exact Or.inr ⟨h, q, i⟩
theorem AV_o6 {e' : E5} (A : AV6 nv w d e σ r) (h : ∀ g, g = 708 ∨ g = 715 ∨ g = 716 → e'.1 g = e.1 g) (hr : ∀ g, g = 718 ∨ g = 719 → e'.2.1 g = e.2.1 g) (k : ∀ g, g = 63 ∨ g = 67 → σ'.1 g = σ.1 g) (kr : ∀ g, g = 64 ∨ g = 65 → σ'.2.2.1 g = σ.2.2.1 g) : AV6 nv w d e' σ' r := by
  obtain ⟨a, ⟨n, n1, n2, n3, n4⟩, i, i1, i2⟩ := A
  refine ⟨by rw [h 715 (by decide)]; exact a, ⟨n, n1, by rw [h 716 (by decide)]; exact n2, by rw [k 63 (by decide)]; exact n3, fun j hj => ?_⟩, i, by rw [h 708 (by decide)]; exact i1, by rw [k 67 (by decide)]; exact i2⟩
  rw [hr 718 (by decide), hr 719 (by decide), kr 64 (by decide), kr 65 (by decide)]
  exact n4 j hj
theorem AG_o6 {e' : E5} (A : AG6 nv w d e σ r) (h : ∀ g, g = 708 ∨ g = 715 ∨ g = 716 → e'.1 g = e.1 g) (hr : ∀ g, g = 718 ∨ g = 719 → e'.2.1 g = e.2.1 g) (k : ∀ g, g = 63 ∨ g = 67 → σ'.1 g = σ.1 g) (kr : ∀ g, g = 64 ∨ g = 65 → σ'.2.2.1 g = σ.2.2.1 g) : AG6 nv w d e' σ' r := by
  rcases A with ⟨a, b⟩ | A
  · exact Or.inl ⟨by rw [h 715 (by decide)]; exact a, b⟩
  · exact Or.inr (AV_o6 A h hr k kr)
/-- the reference's expand, a piece at a time -/
theorem exq_6 {a1 : Int32} {σ2 σ3 : rS} (h1 : g5_unpack a1 (riU σ 76 a1.toNatClampNeg (σ.1 72)) = σ2) (h2 : g5_act σ2 = (σ3, r)) : g5_expand a1 σ = g5_expand_37 a1 (σ.1 72) r a1 (if r = 5 then 1 else 0) σ3 := by
  unfold g5_expand
  rw [pb_e5, pb_e5, pb_e5, h1, h2]
  show (if r = 5 then g5_expand_37 a1 (σ.1 72) r a1 1 σ3 else g5_expand_37 a1 (σ.1 72) r a1 0 σ3) = _
  by_cases c : r = 5
  · rw [if_pos c, if_pos c]
  · rw [if_neg c, if_neg c]
def X6 (a1 v2 r : Int32) (σ : rS) : rS × Int32 := if 4 ≤ r then g5_expand_106 fu5 a1 v2 r 1 0 σ else pm5 (g5_addNext r 1 0 v2 σ) (fun σ2 r3 => g5_expand_106 fu5 a1 v2 r r3 0 σ2)
theorem x84_6 {a1 v2 x : Int32} : g5_expand_84 a1 v2 r a1 x σ = X6 a1 v2 r (riU σ 80 a1.toNatClampNeg x) := by
  unfold g5_expand_84 X6
  rw [pb_e5]
theorem x56_6 {a1 v2 x : Int32} : g5_expand_56 a1 v2 r a1 x σ = X6 a1 v2 r (riU (riU σ 82 a1.toNatClampNeg x) 80 a1.toNatClampNeg (if r = 4 then σ.1 66 else if r = 5 then 0 else 1)) := by
  unfold g5_expand_56
  rw [pb_e5, x84_6, x84_6, x84_6]
  by_cases c : r = 4
  · rw [if_pos c, if_pos c]; rfl
  · rw [if_neg c, if_neg c]
    by_cases c5 : r = 5
    · rw [if_pos c5, if_pos c5]
    · rw [if_neg c5, if_neg c5]
theorem x37_6 {a1 v2 : Int32} : g5_expand_37 a1 v2 r a1 (if r = 5 then 1 else 0) σ = X6 a1 v2 r (riU (riU (riU σ 81 a1.toNatClampNeg (if r = 5 then 1 else 0)) 82 a1.toNatClampNeg (if r = 2 then 0 else σ.1 62)) 80 a1.toNatClampNeg (if r = 4 then σ.1 66 else if r = 5 then 0 else 1)) := by
  have nb : vp_nar .boolean (if r = 5 then (1 : Int32) else 0) = (if r = 5 then 1 else 0) := by
    by_cases c : r = 5
    · rw [if_pos c]; rfl
    · rw [if_neg c]; rfl
  unfold g5_expand_37
  rw [pb_e5, x56_6, x56_6, nb]
  by_cases c : r = 2
  · rw [if_pos c, if_pos c]; rfl
  · rw [if_neg c, if_neg c]; rfl
theorem x106_06 {m : Nat} {a1 v2 x : Int32} : g5_expand_106 (m + 1) a1 v2 r 0 x σ = g5_expand_176 a1 0 σ := by
  rw [g5_expand_106]
  by_cases c : r < 4
  · rw [if_pos c]
  · rw [if_neg c]
    by_cases c2 : σ.1 63 ≤ x
    · rw [if_pos c2]
    · rw [if_neg c2, if_pos rfl]
theorem x106_16 {m : Nat} {a1 v2 x y : Int32} (h : ¬ (4 : Int32) ≤ r) : g5_expand_106 (m + 1) a1 v2 r y x σ = g5_expand_176 a1 y σ := by
  rw [g5_expand_106, if_pos (by rw [lti]; rw [lei] at h; omega)]
theorem x106_26 {m : Nat} {a1 v2 x y : Int32} (h : σ.1 63 ≤ x) : g5_expand_106 (m + 1) a1 v2 r y x σ = g5_expand_176 a1 y σ := by
  rw [g5_expand_106]
  by_cases c : r < 4
  · rw [if_pos c]
  · rw [if_neg c, if_pos h]
theorem x106_36 {m : Nat} {a1 v2 x y : Int32} (h : (4 : Int32) ≤ r) (h1 : ¬ σ.1 63 ≤ x) (h2 : y ≠ 0) (h3 : σ.2.2.1 65 x.toNatClampNeg ≤ 0) : g5_expand_106 (m + 1) a1 v2 r y x σ = g5_expand_106 m a1 v2 r y (x + 1) σ := by
  rw [g5_expand_106, if_neg (by rw [lti]; rw [lei] at h; omega), if_neg h1, if_neg h2, if_pos h3, pb_e5]
theorem x106_46 {m : Nat} {a1 v2 x y y' u : Int32} {σ2 σ4 σ5 : rS} (h : r = 4 ∨ r = 5) (h1 : ¬ σ.1 63 ≤ x) (h2 : y ≠ 0) (h3 : ¬ σ.2.2.1 65 x.toNatClampNeg ≤ 0) (h4 : g5_unpack a1 σ = σ2) (h5 : g5_get x σ2 = (σ4, u)) (h6 : g5_addNext u (σ4.2.2.1 65 x.toNatClampNeg) (if r = 4 then 1 else 0) v2 σ4 = (σ5, y')) : g5_expand_106 (m + 1) a1 v2 r y x σ = g5_expand_106 m a1 v2 r y' (x + 1) σ5 := by
  have h0 : ¬ r < 4 := by
    rcases h with q | q
    · rw [q]; decide
    · rw [q]; decide
  rw [g5_expand_106, if_neg h0, if_neg h1, if_neg h2, if_neg h3, pb_e5, h4, h5]
  show (if r = 4 then g5_expand_164 (g5_expand_106 m) a1 v2 r x u (σ4.2.2.1 65 x.toNatClampNeg) 1 σ4 else g5_expand_164 (g5_expand_106 m) a1 v2 r x u (σ4.2.2.1 65 x.toNatClampNeg) 0 σ4) = _
  have e : ∀ c, g5_addNext u (σ4.2.2.1 65 x.toNatClampNeg) c v2 σ4 = (σ5, y') → g5_expand_164 (g5_expand_106 m) a1 v2 r x u (σ4.2.2.1 65 x.toNatClampNeg) c σ4 = g5_expand_106 m a1 v2 r y' (x + 1) σ5 := fun c q => by
    unfold g5_expand_164
    rw [q]
    rfl
  by_cases c : r = 4
  · rw [if_pos c] at h6 ⊢
    exact e _ h6
  · rw [if_neg c] at h6 ⊢
    exact e _ h6
end
theorem pmp_6 {β : Type} {x : rS} {y : Int32} {f : rS → Int32 → β} : pm5 (x, y) f = f x y := rfl
def EC6 (nv s w lim : Nat) (τ : zS) (a k d : Nat) (v2 : Int32) (σc : rS) (r : Int32) : Prop := (CE6 nv s w (am6 τ (zR τ atMachine a)) σc ∧ RL6 τ a w s lim σc ∧ TB6 τ a k σc ∧ lU9 τ a) ∧ (zA τ (zR τ atFirsts a) k = v2 ∧ σc.2.2.1 76 k = v2 ∧ zI τ atNexts a = v2) ∧ AF6 nv w s d (am6 τ (zR τ atMachine a)) σc r ∧ SK6 τ a w d k
def EL6 (nv s w lim : Nat) (τ : zS) (a k d : Nat) (v2 : Int32) (σc : rS) (r : Int32) : Prop := (CE6 nv s w (am6 τ (zR τ atMachine a)) σc ∧ RL6 τ a w s lim σc ∧ TB6 τ a (k + 1) σc ∧ lU9 τ a) ∧ zA τ (zR τ atFirsts a) k = v2 ∧ AG6 nv w d (am6 τ (zR τ atMachine a)) σc r ∧ SK6 τ a w d k
def E45 (nv s w lim : Nat) (a1 : Int32) (σ : rS) (τ : zS) (a k : Nat) : Prop := ∃ σc r d, g5_expand a1 σ = g5_expand_37 a1 (σ.1 72) r a1 (if r = 5 then 1 else 0) σc ∧ EC6 nv s w lim τ a k d (σ.1 72) σc r
def E67 (nv s w lim : Nat) (a1 : Int32) (σ : rS) (τ : zS) (a k : Nat) (s2 : Int32) : Prop := ∃ σc r d, (g5_expand a1 σ = g5_expand_37 a1 (σ.1 72) r a1 (if r = 5 then 1 else 0) σc ∧ EC6 nv s w lim τ a k d (σ.1 72) σc r) ∧ s2 = (if r = 5 then 1 else 0)
def E101 (nv s w lim : Nat) (a1 : Int32) (σ : rS) (τ : zS) (a k : Nat) (s2 : Int32) : Prop := ∃ σc r d, (g5_expand a1 σ = g5_expand_37 a1 (σ.1 72) r a1 (if r = 5 then 1 else 0) σc ∧ EC6 nv s w lim τ a k d (σ.1 72) σc r) ∧ zA τ (zR τ atChooses a) k = (if r = 5 then 1 else 0) ∧ s2 = (if r = 4 then σc.1 66 else if r = 5 then 0 else 1)
def E29 (nv s w lim : Nat) (a1 : Int32) (σ : rS) (τ : zS) (a k : Nat) : Prop := ∃ σc r d, g5_expand a1 σ = X6 a1 (σ.1 72) r σc ∧ EC6 nv s w lim τ a k d (σ.1 72) σc r ∧ TB6 τ a (k + 1) σc
def E143 (nv s w lim : Nat) (a1 : Int32) (σ : rS) (τ : zS) (a k : Nat) (l4 l5 : Int32) : Prop := ∃ m στ r d, g5_expand a1 σ = g5_expand_106 m a1 (σ.1 72) r l4 l5 στ ∧ (64 - l5.toInt).toNat < m ∧ (l4 ≠ 0 → EL6 nv s w lim τ a k d (σ.1 72) στ r)
def E231 (nv s w lim : Nat) (a1 : Int32) (σ : rS) (τ : zS) (a k : Nat) (l4 : Int32) : Prop := ∃ στ, g5_expand a1 σ = g5_expand_176 a1 l4 στ ∧ (l4 ≠ 0 → CE6 nv s w (am6 τ (zR τ atMachine a)) στ ∧ RL6 τ a w s lim στ ∧ TB6 τ a (k + 1) στ ∧ lU9 τ a)
section
variable {C : zC} {n0 a k : Nat} {κ τ υ : zS} {nv s w lim d : Nat} {σ σ' : rS} {r : Int32}
theorem lU_h6 (hU : lU9 κ a) (r1 : zR τ atStates a = zR κ atStates a) (r2 : zR τ atEndings a = zR κ atEndings a) (h1 : HN6 κ τ (zR κ atStates a)) (h2 : HN6 κ τ (zR κ atEndings a)) : lU9 τ a := by
  obtain ⟨u1, u2, u3, u4⟩ := hU
  exact ⟨by rw [r1]; exact hoA_n6 h1 u1, by rw [r2]; exact hoA_n6 h2 u2, by rw [r1]; exact hoU_h6 h1.1 u3, by rw [r2]; exact hoU_h6 h2.1 u4⟩
theorem SK_p6 (P : HP6 κ τ a) (h : SK6 κ a w d k) : SK6 τ a w d k := by
  obtain ⟨h1, h2, K, h3⟩ := h
  exact ⟨h1, h2, K, P _ _ _ h3⟩
theorem TR_t6 (x : TR6 κ τ a) (y : TR6 τ υ a) : TR6 κ υ a := ⟨y.1.trans x.1, y.2.1.trans x.2.1, y.2.2.1.trans x.2.2.1, y.2.2.2.trans x.2.2.2⟩
/-- the state's number stored, loaded, its statement carried out -/
theorem exA_6 {κ1 κ2 κ3 : zS} {a1 : Int32} (W : zW C n0 κ) (T : zT κ a = 3) (hU : lU9 κ a) (hX : XP6 nv s w lim κ a a1.toNatClampNeg σ) (k0 : 0 ≤ a1.toInt) (hk : a1.toInt < (σ.1 70).toInt) (e1 : κ1 = ua κ (zR κ atFirsts a) a1.toNatClampNeg (zI κ atNexts a)) (W1 : zW C n0 κ1) (F2 : mF κ1 κ2 (zR κ1 atMachine a)) (z2 : ∀ (K : Nat → Int32) (l : Nat), l ≤ 142 → 0 < l → 0 ≤ a1.toInt → hk9 κ1 (zR κ1 atStates a) K (Int32.ofNat l).toInt a1.toNatClampNeg → LM6 (am6 κ1 (zR κ1 atMachine a)) (am6 κ2 (zR κ1 atMachine a)) K l) (W2 : zW C n0 κ2) (F3 : mF κ2 κ3 (zR κ2 atMachine a)) (z3 : f5_Ma_act (am6 κ2 (zR κ2 atMachine a)) = .inl (am6 κ3 (zR κ2 atMachine a), ())) : E45 nv s w lim a1 σ κ3 a a1.toNatClampNeg := by
  obtain ⟨CE, R, B, _⟩ := hX
  have kk := cnk k0
  obtain ⟨k, hk9⟩ : ∃ k, k = a1.toNatClampNeg := ⟨_, rfl⟩
  obtain ⟨n, m, nx, q1, q2, ⟨q3, q4, q5, q6⟩, ⟨q7, q8, q9⟩, q10, q11, q12⟩ := id R
  rw [q3, ofn_i (by omega)] at hk
  have ea1 : a1 = Int32.ofNat k := Int32.toInt_inj.mp (by rw [ofn_i (by omega)]; omega)
  have hf : zr atFirsts = some 20 := by decide +kernel
  obtain ⟨⟨r1, i1⟩, A1, h1, h2, _, fr, oth⟩ := own_6 W T hf (by decide) (by decide) ⟨by decide, by decide, by decide⟩ e1
  rw [← hk9] at fr e1 B z2 ⊢
  obtain ⟨σ1, hσ1⟩ : ∃ σ1, σ1 = riU σ 76 k (σ.1 72) := ⟨_, rfl⟩
  have s1 : σ1.1 = σ.1 := by rw [hσ1]; rfl
  have s2 : ∀ g, g ≠ 76 → σ1.2.2.1 g = σ.2.2.1 g := fun g q => by rw [hσ1]; exact ri_o6 q
  have s76 : ∀ j, σ1.2.2.1 76 j = if j = k then σ.1 72 else σ.2.2.1 76 j := fun j => by rw [hσ1]; exact ri_s6
  have s3 : σ1.2.2.2 = σ.2.2.2 := by rw [hσ1]; rfl
  have R1 : RL6 κ1 a w s lim σ1 := own_R6 W T hf (by decide) (by decide) ⟨by decide, by decide, by decide⟩ e1 R (fun g _ => by rw [s1]) (fun g q => s2 g (by omega))
  have T1 : zT κ1 a = 3 := by rw [e1]; exact T
  have CE1 : CF6 nv s w (am6 κ1 (zR κ1 atMachine a)) σ1 := by
    rw [r1, A1]
    exact CF_w6 CE ⟨⟨fun _ _ => rfl, fun _ _ => rfl, rfl⟩, fun g _ => by rw [s1], fun g q => s2 g (by omega), s3⟩
  have oT := oth atTotals 20 (by decide +kernel) (by decide) (by decide) (by decide)
  have oG := oth atGains 20 (by decide +kernel) (by decide) (by decide) (by decide)
  have oC := oth atChooses 23 (by decide +kernel) (by decide) (by decide) (by decide)
  have B1 : TB6 κ1 a k σ1 := fun j hj => by
    rw [r1, fr, oT, oG, oC, s2 80 (by decide), s2 81 (by decide), s2 82 (by decide), s76 j, if_neg (by omega), show upd (zA κ (zR κ atFirsts a)) k (zI κ atNexts a) j = zA κ (zR κ atFirsts a) j from if_neg (by omega)]
    exact B j hj
  have U1 : lU9 κ1 a := lU_h6 hU (by rw [r1]) (by rw [r1]) h1 h2
  have S1 := R1
  obtain ⟨n', _, _, p1, _, ⟨p3, _⟩, ⟨p7, _⟩, _⟩ := S1
  have nn : n' = n := by
    rw [s1, q3] at p3
    exact (ofn_j6 p3 (by omega) (by omega)).symm
  obtain ⟨d, K, KS, hK⟩ := p1.2.2.2 k (by omega)
  have d0 := KS.1.1
  have d12 := KS.1.2.1
  have w34 := KS.1.2.2.1
  have L := z2 K (w + 9 * d) (by omega) (by omega) k0 hK.1
  have rm2 : zR κ2 atMachine a = zR κ1 atMachine a := by rw [F2.2.1]
  have rm3 : zR κ3 atMachine a = zR κ1 atMachine a := by rw [F3.2.1, rm2]
  rw [rm2] at F3 z3
  have l711 := L.1.2.2.1
  obtain ⟨σ2, u1, M2, AT2, u4, u5, u6, CE2⟩ := ldmF_6 CE1 R1 d0 d12 hK L
  obtain ⟨Tt, X, Bk, N, Z, na, f, ⟨c1, c2⟩, c3, c4, c5, ⟨c6, c7, c8, c9⟩, c10, c11, c12⟩ := id CE2
  obtain ⟨e', σ3, r, v1, v2, v3, v4, _⟩ := act_6 (σ := siU σ2 11 0) c1 c2 c3 (MB_116 M2) d0 AT2 c9 l711 c10 c11 c4 c5
  rw [act_116] at v2
  have v11 : ∀ g, 69 ≤ g → σ3.1 g = σ2.1 g := fun g q => (v3.2.1 g (by omega)).trans (by rw [si1, if_neg (by omega)])
  have v12 : ∀ g, g ≤ 45 ∨ 69 ≤ g → σ3.2.2.1 g = σ2.2.2.1 g := fun g q => v3.2.2.1 g q
  have ee : e' = am6 κ3 (zR κ1 atMachine a) := congrArg Prod.fst (Sum.inl.inj (v1.symm.trans z3))
  rw [ee] at v3 v4
  obtain ⟨w1, w2, w3, w4, w5, w6⟩ := mach_R6 (σ' := σ2) W1 T1 F2.1 R1 (fun g q => u4 g (by omega)) (fun g q => u5 g (by omega) (by omega) (by omega))
  have T2 : zT κ2 a = 3 := F2.1.t T1 (by decide)
  obtain ⟨y1, y2, y3, y4, y5, y6⟩ := mach_R6 (σ' := σ3) W2 T2 (by rw [rm2]; exact F3.1) w1 (fun g q => v11 g (by omega)) (fun g q => v12 g (by omega))
  refine ⟨σ3, r, d, exq_6 (σ2 := σ2) (by rw [← hk9, ← hσ1, ea1]; exact u1) v2, ⟨?_, y1, ?_, ?_⟩, ⟨?_, ?_, ?_⟩, ?_, SK_p6 (HP_t6 w3 y3) ⟨d0, d12, K, hK⟩⟩
  · rw [rm3]; exact CE_w6 (σ := siU σ2 11 0) CE2 (FMw_6 v3)
  · exact TB_r6 y2 (TB_r6 w2 B1 (fun g q => u5 g (by omega) (by omega) (by omega))) (fun g q => v12 g (by omega))
  · have U2 := lU_h6 U1 w6.2.2.2.2.1 w6.2.2.2.2.2.1 w4 w5
    exact lU_h6 U2 y6.2.2.2.2.1 y6.2.2.2.2.2.1 y4 y5
  · rw [y2.1, w2.1, r1, fr, q5, q11]
    exact if_pos rfl
  · rw [v12 76 (by decide), u5 76 (by decide) (by decide) (by decide), s76, if_pos rfl]
  · rw [y6.1, w6.1, i1, q5, q11]
  · rw [rm3]; exact v4
theorem E67_6 {a1 s2 : Int32} (H : E45 nv s w lim a1 σ τ a k) (h1 : zI τ maWants (zR τ atMachine a) = 4 → s2 = 1) (h2 : ¬ zI τ maWants (zR τ atMachine a) = 4 → s2 = 0) : E67 nv s w lim a1 σ τ a k s2 := by
  obtain ⟨σc, r, d, g, E⟩ := H
  refine ⟨σc, r, d, ⟨g, E⟩, ?_⟩
  have z := (AF_w6 E.2.2.1).1
  rw [am_i6 (f := 715) (by decide)] at z
  by_cases c : r = 5
  · rw [if_pos c]; exact h1 (z.mpr c)
  · rw [if_neg c]; exact h2 (fun q => c (z.mp q))
/-- a table's place stored to -/
theorem EC_u6 {f t : Nat} {v2 x : Int32} (W : zW C n0 τ) (T : zT τ a = 3) (hf : zr f = some t) (ht : 20 ≤ t) (h3 : f / 100 = 3) (hn : f ≠ atSorts ∧ f ≠ atNumbers ∧ f ≠ atWeights) (hn2 : f ≠ atFirsts) (e : υ = ua τ (zR τ f a) k x) (E : EC6 nv s w lim τ a k d v2 σ r) : EC6 nv s w lim υ a k d v2 σ r := by
  obtain ⟨⟨c1, c2, c3, c4⟩, ⟨f1, f2, f3⟩, A, S⟩ := E
  obtain ⟨⟨r1, i1⟩, A1, h1, h2, _, fr, oth⟩ := own_6 W T hf ht h3 hn e
  have row : ∀ g u, zr g = some u → 20 ≤ u → g / 100 = 3 → ∀ j, j ≠ k → zA υ (zR υ g a) j = zA τ (zR τ g a) j := fun g u g1 g2 g3 j hj => by
    rw [r1]
    by_cases c : g = f
    · rw [c, fr]; exact if_neg hj
    · rw [oth g u g1 g2 g3 c]
  refine ⟨⟨by rw [r1, A1]; exact c1, own_R6 W T hf ht h3 hn e c2 (fun _ _ => rfl) (fun _ _ => rfl), fun j hj => ?_, lU_h6 c4 (by rw [r1]) (by rw [r1]) h1 h2⟩, ⟨?_, f2, by rw [i1]; exact f3⟩, by rw [r1, A1]; exact A, SK_p6 (HP_h6 (by rw [r1]) h1.1) S⟩
  · rw [row atFirsts 20 (by decide +kernel) (by decide) (by decide) j (by omega), row atTotals 20 (by decide +kernel) (by decide) (by decide) j (by omega), row atGains 20 (by decide +kernel) (by decide) (by decide) j (by omega), row atChooses 23 (by decide +kernel) (by decide) (by decide) j (by omega)]
    exact c3 j hj
  · rw [r1, oth atFirsts 20 (by decide +kernel) (by decide) (by decide) (Ne.symm hn2)]
    exact f1
theorem E101_6 {a1 x s2 : Int32} (W : zW C n0 τ) (T : zT τ a = 3) (H : E67 nv s w lim a1 σ τ a k x) (e : υ = ua τ (zR τ atChooses a) k x) (h3 : zI υ maWants (zR υ atMachine a) = 3 → s2 = zI υ maTotal (zR υ atMachine a)) (h4 : zI υ maWants (zR υ atMachine a) = 4 → s2 = 0) (h1 : zI υ maWants (zR υ atMachine a) = -1 → s2 = 1) : E101 nv s w lim a1 σ υ a k s2 := by
  obtain ⟨σc, r, d, ⟨g, E⟩, ex⟩ := H
  have E' := EC_u6 W T (show zr atChooses = some 23 by decide +kernel) (by decide) (by decide) ⟨by decide, by decide, by decide⟩ (by decide) e E
  refine ⟨σc, r, d, ⟨g, E'⟩, ?_, ?_⟩
  · rw [← ex, e]
    show (if zR τ atChooses a = zR τ atChooses a then upd (zA τ (zR τ atChooses a)) k x else zA τ (zR τ atChooses a)) k = x
    rw [if_pos rfl]
    exact if_pos rfl
  · have A := E'.2.2.1
    have z := AF_w6 A
    rw [am_i6 (f := 715) (by decide)] at z
    by_cases c4 : r = 4
    · rw [if_pos c4, h3 (z.2.1.mpr c4), ← am_i6 (f := 717) (by decide)]
      rcases A with ⟨q, _⟩ | ⟨⟨_, _, _, q, _⟩, _⟩
      · rw [am_i6 (f := 715) (by decide), z.2.1.mpr c4] at q
        exact absurd q (by decide)
      · exact q
    · rw [if_neg c4]
      by_cases c5 : r = 5
      · rw [if_pos c5]; exact h4 (z.1.mpr c5)
      · rw [if_neg c5]
        refine h1 (z.2.2.mpr (fun q => ?_))
        rcases A with ⟨q1, _⟩ | ⟨⟨q1, _⟩ | ⟨q1, _⟩, _⟩
        · rw [am_i6 (f := 715) (by decide)] at q1
          exact z.2.2.mp q1 q
        · exact c4 q1
        · exact c5 q1
/-- the three tables stored to on both sides -/
theorem E29_6 {κ1 κ2 : zS} {a1 x : Int32} (W : zW C n0 τ) (T : zT τ a = 3) (H : E101 nv s w lim a1 σ τ a a1.toNatClampNeg x) (e1 : κ1 = ua τ (zR τ atTotals a) a1.toNatClampNeg x) (W1 : zW C n0 κ1) (e2 : κ2 = ua κ1 (zR κ1 atGains a) a1.toNatClampNeg (zI κ1 maGained (zR κ1 atMachine a))) : E29 nv s w lim a1 σ κ2 a a1.toNatClampNeg := by
  obtain ⟨σc, r, d, ⟨g, E⟩, ch, ex⟩ := H
  obtain ⟨k, hk⟩ : ∃ k, k = a1.toNatClampNeg := ⟨_, rfl⟩
  rw [x37_6] at g
  rw [← hk] at e1 e2 ch g E ⊢
  have T1 : zT κ1 a = 3 := by rw [e1]; exact T
  have hT : zr atTotals = some 20 := by decide +kernel
  have hG : zr atGains = some 20 := by decide +kernel
  have E1 := EC_u6 W T hT (by decide) (by decide) ⟨by decide, by decide, by decide⟩ (by decide) e1 E
  have E2 := EC_u6 W1 T1 hG (by decide) (by decide) ⟨by decide, by decide, by decide⟩ (by decide) e2 E1
  obtain ⟨⟨r1, i1⟩, A1, _, _, _, fr1, oth1⟩ := own_6 W T hT (by decide) (by decide) ⟨by decide, by decide, by decide⟩ e1
  obtain ⟨⟨r2, i2⟩, A2, _, _, _, fr2, oth2⟩ := own_6 W1 T1 hG (by decide) (by decide) ⟨by decide, by decide, by decide⟩ e2
  have ga : zI κ1 maGained (zR κ1 atMachine a) = (if r = 2 then 0 else σc.1 62) := by
    rw [← am_i6 (f := 714) (by decide), r1, A1]
    rcases E.2.2.1 with ⟨_, q⟩ | ⟨⟨q1, _, q2, _⟩, _⟩
    · rcases q with ⟨q, _, q2, _⟩ | ⟨q, _, q2, _⟩ | ⟨q, _, _, q2, _⟩ | ⟨q, _, q2, _⟩
      · rw [q2, if_neg (by rw [q]; decide)]
      · rw [q2, if_neg (by rw [q]; decide)]
      · rw [q2, if_pos q]
      · rw [q2, if_neg (by rw [q]; decide)]
    · rw [q2, if_neg]
      rcases q1 with ⟨q, _⟩ | ⟨q, _⟩
      · rw [q]; decide
      · rw [q]; decide
  obtain ⟨σ3, hσ3⟩ : ∃ σ3, σ3 = riU (riU (riU σc 81 k (if r = 5 then 1 else 0)) 82 k (if r = 2 then 0 else σc.1 62)) 80 k (if r = 4 then σc.1 66 else if r = 5 then 0 else 1) := ⟨_, rfl⟩
  rw [← hσ3] at g
  have s1 : σ3.1 = σc.1 := by rw [hσ3]; rfl
  have s2 : ∀ g, g ≠ 80 → g ≠ 81 → g ≠ 82 → σ3.2.2.1 g = σc.2.2.1 g := fun g x1 x2 x3 => by rw [hσ3, ri_o6 x1, ri_o6 x3, ri_o6 x2]
  have s80 : ∀ j, σ3.2.2.1 80 j = if j = k then (if r = 4 then σc.1 66 else if r = 5 then 0 else 1) else σc.2.2.1 80 j := fun j => by rw [hσ3, ri_s6, ri_o6 (by decide), ri_o6 (by decide)]
  have s81 : ∀ j, σ3.2.2.1 81 j = if j = k then (if r = 5 then 1 else 0) else σc.2.2.1 81 j := fun j => by rw [hσ3, ri_o6 (by decide), ri_o6 (by decide), ri_s6]
  have s82 : ∀ j, σ3.2.2.1 82 j = if j = k then (if r = 2 then 0 else σc.1 62) else σc.2.2.1 82 j := fun j => by rw [hσ3, ri_o6 (by decide), ri_s6, ri_o6 (by decide)]
  have s3 : σ3.2.2.2 = σc.2.2.2 := by rw [hσ3]; rfl
  obtain ⟨⟨c1, c2, c3, c4⟩, ⟨f1, f2, f3⟩, A, S⟩ := E2
  have AF : AF6 nv w s d (am6 κ2 (zR κ2 atMachine a)) σ3 r := by
    have mb : ∀ d', MB6 nv w s d' (am6 κ2 (zR κ2 atMachine a)) σc → MB6 nv w s d' (am6 κ2 (zR κ2 atMachine a)) σ3 := fun d' M => by
      unfold MB6 zt6 at M ⊢
      rw [s1, s2 57 (by decide) (by decide) (by decide), s2 59 (by decide) (by decide) (by decide), s2 60 (by decide) (by decide) (by decide), s2 30 (by decide) (by decide) (by decide)]
      exact M
    have at' : ∀ d', AT6 w s d' (am6 κ2 (zR κ2 atMachine a)) σc → AT6 w s d' (am6 κ2 (zR κ2 atMachine a)) σ3 := fun d' M => by
      unfold AT6 at M ⊢
      rw [s2 59 (by decide) (by decide) (by decide)]
      exact M
    rcases A with ⟨q0, q⟩ | ⟨q, q2, q3⟩
    · refine Or.inl ⟨q0, ?_⟩
      unfold AE6 zt6 at q ⊢
      rw [s1, s2 57 (by decide) (by decide) (by decide)]
      rcases q with ⟨b1, b2, b3, d', b4, b5, b6⟩ | q | ⟨b1, b2, b3, b4, b5, d', b6, b7⟩ | ⟨b1, b2, b3, d', b6, b7⟩
      · exact Or.inl ⟨b1, b2, b3, d', b4, mb _ b5, at' _ b6⟩
      · exact Or.inr (Or.inl q)
      · exact Or.inr (Or.inr (Or.inl ⟨b1, b2, b3, b4, b5, d', mb _ b6, at' _ b7⟩))
      · exact Or.inr (Or.inr (Or.inr ⟨b1, b2, b3, d', mb _ b6, at' _ b7⟩))
    · refine Or.inr ⟨?_, q2, mb _ q3.1, at' _ q3.2⟩
      unfold AW6 WY6 at q ⊢
      rw [s1, s2 64 (by decide) (by decide) (by decide), s2 65 (by decide) (by decide) (by decide)]
      exact q
  have B3 : TB6 κ2 a k σ3 := fun j hj => by
    rw [s80, s81, s82, if_neg (by omega), if_neg (by omega), if_neg (by omega), s2 76 (by decide) (by decide) (by decide)]
    exact c3 j hj
  refine ⟨σ3, r, d, g, ⟨⟨CE_w6 c1 ⟨⟨fun _ _ => rfl, fun _ _ => rfl, rfl⟩, fun g _ => by rw [s1], fun g q => s2 g (by omega) (by omega) (by omega), s3⟩, ?_, B3, c4⟩, ⟨f1, by rw [s2 76 (by decide) (by decide) (by decide)]; exact f2, f3⟩, AF, S⟩, fun j hj => ?_⟩
  · obtain ⟨n, m, nx, q1, q2, ⟨q3, q4, q5, q6⟩, q7, q8, q9, q10⟩ := c2
    refine ⟨n, m, nx, SH_h6 HS_r6 q1 (s2 30 (by decide) (by decide) (by decide)) (s2 73 (by decide) (by decide) (by decide)), EH_h6 HS_r6 q2 (s2 75 (by decide) (by decide) (by decide)), ⟨by rw [s1]; exact q3, by rw [s1]; exact q4, by rw [s1]; exact q5, by rw [s1]; exact q6⟩, q7, fun j hj => by rw [s2 74 (by decide) (by decide) (by decide), s2 73 (by decide) (by decide) (by decide)]; exact q8 j hj, q9, fun t ht => ?_⟩
    rw [s2 77 (by decide) (by decide) (by decide), s2 78 (by decide) (by decide) (by decide), s2 79 (by decide) (by decide) (by decide)]
    exact q10 t ht
  · by_cases jk : j = k
    · rw [jk, s80, s81, s82, if_pos rfl, if_pos rfl, if_pos rfl, s2 76 (by decide) (by decide) (by decide), f1, f2, r2, fr2, oth2 atTotals 20 hT (by decide) (by decide) (by decide), oth2 atChooses 23 (by decide +kernel) (by decide) (by decide) (by decide), r1, fr1, oth1 atChooses 23 (by decide +kernel) (by decide) (by decide) (by decide)]
      refine ⟨rfl, ?_, ?_, ch⟩
      · rw [← ex]; exact if_pos rfl
      · rw [← ga, r1]; exact if_pos rfl
    · exact B3 j (by omega)
/-- behind the three stores: ways to go on, or one next -/
theorem EL_c6 {v2 : Int32} (E : EC6 nv s w lim τ a k d v2 σ r) (B : TB6 τ a (k + 1) σ) : EL6 nv s w lim τ a k d v2 σ r := by
  obtain ⟨⟨c1, c2, c3, c4⟩, ⟨f1, f2, f3⟩, A, S⟩ := E
  exact ⟨⟨c1, c2, B, c4⟩, f1, AG_f6 A, S⟩
theorem E143_06 {a1 : Int32} (H : E29 nv s w lim a1 σ τ a k) (h : zI τ maWants (zR τ atMachine a) ≠ -1) : E143 nv s w lim a1 σ τ a k 1 0 := by
  obtain ⟨σc, r, d, g, E, B⟩ := H
  have z := (AF_w6 E.2.2.1).2.2
  rw [am_i6 (f := 715) (by decide)] at z
  have r4 : (4 : Int32) ≤ r := Decidable.byContradiction (fun q => h (z.mpr q))
  unfold X6 at g
  rw [if_pos r4] at g
  exact ⟨fu5, σc, r, d, g, by unfold fu5; rw [t0i]; omega, fun _ => EL_c6 E B⟩
/-- a next is told: the tables behind it -/
theorem EL_l6 {a1 a2 a3 v v2 c u : Int32} {e : E5} {σ1 σ2 : rS} (W : zW C n0 κ) (T : zT κ a = 3) (Z : zF (ldF κ a) κ τ) (E : (CE6 nv s w (am6 κ (zR κ atMachine a)) σ1 ∧ RL6 κ a w s lim σ1 ∧ TB6 κ a (k + 1) σ1) ∧ zA κ (zR κ atFirsts a) k = v2 ∧ AG6 nv w d (am6 κ (zR κ atMachine a)) σ1 r ∧ SK6 κ a w d k) (hk : k = a1.toNatClampNeg) (O : OU6 nv w s (am6 κ (zR κ atMachine a)) σ1 u) (h3 : a3 = Int32.ofNat lim) (hc : (c ≠ 0 → zA κ (zR κ atChooses a) k = 0) ∧ (c = 0 → zA κ (zR κ atChooses a) k ≠ 0 ∨ zA κ (zR κ atFirsts a) k = zI κ atNexts a)) (S : ldS6 κ τ a a1 a2 a3 v) : ∃ σ2, g5_addNext u a2 c v2 σ1 = (σ2, v) ∧ (v ≠ 0 → EL6 nv s w lim τ a k d v2 σ2 r) := by
  obtain ⟨⟨c1, c2, c3⟩, f1, A, SK⟩ := E
  obtain ⟨⟨lU, MM, HP⟩, S⟩ := S
  have hw : zI κ maShared (zR κ atMachine a) = Int32.ofNat w ∧ w ≤ 34 := by
    obtain ⟨_, _, _, _, _, _, _, _, _, _, _, ⟨q1, _, q2, _⟩, _⟩ := id c1
    exact ⟨(am_i6 (f := 702) (by decide)).symm.trans q1, q2⟩
  rw [hk] at hc
  obtain ⟨σ2, g1, g2⟩ := S nv w s lim σ1 u c ⟨c2, O, ⟨h3, hw⟩, hc⟩
  rw [← hk, f1] at g1
  refine ⟨σ2, g1, fun hv => ?_⟩
  obtain ⟨R2, NF⟩ := g2 hv
  have TR := TR_l6 W T Z
  refine ⟨⟨?_, R2, TB_r6 TR c3 (fun g q => NF.2.1 g (by omega) (by omega) (by omega) (by omega) (by omega) (by omega) (by omega)), lU⟩, by rw [TR.1]; exact f1, ?_, SK_p6 HP SK⟩
  · rw [MM.1]
    exact CE_w6 c1 ⟨⟨fun g _ => by rw [MM.2.1], fun g q => MM.2.2.1 g (by omega), MM.2.2.2⟩, fun g q => NF.1 g (by omega) (by omega) (by omega), fun g q => NF.2.1 g (by omega) (by omega) (by omega) (by omega) (by omega) (by omega) (by omega), NF.2.2⟩
  · rw [MM.1]
    exact AG_o6 A (fun g _ => by rw [MM.2.1]) (fun g q => MM.2.2.1 g (by omega)) (fun g q => NF.1 g (by omega) (by omega) (by omega)) (fun g q => NF.2.1 g (by omega) (by omega) (by omega) (by omega) (by omega) (by omega) (by omega))
theorem E143_16 {a1 a3 v : Int32} (W : zW C n0 κ) (T : zT κ a = 3) (H : E29 nv s w lim a1 σ κ a a1.toNatClampNeg) (h : zI κ maWants (zR κ atMachine a) = -1) (Z : zF (ldF κ a) κ τ) (h3 : a3 = Int32.ofNat lim) (S : ldS6 κ τ a a1 1 a3 v) : E143 nv s w lim a1 σ τ a a1.toNatClampNeg v 0 := by
  obtain ⟨σc, r, d, g, E, B⟩ := H
  have z := (AF_w6 E.2.2.1).2.2
  rw [am_i6 (f := 715) (by decide)] at z
  have r4 := z.mp h
  have O : OU6 nv w s (am6 κ (zR κ atMachine a)) σc r := by
    rcases E.2.2.1 with ⟨_, q⟩ | ⟨q, _⟩
    · exact OU_e6 q
    · exfalso
      rcases q with ⟨q, _⟩ | ⟨q, _⟩
      · exact r4 (by rw [q]; decide)
      · exact r4 (by rw [q]; decide)
  obtain ⟨⟨c1, c2, c3, c4⟩, f1, A, SK⟩ := EL_c6 E B
  obtain ⟨σ2, g1, g2⟩ := EL_l6 (c := 0) (e := am6 κ 0) (σ2 := σc) W T Z ⟨⟨c1, c2, c3⟩, f1, A, SK⟩ rfl O h3 ⟨fun q => absurd rfl q, fun _ => Or.inr (f1.trans E.2.1.2.2.symm)⟩ S
  unfold X6 at g
  rw [if_neg r4, g1, pmp_6] at g
  exact ⟨fu5, σ2, r, d, g, by unfold fu5; rw [t0i]; omega, g2⟩
theorem E231_6 {a1 l4 l5 : Int32} (H : E143 nv s w lim a1 σ τ a k l4 l5) (h : l4 = 0 ∨ zI τ maWants (zR τ atMachine a) = -1 ∨ zI τ maWays (zR τ atMachine a) ≤ l5) : E231 nv s w lim a1 σ τ a k l4 := by
  obtain ⟨m, σc, r, d, g, hm, E⟩ := H
  obtain ⟨m, rfl⟩ : ∃ m9, m = m9 + 1 := ⟨m - 1, by omega⟩
  refine ⟨σc, g.trans ?_, fun q => (E q).1⟩
  by_cases c : l4 = 0
  · rw [c]; exact x106_06
  · rcases (E c).2.2.1 with ⟨q1, q2⟩ | ⟨q1, ⟨n, n1, n2, n3, n4⟩, q3⟩
    · exact x106_16 q2
    · rw [am_i6 (f := 715) (by decide)] at q1
      rw [am_i6 (f := 716) (by decide)] at n2
      refine x106_26 ?_
      rw [n3, ← n2]
      rcases h with h | h | h
      · exact absurd h c
      · exfalso
        rcases q1 with ⟨_, q⟩ | ⟨_, q⟩
        · have y := q.symm.trans h
          exact absurd y (by decide)
        · have y := q.symm.trans h
          exact absurd y (by decide)
      · exact h
/-- a way that doesn't weigh -/
theorem E143_36 {a1 l4 l5 : Int32} (H : E143 nv s w lim a1 σ τ a k l4 l5) (c4 : l4 ≠ 0) (hw : zI τ maWants (zR τ atMachine a) ≠ -1) (h0 : 0 ≤ l5.toInt) (h1 : l5.toInt < (zI τ maWays (zR τ atMachine a)).toInt) (h2 : zA τ (zR τ maWeights (zR τ atMachine a)) l5.toNatClampNeg ≤ 0) : E143 nv s w lim a1 σ τ a k l4 (l5 + 1) := by
  obtain ⟨m, σc, r, d, g, hm, E⟩ := H
  obtain ⟨m, rfl⟩ : ∃ m9, m = m9 + 1 := ⟨m - 1, by omega⟩
  rcases (E c4).2.2.1 with ⟨q1, q2⟩ | ⟨q1, ⟨n, n1, n2, n3, n4⟩, q3⟩
  · rw [am_i6 (f := 715) (by decide)] at q1
    exact absurd q1 hw
  · rw [am_i6 (f := 716) (by decide)] at n2
    have n2 : zI τ maWays (zR τ atMachine a) = Int32.ofNat n := n2
    rw [n2, ofn_i (by omega)] at h1
    have kx := cnk h0
    have r4 : (4 : Int32) ≤ r := by
      rcases q1 with ⟨q, _⟩ | ⟨q, _⟩
      · rw [q]; decide
      · rw [q]; decide
    have y := (n4 l5.toNatClampNeg (by omega)).2
    rw [(am_rw6 (f := 719) (by decide)).1] at y
    have e1 := cn1 h0 (by omega)
    refine ⟨m, σc, r, d, g.trans (x106_36 r4 (by rw [n3, lei, ofn_i (by omega)]; omega) c4 (by rw [← y]; exact h2)), by rw [e1.2]; omega, E⟩
/-- a way taken -/
theorem EL_s6 {κ1 κ2 : zS} {a1 l5 : Int32} {v2 : Int32} (W : zW C n0 κ) (T : zT κ a = 3) (E : EL6 nv s w lim κ a a1.toNatClampNeg d v2 σ r) (hw : zI κ maWants (zR κ atMachine a) ≠ -1) (k0 : 0 ≤ a1.toInt ∧ a1.toInt < 1000) (h0 : 0 ≤ l5.toInt) (h1 : l5.toInt < (zI κ maWays (zR κ atMachine a)).toInt) (F1 : mF κ κ1 (zR κ atMachine a)) (z1 : ∀ (K : Nat → Int32) (l : Nat), l ≤ 142 → 0 < l → 0 ≤ a1.toInt → hk9 κ (zR κ atStates a) K (Int32.ofNat l).toInt a1.toNatClampNeg → LM6 (am6 κ (zR κ atMachine a)) (am6 κ1 (zR κ atMachine a)) K l) (W1 : zW C n0 κ1) (F2 : mF κ1 κ2 (zR κ1 atMachine a)) (z2 : f5_Ma_settle l5 (am6 κ1 (zR κ1 atMachine a)) = .inl (am6 κ2 (zR κ1 atMachine a), ())) : lU9 κ2 a ∧ (r = 4 ∨ r = 5) ∧ (r = 4 → zI κ maWants (zR κ atMachine a) = 3) ∧ (r = 5 → zI κ maWants (zR κ atMachine a) = 4) ∧ ∃ σ1 σ2 u, (g5_unpack a1 σ = σ1 ∧ g5_get l5 σ1 = (σ2, u)) ∧ (¬ σ.1 63 ≤ l5 ∧ σ.2.2.1 65 l5.toNatClampNeg = zA κ (zR κ maWeights (zR κ atMachine a)) l5.toNatClampNeg ∧ σ2.2.2.1 65 = σ.2.2.1 65) ∧ ((CE6 nv s w (am6 κ2 (zR κ2 atMachine a)) σ2 ∧ RL6 κ2 a w s lim σ2 ∧ TB6 κ2 a (a1.toNatClampNeg + 1) σ2) ∧ zA κ2 (zR κ2 atFirsts a) a1.toNatClampNeg = v2 ∧ AG6 nv w d (am6 κ2 (zR κ2 atMachine a)) σ2 r ∧ SK6 κ2 a w d a1.toNatClampNeg) ∧ OU6 nv w s (am6 κ2 (zR κ2 atMachine a)) σ2 u ∧ zA κ2 (zR κ2 atChooses a) = zA κ (zR κ atChooses a) := by
  obtain ⟨⟨c1, c2, c3, c4⟩, f1, A, SK⟩ := E
  have kk := cnk k0.1
  have kx := cnk h0
  obtain ⟨k, hk⟩ : ∃ k, k = a1.toNatClampNeg := ⟨_, rfl⟩
  rw [← hk] at c3 f1 SK z1 ⊢
  have ea1 : a1 = Int32.ofNat k := Int32.toInt_inj.mp (by rw [ofn_i (by omega)]; omega)
  obtain ⟨d0, d12, K, hK⟩ := id SK
  have w34 : w ≤ 34 := by
    obtain ⟨_, _, _, _, _, _, _, _, _, _, _, ⟨_, _, q, _⟩, _⟩ := id c1
    exact q
  have L := z1 K (w + 9 * d) (by omega) (by omega) k0.1 hK.1
  obtain ⟨σ1, u1, M1, AT1, u4, u5, u6, CE1⟩ := ldm_6 c1 c2 d0 d12 hK L
  have rm1 : zR κ1 atMachine a = zR κ atMachine a := by rw [F1.2.1]
  have rm2 : zR κ2 atMachine a = zR κ atMachine a := by rw [F2.2.1, rm1]
  rw [rm1] at F2 z2
  rcases A with ⟨q1, _⟩ | A
  · rw [am_i6 (f := 715) (by decide)] at q1
    exact absurd q1 hw
  obtain ⟨q1, ⟨n, n1, n2, n3, n4⟩, i, i1, i2⟩ := id A
  have n2' : zI κ maWays (zR κ atMachine a) = Int32.ofNat n := (am_i6 (f := 716) (by decide)).symm.trans n2
  rw [n2', ofn_i (by omega)] at h1
  obtain ⟨x, hx⟩ : ∃ x, x = l5.toNatClampNeg := ⟨_, rfl⟩
  have el5 : l5 = Int32.ofNat x := Int32.toInt_inj.mp (by rw [ofn_i (by omega)]; omega)
  have xn : x < n := by omega
  have wx : σ.2.2.1 65 l5.toNatClampNeg = zA κ (zR κ maWeights (zR κ atMachine a)) l5.toNatClampNeg := by
    rw [← hx, ← (n4 x xn).2, (am_rw6 (f := 719) (by decide)).1]
  have AV1 : AV6 nv w d (am6 κ1 (zR κ atMachine a)) σ1 r := AV_o6 A (fun g q => L.1.2.2.2 g (by omega) (by omega) (by omega)) (fun g q => L.2.1 g (by omega)) (fun g q => u4 g (by omega)) (fun g q => u5 g (by omega) (by omega) (by omega))
  obtain ⟨_, ⟨n', m1, m2, m3, m4⟩, i', j1, j2⟩ := id AV1
  have nn : n' = n := by
    have y := m3
    rw [u4 63 (by decide), n3] at y
    exact (ofn_j6 y (by omega) (by omega)).symm
  obtain ⟨Tt, X, Bk, N, Z, na, f, ⟨b1, b2⟩, b3, b4, b5, _⟩ := id CE1
  obtain ⟨e', σ2, u, v1, v2', v3, v4, ⟨v5, v6⟩, v7, v8, v9⟩ := set_6 (i := x) b1.1.2.2.2 b1.1.2.2.1 b3 M1 d0 AT1 L.1.2.2.1 m1 (by omega) m2 m4 j1 j2
  rw [← el5] at v1 v2'
  have ee : e' = am6 κ2 (zR κ atMachine a) := congrArg Prod.fst (Sum.inl.inj (v1.symm.trans z2))
  rw [ee] at v3 v4 v5 v6
  obtain ⟨w1, w2, w3, w4, w5, w6⟩ := mach_R6 (σ' := σ1) W T F1.1 c2 (fun g q => u4 g (by omega)) (fun g q => u5 g (by omega) (by omega) (by omega))
  have T1 : zT κ1 a = 3 := F1.1.t T (by decide)
  obtain ⟨y1, y2, y3, y4, y5, y6⟩ := mach_R6 (σ' := σ2) W1 T1 (by rw [rm1]; exact F2.1) w1 (fun g q => v3.2.1 g (by omega)) (fun g q => v3.2.2.1 g (by omega))
  refine ⟨?_, ?_, ?_, ?_, σ1, σ2, u, ⟨by rw [ea1]; exact u1, v2'⟩, ⟨?_, wx, ?_⟩, ⟨⟨?_, y1, ?_⟩, ?_, ?_, SK_p6 (HP_t6 w3 y3) SK⟩, by rw [rm2]; exact v4, ?_⟩
  · have U2 := lU_h6 c4 w6.2.2.2.2.1 w6.2.2.2.2.2.1 w4 w5
    exact lU_h6 U2 y6.2.2.2.2.1 y6.2.2.2.2.2.1 y4 y5
  · rcases q1 with ⟨q, _⟩ | ⟨q, _⟩
    · exact Or.inl q
    · exact Or.inr q
  · intro q
    rcases q1 with ⟨_, q2⟩ | ⟨q2, _⟩
    · exact (am_i6 (f := 715) (by decide)).symm.trans q2
    · rw [q] at q2; exact absurd q2 (by decide)
  · intro q
    rcases q1 with ⟨q2, _⟩ | ⟨_, q2⟩
    · rw [q] at q2; exact absurd q2 (by decide)
    · exact (am_i6 (f := 715) (by decide)).symm.trans q2
  · rw [n3, lei, ofn_i (by omega)]; omega
  · rw [v8 65 (by decide) (by decide) (by decide), u5 65 (by decide) (by decide) (by decide)]
  · rw [rm2]; exact CE_w6 CE1 (FMw_6 v3)
  · exact TB_r6 y2 (TB_r6 w2 c3 (fun g q => u5 g (by omega) (by omega) (by omega))) (fun g q => v3.2.2.1 g (by omega))
  · rw [y2.1, w2.1]; exact f1
  · rw [rm2]
    exact Or.inr (AV_o6 AV1 (fun g q => v5 g (by omega)) (fun g q => v6 g (by omega)) (fun g q => v7 g (by omega) (by omega)) (fun g q => v8 g (by omega) (by omega) (by omega)))
  · rw [y2.2.2.2, w2.2.2.2]
theorem E143_46 {κ1 κ2 : zS} {a1 a3 l4 l5 v : Int32} (W : zW C n0 κ) (T : zT κ a = 3) (H : E143 nv s w lim a1 σ κ a a1.toNatClampNeg l4 l5) (cC : zA κ (zR κ atChooses a) a1.toNatClampNeg ≠ 0 ↔ zI κ maWants (zR κ atMachine a) = 4) (c4 : l4 ≠ 0) (hw : zI κ maWants (zR κ atMachine a) ≠ -1) (k0 : 0 ≤ a1.toInt ∧ a1.toInt < 1000) (h0 : 0 ≤ l5.toInt) (h1 : l5.toInt < (zI κ maWays (zR κ atMachine a)).toInt) (l64 : l5.toInt < 64) (h2 : ¬ zA κ (zR κ maWeights (zR κ atMachine a)) l5.toNatClampNeg ≤ 0) (F1 : mF κ κ1 (zR κ atMachine a)) (z1 : ∀ (K : Nat → Int32) (l : Nat), l ≤ 142 → 0 < l → 0 ≤ a1.toInt → hk9 κ (zR κ atStates a) K (Int32.ofNat l).toInt a1.toNatClampNeg → LM6 (am6 κ (zR κ atMachine a)) (am6 κ1 (zR κ atMachine a)) K l) (W1 : zW C n0 κ1) (F2 : mF κ1 κ2 (zR κ1 atMachine a)) (z2 : f5_Ma_settle l5 (am6 κ1 (zR κ1 atMachine a)) = .inl (am6 κ2 (zR κ1 atMachine a), ())) : lU9 κ2 a ∧ ∀ (_ : zW C n0 κ2) (_ : zT κ2 a = 3) (_ : zF (ldF κ2 a) κ2 τ) (_ : a3 = Int32.ofNat lim) (_ : ldS6 κ2 τ a a1 (zA κ (zR κ maWeights (zR κ atMachine a)) l5.toNatClampNeg) a3 v), E143 nv s w lim a1 σ τ a a1.toNatClampNeg v (l5 + 1) := by
  obtain ⟨m, σc, r, d, g, hm, E⟩ := H
  obtain ⟨lU, rr, r3, r5, σ1, σ2, u, ⟨g1, g2⟩, ⟨g3, g4, g5⟩, EE, O, oc⟩ := EL_s6 W T (E c4) hw k0 h0 h1 F1 z1 W1 F2 z2
  refine ⟨lU, fun W2 T2 Z h3 S => ?_⟩
  obtain ⟨m, rfl⟩ : ∃ m9, m = m9 + 1 := ⟨m - 1, by omega⟩
  have kx := cnk h0
  have e1 := cn1 h0 (by omega)
  have hc1 : (if r = 4 then (1 : Int32) else 0) ≠ 0 → zA κ2 (zR κ2 atChooses a) a1.toNatClampNeg = 0 := fun q => by
    have q4 : r = 4 := Decidable.byContradiction (fun z => q (if_neg z))
    rw [oc]
    refine Decidable.byContradiction (fun z => ?_)
    have y := (r3 q4).symm.trans (cC.mp z)
    exact absurd y (by decide)
  have hc0 : (if r = 4 then (1 : Int32) else 0) = 0 → zA κ2 (zR κ2 atChooses a) a1.toNatClampNeg ≠ 0 ∨ zA κ2 (zR κ2 atFirsts a) a1.toNatClampNeg = zI κ2 atNexts a := fun q => by
    refine Or.inl ?_
    rw [oc]
    refine cC.mpr (r5 ?_)
    rcases rr with z | z
    · rw [if_pos z] at q
      exact absurd q (by decide)
    · exact z
  obtain ⟨σ5, y1, y2⟩ := EL_l6 (c := if r = 4 then 1 else 0) (e := am6 κ 0) (σ2 := σc) W2 T2 Z EE rfl O h3 ⟨hc1, hc0⟩ S
  exact ⟨m, σ5, r, d, g.trans (x106_46 rr g3 c4 (by rw [g4]; exact h2) g1 g2 (by rw [g5, g4]; exact y1)), by rw [e1.2]; omega, y2⟩
/-- behind the last next -/
theorem exZ_6 {a1 l4 : Int32} (W : zW C n0 τ) (T : zT τ a = 3) (k0 : 0 ≤ a1.toInt ∧ a1.toInt < 1000) (H : E231 nv s w lim a1 σ τ a a1.toNatClampNeg l4) (e : υ = ua τ (zR τ atFirsts a) (a1 + 1).toNatClampNeg (zI τ atNexts a)) : ∃ σ', g5_expand a1 σ = (σ', l4) ∧ (l4 ≠ 0 → lU9 υ a ∧ XP6 nv s w lim υ a (a1.toNatClampNeg + 1) σ') := by
  obtain ⟨σc, g, E⟩ := H
  have kk := cnk k0.1
  have en := cn1 k0.1 (by omega)
  obtain ⟨σ', hs⟩ : ∃ σ', σ' = riU σc 76 (a1 + 1).toNatClampNeg (σc.1 72) := ⟨_, rfl⟩
  refine ⟨σ', g.trans ?_, fun q => ?_⟩
  · unfold g5_expand_176
    rw [pb_e5, hs]
  · obtain ⟨c1, c2, c3, c4⟩ := E q
    have k1 : (a1 + 1).toNatClampNeg = a1.toNatClampNeg + 1 := en.1
    rw [k1] at e hs
    obtain ⟨k, hk⟩ : ∃ k, k = a1.toNatClampNeg := ⟨_, rfl⟩
    rw [← hk] at e hs c3 ⊢
    have hf : zr atFirsts = some 20 := by decide +kernel
    obtain ⟨⟨r1, i1⟩, A1, h1, h2, _, fr, oth⟩ := own_6 W T hf (by decide) (by decide) ⟨by decide, by decide, by decide⟩ e
    have s1 : σ'.1 = σc.1 := by rw [hs]; rfl
    have s2 : ∀ g, g ≠ 76 → σ'.2.2.1 g = σc.2.2.1 g := fun g q => by rw [hs]; exact ri_o6 q
    have s76 : ∀ j, σ'.2.2.1 76 j = if j = k + 1 then σc.1 72 else σc.2.2.1 76 j := fun j => by rw [hs]; exact ri_s6
    have s3 : σ'.2.2.2 = σc.2.2.2 := by rw [hs]; rfl
    have nx : zI τ atNexts a = σc.1 72 := by
      obtain ⟨_, _, nx, _, _, ⟨_, _, q5, _⟩, _, _, q11, _⟩ := id c2
      rw [q5, q11]
    refine ⟨lU_h6 c4 (by rw [r1]) (by rw [r1]) h1 h2, ?_, own_R6 W T hf (by decide) (by decide) ⟨by decide, by decide, by decide⟩ e c2 (fun g _ => by rw [s1]) (fun g q => s2 g (by omega)), fun j hj => ?_, fun _ => ?_⟩
    · rw [r1, A1]
      refine CF_e6 ?_
      exact CE_w6 c1 ⟨⟨fun _ _ => rfl, fun _ _ => rfl, rfl⟩, fun g _ => by rw [s1], fun g q => s2 g (by omega), s3⟩
    · rw [r1, fr, oth atTotals 20 (by decide +kernel) (by decide) (by decide) (by decide), oth atGains 20 (by decide +kernel) (by decide) (by decide) (by decide), oth atChooses 23 (by decide +kernel) (by decide) (by decide) (by decide), s2 80 (by decide), s2 81 (by decide), s2 82 (by decide), s76 j, if_neg (by omega), show upd (zA τ (zR τ atFirsts a)) (k + 1) (zI τ atNexts a) j = zA τ (zR τ atFirsts a) j from if_neg (by omega)]
      exact c3 j hj
    · rw [r1, fr, s76, if_pos rfl, nx]
      exact if_pos rfl
end

end
