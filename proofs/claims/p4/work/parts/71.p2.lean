set_option maxHeartbeats 1600000
/-! the reference: a state is gone on from -/
/-- a state's nexts in order -/
def stOK (σ : rS) (j : Int32) : Prop := (0 ≤ rd σ 76 j ∧ rd σ 76 j < rd σ 76 (j + 1) ∧ rd σ 76 (j + 1) ≤ σ.1 72) ∧ nb (rd σ 81 j) ∧ (∀ i, (rd σ 76 j).toNatClampNeg ≤ i → i < (rd σ 76 (j + 1)).toNatClampNeg → 1 ≤ σ.2.2.1 79 i) ∧ (rd σ 81 j = 0 → (rd σ 80 j).toInt = wOf (σ.2.2.1 79) (rd σ 76 j).toNatClampNeg ((rd σ 76 (j + 1)).toNatClampNeg - (rd σ 76 j).toNatClampNeg) ∧ rd σ 80 j ≤ 8000000) ∧ (rd σ 81 j ≠ 0 → rd σ 76 (j + 1) - rd σ 76 j ≤ 8)
theorem wOf_congr {r r' : Nat → Int32} {a n : Nat} (h : ∀ i, a ≤ i → i < a + n → r' i = r i) : wOf r' a n = wOf r a n := wsum_congr (fun j hj => h (a + j) (by omega) (by omega))
theorem stOK_m {σ τ : rS} {j : Int32} (h : stOK σ j) (h76 : rd τ 76 j = rd σ 76 j) (h76' : rd τ 76 (j + 1) = rd σ 76 (j + 1)) (h80 : rd τ 80 j = rd σ 80 j) (h81 : rd τ 81 j = rd σ 81 j) (h72 : σ.1 72 ≤ τ.1 72) (h79 : ∀ i, i < (rd σ 76 (j + 1)).toNatClampNeg → τ.2.2.1 79 i = σ.2.2.1 79 i) : stOK τ j := by
  obtain ⟨h1, h2, h3, h4, h5⟩ := h
  have l := cn_lt h1.1 h1.2.1
  unfold stOK
  rw [h76, h76', h80, h81]
  refine ⟨⟨h1.1, h1.2.1, Int32.le_trans h1.2.2 h72⟩, h2, fun i a b => by rw [h79 i b]; exact h3 i a b, fun z => ⟨?_, (h4 z).2⟩, h5⟩
  rw [wOf_congr (fun i _ hi => h79 i (by omega))]
  exact (h4 z).1
/-- ranges and rows while states are found, behind state σ -/
def exKR9 (σ τ : rS) (B T : Int32) : Prop := rI τ B T ∧ exRR9 τ ∧ (σ.1 70 ≤ τ.1 70 ∧ σ.1 71 ≤ τ.1 71 ∧ σ.1 72 ≤ τ.1 72) ∧ (∀ j : Int32, 0 ≤ j → j < τ.1 70 → rowOK τ j)
/-- the nexts so far, those of state k from number f on -/
def exWR9 (τ : rS) (k f : Int32) : Prop := (∀ i, i < (τ.1 72).toNatClampNeg → nxE τ i) ∧ (∀ j : Int32, 0 ≤ j → j < k → stOK τ j ∧ rd τ 76 (j + 1) ≤ f) ∧ rd τ 76 k = f ∧ f ≤ τ.1 72 ∧ 0 ≤ f ∧ (∀ i, f.toNatClampNeg ≤ i → i < (τ.1 72).toNatClampNeg → 1 ≤ τ.2.2.1 79 i)
abbrev exFR9 : List Nat := [10, 11, 12, 13, 46, 47, 48, 49, 58, 61, 62, 63, 66, 67, 70, 71, 72]
abbrev exRr : List Nat := [50, 51, 52, 57, 59, 60, 64, 65, 68, 73, 74, 75, 76, 77, 78, 79, 80, 81, 82, 84]
theorem rI_ex {σ τ : rS} {B T : Int32} (h : rI σ B T) (f : frG exFR9 exRr σ τ) : rI τ B T := by
  obtain ⟨h1, h2⟩ := h
  have rr := f.2.2.1
  have ff := f.1
  refine ⟨?_, progOK_L h1 h2 (fun t _ _ => by rw [rr 5 (by decide)]) (fun t _ _ => by rw [rr 7 (by decide)]) (fun t _ _ => by rw [rr 39 (by decide)]) (ff 18 (by decide)) (ff 19 (by decide)) (ff 40 (by decide)) (fun k hk j _ => ?_) (fun k hk j _ => ?_)⟩
  · obtain ⟨g1, g3, g4, g5, g6⟩ := h1
    refine ⟨?_, ?_, ?_, ?_, by rw [rr 37 (by decide)]; exact g6⟩
    · show tyF _ _ _ _ _ _ _ _
      rw [ff 15 (by decide), ff 16 (by decide), ff 17 (by decide), ff 18 (by decide), ff 19 (by decide), ff 40 (by decide), ff 41 (by decide), ff 42 (by decide)]
      exact g1
    · show tyN _ _ _ _ _ _
      rw [rr 20 (by decide), rr 22 (by decide), rr 25 (by decide), rr 28 (by decide), rr 26 (by decide), rr 27 (by decide)]
      exact g3
    · show tyA _ _
      rw [rr 23 (by decide), rr 24 (by decide)]
      exact g4
    · show tyS _ _ _ _ _ _ _ _
      rw [rr 29 (by decide), rr 33 (by decide), rr 34 (by decide), rr 35 (by decide), rr 36 (by decide), rr 38 (by decide), rr 43 (by decide), rr 44 (by decide)]
      exact g5
  · rcases hk with rfl | rfl | rfl | rfl | rfl | rfl | rfl | rfl
    · rw [rr 30 (by decide)]
    · rw [rr 31 (by decide)]
    · rw [rr 32 (by decide)]
    · rw [rr 33 (by decide)]
    · rw [rr 34 (by decide)]
    · rw [rr 35 (by decide)]
    · rw [rr 36 (by decide)]
    · rw [rr 37 (by decide)]
  · rcases hk with rfl | rfl
    · rw [rr 26 (by decide)]
    · rw [rr 29 (by decide)]
/-- a part of a state that leaves states and nexts as they are -/
theorem exK_o {σ τ υ : rS} {B T : Int32} (h : exKR9 σ τ B T) (f : frG exFR9 exRr τ υ) (h70 : υ.1 70 = τ.1 70) (h71 : υ.1 71 = τ.1 71) (h72 : υ.1 72 = τ.1 72) (h73 : υ.2.2.1 73 = τ.2.2.1 73) : exKR9 σ υ B T := by
  obtain ⟨h1, h2, h3, h4⟩ := h
  refine ⟨rI_ex h1 f, ?_, by rw [h70, h71, h72]; exact h3, fun j j0 j1 => row_o (h4 j j0 (by rw [← h70]; exact j1)) h73 (f.2.2.1 30 (by decide)) (f.1 19 (by decide))⟩
  unfold exRR9
  rw [h70, h71, h72, f.1 85 (by decide)]; exact h2
theorem exK_an {σ τ υ : rS} {B T : Int32} (h : exKR9 σ τ B T) (f : frG anF anR τ υ) (hR : exRR9 υ) (hm : τ.1 70 ≤ υ.1 70 ∧ τ.1 71 ≤ υ.1 71 ∧ τ.1 72 ≤ υ.1 72) (hk : rwKR9 τ υ) : exKR9 σ υ B T := by
  obtain ⟨h1, h2, h3, h4⟩ := h
  refine ⟨rI_ex h1 (frG_mono f (by decide) (by decide)), hR, ⟨Int32.le_trans h3.1 hm.1, Int32.le_trans h3.2.1 hm.2.1, Int32.le_trans h3.2.2 hm.2.2⟩, fun j j0 j1 => ?_⟩
  by_cases e : j < τ.1 70
  · exact hk.1 j j0 e (h4 j j0 e)
  · exact hk.2 j j0 (Int32.not_lt.mp e) j1
theorem j_k {j k : Int32} (j0 : 0 ≤ j) (h : j < k) (hk : k < 1000) : j + 1 ≤ k ∧ 0 ≤ j + 1 ∧ j ≠ k ∧ j < 1000 := by grind
theorem exW_o {τ υ : rS} {k f : Int32} (h : exWR9 τ k f) (hk : k < 1000) (h70 : υ.1 70 = τ.1 70) (h71 : υ.1 71 = τ.1 71) (h72 : υ.1 72 = τ.1 72) (h76 : υ.2.2.1 76 = τ.2.2.1 76) (h77 : υ.2.2.1 77 = τ.2.2.1 77) (h78 : υ.2.2.1 78 = τ.2.2.1 78) (h79 : υ.2.2.1 79 = τ.2.2.1 79) (h80 : ∀ j : Int32, 0 ≤ j → j < k → rd υ 80 j = rd τ 80 j) (h81 : ∀ j : Int32, 0 ≤ j → j < k → rd υ 81 j = rd τ 81 j) : exWR9 υ k f := by
  obtain ⟨a1, a2, a3, a4, a5, a6⟩ := h
  unfold exWR9
  rw [h72, h79]
  refine ⟨fun i hi => nx_mono (a1 i hi) (by rw [h77]) (by rw [h78]) (by rw [h70]; exact Int32.le_refl _) (by rw [h71]; exact Int32.le_refl _), fun j j0 j1 => ⟨stOK_m (a2 j j0 j1).1 (by rw [rd, h76]) (by rw [rd, h76]) (h80 j j0 j1) (h81 j j0 j1) (by rw [h72]; exact Int32.le_refl _) (fun i _ => by rw [h79]), by rw [rd, h76]; exact (a2 j j0 j1).2⟩, by rw [rd, h76]; exact a3, a4, a5, a6⟩
theorem exW_an {τ υ : rS} {k f w j' : Int32} (h : exWR9 τ k f) (fr : frG anF anR τ υ) (hm : τ.1 70 ≤ υ.1 70 ∧ τ.1 71 ≤ υ.1 71 ∧ τ.1 72 ≤ υ.1 72) (q : anQ τ υ f w j') : exWR9 υ k f := by
  obtain ⟨a1, a2, a3, a4, a5, a6⟩ := h
  obtain ⟨q1, q2, q3, q4, q5, q6, q7⟩ := q
  have r76 := fr.2.2.1 76 (by decide)
  refine ⟨fun i hi => ?_, fun j j0 j1 => ?_, by rw [rd, r76]; exact a3, Int32.le_of_lt q6, a5, q4⟩
  · by_cases e : i < (τ.1 72).toNatClampNeg
    · exact q1 i e (a1 i e)
    · exact q2 i (by omega) hi
  · have z := a2 j j0 j1
    have zl := cn_l z.2 (Int32.le_trans z.1.1.1 (Int32.le_of_lt z.1.1.2.1))
    exact ⟨stOK_m z.1 (by rw [rd, r76]) (by rw [rd, r76]) (by rw [rd, fr.2.2.1 80 (by decide)]) (by rw [rd, fr.2.2.1 81 (by decide)]) hm.2.2 (fun i hi => q3 i (by omega)), by rw [rd, r76]; exact z.2⟩
theorem wsum_mono {r : Nat → Int32} {m n : Nat} (h : ∀ i, i < n → 0 ≤ (r i).toInt) (hm : m ≤ n) : wsum r m ≤ wsum r n := by
  induction n with
  | zero => have : m = 0 := by omega
            subst this; exact Int.le_refl _
  | succ n ih =>
    by_cases e : m = n + 1
    · subst e; exact Int.le_refl _
    · have := ih (fun i hi => h i (by omega)) (by omega)
      have := h n (by omega)
      show wsum r m ≤ wsum r n + (r n).toInt
      omega
/-- outcomes ready to be gone into -/
def ouV (h : Int32) (τ : rS) : Prop := plV (τ.1 67) ∧ 1 ≤ τ.1 63 ∧ τ.1 63 ≤ 64 ∧ (∀ i, i < (τ.1 63).toNatClampNeg → 0 ≤ τ.2.2.1 65 i) ∧ 0 < wsum (τ.2.2.1 65) (τ.1 63).toNatClampNeg ∧ wsum (τ.2.2.1 65) (τ.1 63).toNatClampNeg ≤ 8000000 ∧ (h = 4 → (τ.1 66).toInt = wsum (τ.2.2.1 65) (τ.1 63).toNatClampNeg) ∧ (h = 5 → τ.1 63 ≤ 8 ∧ ∀ i, i < (τ.1 63).toNatClampNeg → τ.2.2.1 65 i = 1)
theorem wsum_ones {r : Nat → Int32} {n : Nat} (h : ∀ i, i < n → r i = 1) : wsum r n = n := by
  induction n with
  | zero => rfl
  | succ n ih =>
    show wsum r n + (r n).toInt = ((n + 1 : Nat) : Int)
    rw [ih (fun i hi => h i (by omega)), h n (by omega), show (1 : Int32).toInt = 1 from rfl]
    omega
theorem ou_of {v : Int32} {τ : rS} (h : acQ v τ) (hv : ¬ v < 4) : ouV v τ := by
  rcases h with ⟨rfl, -⟩ | rfl | rfl | rfl | ⟨rfl, -, p, a1, a2, a3, a4, a5, a6⟩ | ⟨rfl, -, p, a1, a2, a3⟩
  · exact absurd (by decide) hv
  · exact absurd (by decide) hv
  · exact absurd (by decide) hv
  · exact absurd (by decide) hv
  · have a5' := Int32.lt_iff_toInt_lt.mp a5
    have a6' := ti a6
    rw [Int32.toInt_zero] at a5'
    rw [show (8000000 : Int32).toInt = 8000000 from rfl] at a6'
    exact ⟨p, a1, a2, fun i hi => (a3 i hi).1, by rw [← a4]; exact a5', by rw [← a4]; exact a6', fun _ => a4, fun z => absurd z (by decide)⟩
  · have n8 : (τ.1 63).toNatClampNeg ≤ 8 := cn_le (y := 8) rfl a2
    have n1 : 0 < (τ.1 63).toNatClampNeg := by have := cn_lt (Int32.le_refl 0) (Int32.lt_of_lt_of_le (by decide : (0 : Int32) < 1) a1); omega
    have e := wsum_ones a3
    exact ⟨p, a1, Int32.le_trans a2 (by decide), fun i hi => by rw [a3 i hi]; decide, by rw [e]; omega, by rw [e]; omega, fun z => absurd z (by decide), fun _ => ⟨a2, a3⟩⟩
theorem ou_o {h : Int32} {τ υ : rS} (q : ouV h τ) (h67 : υ.1 67 = τ.1 67) (h63 : υ.1 63 = τ.1 63) (h66 : υ.1 66 = τ.1 66) (h65 : υ.2.2.1 65 = τ.2.2.1 65) : ouV h υ := by
  unfold ouV
  rw [h67, h63, h66, h65]; exact q
/-- while the outcomes of state k are gone into: the sums of weights so far -/
def exU (τ : rS) (k f how i : Int32) : Prop := exWR9 τ k f ∧ rd τ 81 k = (if how = 5 then 1 else 0) ∧ (how < 4 → f < τ.1 72 ∧ rd τ 80 k = 1 ∧ wOf (τ.2.2.1 79) f.toNatClampNeg ((τ.1 72).toNatClampNeg - f.toNatClampNeg) = 1) ∧ (¬ how < 4 → wOf (τ.2.2.1 79) f.toNatClampNeg ((τ.1 72).toNatClampNeg - f.toNatClampNeg) = wsum (τ.2.2.1 65) i.toNatClampNeg ∧ (how = 4 → rd τ 80 k = τ.1 66) ∧ (how = 5 → τ.1 72 = f + i))
/-- what is in order before state k is gone on from -/
def exV (σ : rS) (B T k : Int32) : Prop := rI σ B T ∧ exRR9 σ ∧ (∀ j : Int32, 0 ≤ j → j < σ.1 70 → rowOK σ j) ∧ (∀ i, i < (σ.1 72).toNatClampNeg → nxE σ i) ∧ (0 ≤ k ∧ k ≤ σ.1 70) ∧ (∀ j : Int32, 0 ≤ j → j < k → stOK σ j) ∧ (k = 0 → σ.1 72 = 0) ∧ (1 ≤ k → rd σ 76 k = σ.1 72)
theorem k1001 {k : Int32} (h0 : 0 ≤ k) (h1 : k < 1000) : 0 ≤ k + 1 ∧ k + 1 < 1001 ∧ k < 1001 ∧ k < k + 1 ∧ k ≠ k + 1 ∧ ¬ k + 1 = 0 := by grind
theorem j_kn {j k : Int32} (j0 : 0 ≤ j) (h1 : k < 1000) (h : j < k) : j ≠ k + 1 ∧ j + 1 ≠ k + 1 ∧ 0 ≤ j + 1 ∧ j ≠ k ∧ j + 1 ≤ k ∧ 1 ≤ k := by grind
theorem fx8 {a f x : Int32} (h : a = f + x) : a - f = x := by grind
theorem fx1 {a f x : Int32} (h : a = f + x) : a + 1 = f + (x + 1) := by grind
theorem fx0 {f : Int32} : f = f + 0 := by grind
theorem wOf_0 {r : Nat → Int32} {a m n : Nat} (h : m = n) : wOf r a (m - n) = 0 := by
  rw [show m - n = 0 by omega]; rfl
theorem exU_o {τ υ : rS} {k f h i : Int32} (q : exU τ k f h i) (hk : k < 1000) (h66 : υ.1 66 = τ.1 66) (h70 : υ.1 70 = τ.1 70) (h71 : υ.1 71 = τ.1 71) (h72 : υ.1 72 = τ.1 72) (hr : ∀ q, q = 65 ∨ q = 76 ∨ q = 77 ∨ q = 78 ∨ q = 79 ∨ q = 80 ∨ q = 81 → υ.2.2.1 q = τ.2.2.1 q) : exU υ k f h i := by
  obtain ⟨q1, q2, q3, q4⟩ := q
  refine ⟨exW_o q1 hk h70 h71 h72 (hr 76 (by decide)) (hr 77 (by decide)) (hr 78 (by decide)) (hr 79 (by decide)) (fun j _ _ => by rw [rd, hr 80 (by decide)]) (fun j _ _ => by rw [rd, hr 81 (by decide)]), by rw [rd, hr 81 (by decide)]; exact q2, ?_, ?_⟩
  · rw [h72, rd, hr 80 (by decide), hr 79 (by decide)]; exact q3
  · rw [h72, rd, hr 80 (by decide), hr 79 (by decide), hr 65 (by decide), h66]; exact q4
theorem exU_lt {τ : rS} {k f h i i' : Int32} (q : exU τ k f h i) (hh : h < 4) : exU τ k f h i' := ⟨q.1, q.2.1, q.2.2.1, fun z => absurd hh z⟩
theorem lt_of {a b : Int32} (h : a ≤ b) (hn : ¬ a = b) : a < b := by grind
theorem st_new {τ υ : rS} {k f h : Int32} (U : exU τ k f h (τ.1 63)) (ou : h < 4 ∨ ouV h τ) (hh : h < 4 ∨ h = 4 ∨ h = 5) (r76a : rd υ 76 k = f) (r76b : rd υ 76 (k + 1) = τ.1 72) (h72 : υ.1 72 = τ.1 72) (h79 : υ.2.2.1 79 = τ.2.2.1 79) (h80 : rd υ 80 k = rd τ 80 k) (h81 : rd υ 81 k = rd τ 81 k) : stOK υ k := by
  obtain ⟨⟨a1, a2, a3, a4, a5, a6⟩, q2, q3, q4⟩ := U
  unfold stOK
  rw [r76a, r76b, h72, h79, h80, h81, q2]
  refine ⟨⟨a5, ?_, Int32.le_refl _⟩, ?_, a6, fun z => ?_, fun z => ?_⟩
  · by_cases e : h < 4
    · exact (q3 e).1
    · refine lt_of a4 (fun z => ?_)
      have w := (q4 e).1
      rw [wOf_0 (by rw [z])] at w
      have o := Or.resolve_left ou e
      have := o.2.2.2.2.1
      omega
  · split
    · exact nb_1
    · exact nb_0
  · have n5 : ¬ h = 5 := fun e => by rw [if_pos e] at z; exact absurd z (by decide)
    by_cases e : h < 4
    · obtain ⟨-, w2, w3⟩ := q3 e
      rw [w2, w3]
      exact ⟨rfl, by decide⟩
    · have h4 : h = 4 := by
        rcases hh with y | y | y
        · exact absurd y e
        · exact y
        · exact absurd y n5
      obtain ⟨w1, w2, -⟩ := q4 e
      have o := Or.resolve_left ou e
      rw [w2 h4, w1]
      have o7 := o.2.2.2.2.2.2.1 h4
      refine ⟨o7, Int32.le_iff_toInt_le.mpr ?_⟩
      rw [o7, show (8000000 : Int32).toInt = 8000000 from rfl]
      exact o.2.2.2.2.2.1
  · have h5 : h = 5 := Decidable.byContradiction (fun e => by rw [if_neg e] at z; exact z rfl)
    have e : ¬ h < 4 := by rw [h5]; decide
    obtain ⟨-, -, w3⟩ := q4 e
    have o := Or.resolve_left ou e
    rw [fx8 (w3 h5)]
    exact (o.2.2.2.2.2.2.2 h5).1
theorem exW_0 {σ υ : rS} {B T k : Int32} (h : exV σ B T k) (hk : k < 1000) (e70 : υ.1 70 = σ.1 70) (e71 : υ.1 71 = σ.1 71) (e72 : υ.1 72 = σ.1 72) (r76 : υ.2.2.1 76 = upd (σ.2.2.1 76) k.toNatClampNeg (σ.1 72)) (hr : ∀ q, q = 77 ∨ q = 78 ∨ q = 79 ∨ q = 80 ∨ q = 81 → υ.2.2.1 q = σ.2.2.1 q) : exWR9 υ k (σ.1 72) := by
  obtain ⟨hI, hR, hrow, hnx, hk2, hst, hz, hns⟩ := h
  refine ⟨fun i hi => ?_, fun j j0 j1 => ?_, by rw [rd, r76, upd_eq], by rw [e72]; exact Int32.le_refl _, hR.2.2.1, fun i a b => by rw [e72] at b; omega⟩
  · rw [e72] at hi
    exact nx_mono (hnx i hi) (by rw [hr 77 (by decide)]) (by rw [hr 78 (by decide)]) (by rw [e70]; exact Int32.le_refl _) (by rw [e71]; exact Int32.le_refl _)
  · have w := j_kn j0 hk j1
    have s := hst j j0 j1
    have ea : rd υ 76 j = rd σ 76 j := by rw [rd, r76, upd_ne (cn_d j0 hk2.1 w.2.2.2.1)]
    have eb : rd υ 76 (j + 1) = rd σ 76 (j + 1) := by
      by_cases e : j + 1 = k
      · rw [e, rd, r76, upd_eq]; exact (hns w.2.2.2.2.2).symm
      · rw [rd, r76, upd_ne (cn_d w.2.2.1 hk2.1 e)]
    exact ⟨stOK_m s ea eb (by rw [rd, hr 80 (by decide)]) (by rw [rd, hr 81 (by decide)]) (by rw [e72]; exact Int32.le_refl _) (fun i _ => by rw [hr 79 (by decide)]), by rw [eb]; exact s.1.2.2⟩
theorem ac_o {v : Int32} {τ υ : rS} (h : acQ v τ) (hf : ∀ q, q = 19 ∨ q = 58 ∨ q = 63 ∨ q = 66 ∨ q = 67 → υ.1 q = τ.1 q) (hr : ∀ q, q = 30 ∨ q = 59 ∨ q = 65 → υ.2.2.1 q = τ.2.2.1 q) : acQ v υ := by
  have c : csF τ → csF υ := fun z => csF_o z (hr 59 (by decide)) (hr 30 (by decide)) (hf 19 (by decide)) (hf 58 (by decide))
  rcases h with h | h | h | h | ⟨h, a, b, d⟩ | ⟨h, a, b, d⟩
  · exact Or.inl ⟨h.1, c h.2⟩
  · exact Or.inr (Or.inl h)
  · exact Or.inr (Or.inr (Or.inl h))
  · exact Or.inr (Or.inr (Or.inr (Or.inl h)))
  · refine Or.inr (Or.inr (Or.inr (Or.inr (Or.inl ⟨h, c a, by rw [hf 67 (by decide)]; exact b, ?_⟩))))
    unfold oW
    rw [hf 63 (by decide), hf 66 (by decide), hr 65 (by decide)]; exact d
  · refine Or.inr (Or.inr (Or.inr (Or.inr (Or.inr ⟨h, c a, by rw [hf 67 (by decide)]; exact b, ?_⟩))))
    rw [hf 63 (by decide), hr 65 (by decide)]; exact d
theorem ac_3 {v : Int32} {τ : rS} (h : acQ v τ) : (v < 4 ∨ v = 4 ∨ v = 5) ∧ (¬ 4 ≤ v → (v = 0 ∨ v = 1 ∨ v = 2 ∨ v = 3) ∧ (v = 0 → csF τ)) := by
  rcases h with ⟨rfl, h⟩ | rfl | rfl | rfl | ⟨rfl, -⟩ | ⟨rfl, -⟩
  · exact ⟨Or.inl (by decide), fun _ => ⟨by decide, fun _ => h⟩⟩
  · exact ⟨Or.inl (by decide), fun _ => ⟨by decide, fun z => absurd z (by decide)⟩⟩
  · exact ⟨Or.inl (by decide), fun _ => ⟨by decide, fun z => absurd z (by decide)⟩⟩
  · exact ⟨Or.inl (by decide), fun _ => ⟨by decide, fun z => absurd z (by decide)⟩⟩
  · exact ⟨by decide, fun z => absurd (by decide) z⟩
  · exact ⟨by decide, fun z => absurd (by decide) z⟩
theorem k_s {k s : Int32} (k0 : 0 ≤ k) (h : k < s) (hs : s ≤ 1000) : k + 1 ≤ s := by grind
theorem nle4 {v : Int32} : ¬ 4 ≤ v ↔ v < 4 := Int32.not_le
theorem pos1 {x : Int32} (h : ¬ x ≤ 0) : 1 ≤ x := by grind
theorem vbo {v : Int32} : vp_nar .boolean (if v = 5 then (1 : Int32) else 0) = (if v = 5 then 1 else 0) := by
  split <;> decide
theorem expand_c {C : rCx} (hC : cOK C) (B T : Int32) {σ : rS} {a1 : Int32} {Q : Int32 → rS → Prop} (hp : exV σ B T a1 ∧ a1 < σ.1 70) (h : ∀ (v : Int32) (σ' : rS), (frG exFR9 exRr σ σ' ∧ exKR9 σ σ' B T ∧ nb v ∧ (v ≠ 0 → exV σ' B T (a1 + 1))) → Q v σ') : cI C 10 m_expand [.ref (co C), .int a1] σ Q := by
  refine m_expand_run hC ?_
  unfold w_expand_0
  obtain ⟨⟨hI, hR, hrow, hnx, hk, hst, hz, hns⟩, hlt⟩ := hp
  have k1 : a1 < 1000 := Int32.lt_of_lt_of_le hlt (Int32.le_trans hR.1.2.1 hR.1.2.2)
  have hj176 : ∀ (l1 : Int32) (l4 : Int32) (τ : rS), (l1 = a1 ∧ frG exFR9 exRr σ τ ∧ exKR9 σ τ B T ∧ nb l4 ∧ (l4 ≠ 0 → ∃ h, (h < 4 ∨ ouV h τ) ∧ (h < 4 ∨ h = 4 ∨ h = 5) ∧ exU τ a1 (σ.1 72) h (τ.1 63))) → w_expand_176 C Q  l1 l4 τ := by
    rintro y176_1 y176_4 τ176 j176
    unfold w_expand_176
    obtain ⟨e1, jf, jK, jn, jU⟩ := j176
    have kk := k1001 hk.1 k1
    refine ⟨ib_1001.mpr ?_, ?_⟩
    · clear h; rw [e1]; exact ⟨kk.1, kk.2.1⟩  -- b1
    intro σ_1 hσ_1
    refine ⟨?_, h _ _ ?_⟩
    · clear h; exact jn  -- b2
    · clear h; have e11 : ∀ k, σ_1.1 k = τ176.1 k := fun k => by rw [hσ_1, ri1]
      have r11 : ∀ k, k ≠ 76 → σ_1.2.2.1 k = τ176.2.2.1 k := fun k hk => by rw [hσ_1, ri3 hk]
      have r76 : σ_1.2.2.1 76 = upd (τ176.2.2.1 76) (a1 + 1).toNatClampNeg (τ176.1 72) := by rw [hσ_1, ri_row, e1]
      have f1 : frG exFR9 exRr τ176 σ_1 := by rw [hσ_1]; exact frG_1 (by decide)
      have K1 : exKR9 σ σ_1 B T := exK_o jK f1 (e11 70) (e11 71) (e11 72) (r11 73 (by decide))
      refine ⟨frG_tr jf f1, K1, jn, fun z => ?_⟩
      obtain ⟨hw, ou, hh, U⟩ := jU z
      have U1 := U.1
      obtain ⟨w1, w2, w3, w4, w5, w6⟩ := U1
      have ra : ∀ j : Int32, 0 ≤ j → j ≠ a1 + 1 → rd σ_1 76 j = rd τ176 76 j := fun j j0 jn => by rw [rd, r76, upd_ne (cn_d j0 kk.1 jn)]
      have rb : rd σ_1 76 (a1 + 1) = τ176.1 72 := by rw [rd, r76, upd_eq]
      refine ⟨K1.1, K1.2.1, K1.2.2.2, fun i hi => ?_, ⟨kk.1, ?_⟩, fun j j0 j1 => ?_, fun y => absurd y kk.2.2.2.2.2, fun _ => by rw [rb, e11]⟩
      · rw [e11] at hi
        exact nx_mono (w1 i hi) (by rw [r11 77 (by decide)]) (by rw [r11 78 (by decide)]) (by rw [e11]; exact Int32.le_refl _) (by rw [e11]; exact Int32.le_refl _)
      · exact Int32.le_trans (k_s hk.1 hlt (Int32.le_trans hR.1.2.1 hR.1.2.2)) K1.2.2.1.1
      · rcases l1k hk.1 k1 j1 with y | y
        · rw [y]
          exact st_new U ou hh (by rw [ra a1 hk.1 kk.2.2.2.2.1]; exact w3) rb (e11 72) (r11 79 (by decide)) (by rw [rd, r11 80 (by decide)]) (by rw [rd, r11 81 (by decide)])
        · have x := j_kn j0 k1 y
          exact stOK_m (w2 j j0 y).1 (ra j j0 x.1) (ra (j + 1) x.2.2.1 x.2.1) (by rw [rd, r11 80 (by decide)]) (by rw [rd, r11 81 (by decide)]) (by rw [e11]; exact Int32.le_refl _) (fun i _ => by rw [r11 79 (by decide)])
  have hh106 : ∀ (l1 : Int32) (l2 : Int32) (l3 : Int32) (l4 : Int32) (l5 : Int32) (τ : rS), (l1 = a1 ∧ frG exFR9 exRr σ τ ∧ exKR9 σ τ B T ∧ l2 = σ.1 72 ∧ nb l4 ∧ 0 ≤ l5 ∧ l5 ≤ 64 ∧ (l3 < 4 ∨ l3 = 4 ∨ l3 = 5) ∧ (¬ l3 < 4 → ouV l3 τ ∧ l5 ≤ τ.1 63) ∧ (l4 ≠ 0 → exU τ a1 (σ.1 72) l3 l5)) → w_expand_106 C Q  l1 l2 l3 l4 l5 τ := by
    intro z1 z2 z3 z4 z5 τi hinit
    unfold w_expand_106
    refine ⟨fun n l1 l2 l3 l4 l5 τ => n = (64 - l5).toNatClampNeg ∧ (l1 = a1 ∧ frG exFR9 exRr σ τ ∧ exKR9 σ τ B T ∧ l2 = σ.1 72 ∧ nb l4 ∧ 0 ≤ l5 ∧ l5 ≤ 64 ∧ (l3 < 4 ∨ l3 = 4 ∨ l3 = 5) ∧ (¬ l3 < 4 → ouV l3 τ ∧ l5 ≤ τ.1 63) ∧ (l4 ≠ 0 → exU τ a1 (σ.1 72) l3 l5)), ⟨_, rfl, hinit⟩, ?_⟩
    clear hinit
    rintro n106 x106_1 x106_2 x106_3 x106_4 x106_5 σ106 ⟨hn106, i106⟩
    have hj164 : ∀ (l1 : Int32) (l2 : Int32) (l3 : Int32) (l5 : Int32) (s1 : Int32) (s2 : Int32) (s3 : Int32) (τ : rS), (l1 = a1 ∧ frG exFR9 exRr σ τ ∧ exKR9 σ τ B T ∧ l2 = σ.1 72 ∧ l3 = x106_3 ∧ l5 = x106_5 ∧ ¬ x106_3 < 4 ∧ ouV x106_3 τ ∧ ¬ τ.1 63 ≤ x106_5 ∧ exU τ a1 (σ.1 72) x106_3 x106_5 ∧ ((s1 = 0 ∧ csF τ) ∨ s1 = 1) ∧ s2 = rd τ 65 x106_5 ∧ ¬ s2 ≤ 0 ∧ (x106_3 = 5 → s3 = 0)) → w_expand_164 C Q (fun l1' l2' l3' l4' l5' τ => ∃ k < n106, (fun n l1 l2 l3 l4 l5 τ => n = (64 - l5).toNatClampNeg ∧ (l1 = a1 ∧ frG exFR9 exRr σ τ ∧ exKR9 σ τ B T ∧ l2 = σ.1 72 ∧ nb l4 ∧ 0 ≤ l5 ∧ l5 ≤ 64 ∧ (l3 < 4 ∨ l3 = 4 ∨ l3 = 5) ∧ (¬ l3 < 4 → ouV l3 τ ∧ l5 ≤ τ.1 63) ∧ (l4 ≠ 0 → exU τ a1 (σ.1 72) l3 l5))) k l1' l2' l3' l4' l5' τ) l1 l2 l3 l5 s1 s2 s3 τ := by
      rintro y164_1 y164_2 y164_3 y164_5 y164_s1 y164_s2 y164_s3 τ164 j164
      unfold w_expand_164
      obtain ⟨e1, g1, g2, g3, g4, g5, g6, g7, g8, g9, ga, gb, gc, gd⟩ := j164
      have x50 : 0 ≤ x106_5 := i106.2.2.2.2.2.1
      have u := up_n x50 g8 g7.2.2.1
      have u64 := up_n x50 (Int32.not_le.mpr u.2.2.2.2.2) (by decide : (64 : Int32) ≤ 64)
      have x51 : x106_5 < 1000000 := Int32.lt_trans u.2.2.2.2.2 (by decide)
      have es : wsum (τ164.2.2.1 65) (x106_5 + 1).toNatClampNeg = wsum (τ164.2.2.1 65) x106_5.toNatClampNeg + y164_s2.toInt := by rw [cn_succ x50 x51, gb]; rfl
      have ws : wsum (τ164.2.2.1 65) (x106_5 + 1).toNatClampNeg ≤ 8000000 := Int.le_trans (wsum_mono (fun i hi => t0 (g7.2.2.2.1 i hi)) (cn_l u.2.2.2.1 u.2.2.1)) g7.2.2.2.2.2.1
      refine addNext_c hC  ?_ (fun r2 σ_3 q4 => ?_)
      · clear h; refine ⟨g2.2.1, ?_, fun z => ?_, by rw [g3]; exact g9.1.2.2.2.2.1, by rw [g3]; exact g9.1.2.2.2.1, pos1 gc, by rw [g3]; exact g9.1.2.2.2.2.2, by rw [g3, (g9.2.2.2 g6).1, ← es]; exact ws⟩
        · rcases ga with y | y
          · exact Or.inl y.1
          · exact Or.inr (Or.inl y)
        · rcases ga with y | y
          · exact y.2
          · exact absurd (z.symm.trans y) (by decide)
      intro x5 hx5
      refine ⟨_, cn_lt2 hn106 ?_ ?_, rfl, ?_⟩
      · clear h; rw [hx5, g5]; exact u64.1  -- d5
      · clear h; rw [hx5, g5]; exact u64.2.1  -- d6
      · clear h; refine ⟨e1, frG_tr g1 (frG_mono q4.1 (by decide) (by decide)), exK_an g2 q4.1 q4.2.1 q4.2.2.1 q4.2.2.2.1, g3, q4.2.2.2.2.1, by rw [hx5, g5]; exact u64.2.2.1, by rw [hx5, g5]; exact u64.2.2.2.1, by rw [g4]; exact i106.2.2.2.2.2.2.2.1, fun z => ⟨by rw [g4]; exact ou_o g7 (q4.1.1 67 (by decide)) (q4.1.1 63 (by decide)) (q4.1.1 66 (by decide)) (q4.1.2.2.1 65 (by decide)), by rw [hx5, g5, q4.1.1 63 (by decide)]; exact u.2.2.2.1⟩, fun z => ?_⟩
        have A := q4.2.2.2.2.2 z
        rw [g3] at A
        rw [g4, hx5, g5]
        have U4 := g9.2.2.2 g6
        refine ⟨exW_an g9.1 q4.1 q4.2.2.1 A, by rw [rd, q4.1.2.2.1 81 (by decide)]; exact g9.2.1, fun y => absurd y g6, fun _ => ⟨?_, fun h4 => ?_, fun h5 => ?_⟩⟩
        · rw [A.2.2.2.2.1, U4.1, q4.1.2.2.1 65 (by decide), es]
        · rw [rd, q4.1.2.2.1 80 (by decide), q4.1.1 66 (by decide)]; exact U4.2.1 h4
        · rw [A.2.2.2.2.2.2 (gd h5)]; exact fx1 (U4.2.2 h5)
    obtain ⟨e1, o1, o2, o3, o4, o5, o6, o7, o8, o9⟩ := i106
    refine ⟨fun c6 => ?_, fun c6 => ?_⟩
    · skip
      refine hj176 _ _ _ ?_
      · clear h; exact ⟨e1, o1, o2, o4, fun z => ⟨x106_3, Or.inl c6, o7, exU_lt (o9 z) c6⟩⟩  -- k8
    · skip
      refine ⟨fun c7 => ?_, fun c7 => ?_⟩
      · skip
        refine hj176 _ _ _ ?_
        · clear h; have e : x106_5 = σ106.1 63 := Int32.le_antisymm (o8 c6).2 c7
          refine ⟨e1, o1, o2, o4, fun z => ⟨x106_3, Or.inr (o8 c6).1, o7, ?_⟩⟩
          have w := o9 z
          rw [e] at w
          exact w
      · skip
        refine ⟨fun c8 => ?_, fun c8 => ?_⟩
        · skip
          refine hj176 _ _ _ ?_
          · clear h; exact ⟨e1, o1, o2, o4, fun z => absurd c8 z⟩  -- k10
        · skip
          have ou := (o8 c6).1
          have u := up_n o5 c7 ou.2.2.1
          have u64 := up_n o5 (Int32.not_le.mpr u.2.2.2.2.2) (by decide : (64 : Int32) ≤ 64)
          have lt5 := cn_lt o5 u.2.2.2.2.1
          have U := o9 c8
          have U4 := U.2.2.2 c6
          refine ⟨ib_64.mpr ?_, ?_⟩
          · clear h; exact ⟨o5, u.2.2.2.2.2⟩  -- b11
          refine ⟨fun c9 => ?_, fun c9 => ?_⟩
          · skip
            intro x10 hx10
            refine ⟨_, cn_lt2 hn106 ?_ ?_, rfl, ?_⟩
            · clear h; rw [hx10]; exact u64.1  -- d12
            · clear h; rw [hx10]; exact u64.2.1  -- d13
            · clear h; rw [hx10]
              have w0 : σ106.2.2.1 65 x106_5.toNatClampNeg = 0 := le0 c9 (ou.2.2.2.1 _ lt5)
              refine ⟨e1, o1, o2, o3, o4, u64.2.2.1, u64.2.2.2.1, o7, fun z => ⟨ou, u.2.2.2.1⟩, fun z => ⟨U.1, U.2.1, fun y => absurd y c6, fun y => ⟨?_, U4.2.1, fun h5 => ?_⟩⟩⟩
              · rw [cn_succ o5 (Int32.lt_trans u.2.2.2.2.2 (by decide))]
                show _ = wsum (σ106.2.2.1 65) x106_5.toNatClampNeg + (σ106.2.2.1 65 x106_5.toNatClampNeg).toInt
                rw [w0, Int32.toInt_zero, Int.add_zero]
                exact U4.1
              · have := (ou.2.2.2.2.2.2.2 h5).2 _ lt5
                rw [w0] at this
                exact absurd this (by decide)
          · skip
            refine unpack_c hC  ?_ (fun σ_11 q12 => ?_)
            · clear h; rw [e1]; exact ⟨hk.1, k1, o2.2.2.2 a1 hk.1 (Int32.lt_of_lt_of_le hlt o2.2.2.1.1)⟩  -- p15
            have f11 : frG exFR9 exRr σ106 σ_11 := frG_mono q12.1 (by decide) (by decide)
            have K11 : exKR9 σ σ_11 B T := exK_o o2 f11 (q12.1.1 70 (by decide)) (q12.1.1 71 (by decide)) (q12.1.1 72 (by decide)) (q12.1.2.2.1 73 (by decide))
            refine get_c hC B T ?_ (fun r13 σ_14 q15 => ?_)
            · clear h; exact ⟨K11.1, q12.2, by rw [q12.1.1 67 (by decide)]; exact ou.1, o5, u.2.2.2.2.2⟩  -- p16
            have f15 : frG exFR9 exRr σ_11 σ_14 := frG_mono q15.1 (by decide) (by decide)
            have K14 : exKR9 σ σ_14 B T := exK_o K11 f15 (q15.1.1 70 (by decide)) (q15.1.1 71 (by decide)) (q15.1.1 72 (by decide)) (q15.1.2.2.1 73 (by decide))
            have ff : ∀ k, k = 63 ∨ k = 66 ∨ k = 67 ∨ k = 70 ∨ k = 71 ∨ k = 72 → σ_14.1 k = σ106.1 k := fun k hk => by
              rw [q15.1.1 k (by rcases hk with rfl | rfl | rfl | rfl | rfl | rfl <;> decide), q12.1.1 k (by rcases hk with rfl | rfl | rfl | rfl | rfl | rfl <;> decide)]
            have rr : ∀ k, k = 65 ∨ k = 76 ∨ k = 77 ∨ k = 78 ∨ k = 79 ∨ k = 80 ∨ k = 81 → σ_14.2.2.1 k = σ106.2.2.1 k := fun k hk => by
              rw [q15.1.2.2.1 k (by rcases hk with rfl | rfl | rfl | rfl | rfl | rfl | rfl <;> decide), q12.1.2.2.1 k (by rcases hk with rfl | rfl | rfl | rfl | rfl | rfl | rfl <;> decide)]
            have fin : ∀ s3 : Int32, (x106_3 = 5 → s3 = 0) → x106_1 = a1 ∧ frG exFR9 exRr σ σ_14 ∧ exKR9 σ σ_14 B T ∧ x106_2 = σ.1 72 ∧ x106_3 = x106_3 ∧ x106_5 = x106_5 ∧ ¬ x106_3 < 4 ∧ ouV x106_3 σ_14 ∧ ¬ σ_14.1 63 ≤ x106_5 ∧ exU σ_14 a1 (σ.1 72) x106_3 x106_5 ∧ ((r13 = 0 ∧ csF σ_14) ∨ r13 = 1) ∧ σ_14.2.2.1 65 x106_5.toNatClampNeg = rd σ_14 65 x106_5 ∧ ¬ σ_14.2.2.1 65 x106_5.toNatClampNeg ≤ 0 ∧ (x106_3 = 5 → s3 = 0) := fun s3 h3 => ⟨e1, frG_tr o1 (frG_tr f11 f15), K14, o3, rfl, rfl, c6, ou_o ou (ff 67 (by decide)) (ff 63 (by decide)) (ff 66 (by decide)) (rr 65 (by decide)), by rw [ff 63 (by decide)]; exact c7, exU_o U k1 (ff 66 (by decide)) (ff 70 (by decide)) (ff 71 (by decide)) (ff 72 (by decide)) rr, q15.2, rfl, by rw [rr 65 (by decide)]; exact c9, h3⟩
            refine ⟨ib_64.mpr ?_, ?_⟩
            · clear h; exact ⟨o5, u.2.2.2.2.2⟩  -- b17
            refine ⟨fun c16 => ?_, fun c16 => ?_⟩
            · skip
              refine hj164 _ _ _ _ _ _ _ _ ?_
              · clear h; exact fin _ (fun _ => rfl)  -- k18
            · skip
              refine hj164 _ _ _ _ _ _ _ _ ?_
              · clear h; exact fin _ (fun z => absurd (c16.symm.trans z) (by decide))  -- k19
  have hj84 : ∀ (l1 : Int32) (l2 : Int32) (l3 : Int32) (s1 : Int32) (s2 : Int32) (τ : rS), (l1 = a1 ∧ frG exFR9 exRr σ τ ∧ exKR9 σ τ B T ∧ l2 = σ.1 72 ∧ s1 = a1 ∧ acQ l3 τ ∧ exWR9 τ a1 (σ.1 72) ∧ τ.1 72 = σ.1 72 ∧ rd τ 81 a1 = (if l3 = 5 then 1 else 0) ∧ (l3 < 4 → s2 = 1) ∧ (l3 = 4 → s2 = τ.1 66)) → w_expand_84 C Q  l1 l2 l3 s1 s2 τ := by
    rintro y84_1 y84_2 y84_3 y84_s1 y84_s2 τ84 j84
    unfold w_expand_84
    obtain ⟨e1, g1, g2, g3, g4, g5, g6, g7, g8, g9, ga⟩ := j84
    refine ⟨ib_1000.mpr ?_, ?_⟩
    · clear h; rw [g4]; exact ⟨hk.1, k1⟩  -- b20
    intro σ_17 hσ_17
    have e17 : ∀ k, σ_17.1 k = τ84.1 k := fun k => by rw [hσ_17, ri1]
    have r17 : ∀ k, k ≠ 80 → σ_17.2.2.1 k = τ84.2.2.1 k := fun k hk => by rw [hσ_17, ri3 hk]
    have r80 : σ_17.2.2.1 80 = upd (τ84.2.2.1 80) a1.toNatClampNeg y84_s2 := by rw [hσ_17, ri_row, g4]
    have f17 : frG exFR9 exRr τ84 σ_17 := by rw [hσ_17]; exact frG_1 (by decide)
    have K17 : exKR9 σ σ_17 B T := exK_o g2 f17 (e17 70) (e17 71) (e17 72) (r17 73 (by decide))
    have W17 : exWR9 σ_17 a1 (σ.1 72) := exW_o g6 k1 (e17 70) (e17 71) (e17 72) (r17 76 (by decide)) (r17 77 (by decide)) (r17 78 (by decide)) (r17 79 (by decide)) (fun j j0 j1 => by rw [rd, r80, upd_ne (cn_d j0 hk.1 (j_k j0 j1 k1).2.2.1)]) (fun j _ _ => by rw [rd, r17 81 (by decide)])
    have v80 : rd σ_17 80 a1 = y84_s2 := by rw [rd, r80, upd_eq]
    have c72 : σ_17.1 72 = σ.1 72 := (e17 72).trans g7
    have v81 : rd σ_17 81 a1 = (if y84_3 = 5 then 1 else 0) := by rw [rd, r17 81 (by decide)]; exact g8
    have A17 : acQ y84_3 σ_17 := ac_o g5 (fun k _ => e17 k) (fun k hk => r17 k (by rcases hk with rfl | rfl | rfl <;> decide))
    have a3 := ac_3 A17
    refine ⟨fun c18 => ?_, fun c18 => ?_⟩
    · skip
      refine hh106 _ _ _ _ _ _ ?_
      · clear h; have n4 : ¬ y84_3 < 4 := Int32.not_lt.mpr c18
        refine ⟨e1, frG_tr g1 f17, K17, g3, nb_1, by decide, by decide, a3.1, fun z => ⟨ou_of A17 z, Int32.le_trans (by decide) (ou_of A17 z).2.1⟩, fun _ => ⟨W17, v81, fun y => absurd y n4, fun _ => ⟨by rw [wOf_0 (by rw [c72])]; rfl, fun h4 => by rw [v80, ga h4, e17], fun h5 => by rw [c72]; exact fx0⟩⟩⟩
    · skip
      refine addNext_c hC  ?_ (fun r19 σ_20 q21 => ?_)
      · clear h; refine ⟨K17.2.1, (a3.2 c18).1, (a3.2 c18).2, by rw [g3]; exact hR.2.2.1, by rw [g3, c72]; exact Int32.le_refl _, by decide, fun i a b => ?_, ?_⟩
        · rw [g3] at a
          rw [c72] at b
          omega
        · rw [g3, wOf_0 (by rw [c72])]; decide
      refine hh106 _ _ _ _ _ _ ?_
      · clear h; have lt4 : y84_3 < 4 := nle4.mp c18
        refine ⟨e1, frG_tr g1 (frG_tr f17 (frG_mono q21.1 (by decide) (by decide))), exK_an K17 q21.1 q21.2.1 q21.2.2.1 q21.2.2.2.1, g3, q21.2.2.2.2.1, by decide, by decide, a3.1, fun z => absurd lt4 z, fun z => ?_⟩
        have A := q21.2.2.2.2.2 z
        rw [g3] at A
        refine ⟨exW_an W17 q21.1 q21.2.2.1 A, by rw [rd, q21.1.2.2.1 81 (by decide)]; exact v81, fun _ => ⟨A.2.2.2.2.2.1, ?_, ?_⟩, fun y => absurd lt4 y⟩
        · rw [rd, q21.1.2.2.1 80 (by decide)]; exact v80.trans (g9 lt4)
        · rw [A.2.2.2.2.1, wOf_0 (by rw [c72])]; rfl
  have hj56 : ∀ (l1 : Int32) (l2 : Int32) (l3 : Int32) (s1 : Int32) (s2 : Int32) (τ : rS), (l1 = a1 ∧ frG exFR9 exRr σ τ ∧ exKR9 σ τ B T ∧ l2 = σ.1 72 ∧ s1 = a1 ∧ acQ l3 τ ∧ exWR9 τ a1 (σ.1 72) ∧ τ.1 72 = σ.1 72 ∧ rd τ 81 a1 = (if l3 = 5 then 1 else 0)) → w_expand_56 C Q  l1 l2 l3 s1 s2 τ := by
    rintro y56_1 y56_2 y56_3 y56_s1 y56_s2 τ56 j56
    unfold w_expand_56
    obtain ⟨e1, g1, g2, g3, g4, g5, g6, g7, g8⟩ := j56
    refine ⟨ib_1000.mpr ?_, ?_⟩
    · clear h; rw [g4]; exact ⟨hk.1, k1⟩  -- b24
    intro σ_22 hσ_22
    have e22 : ∀ k, σ_22.1 k = τ56.1 k := fun k => by rw [hσ_22, ri1]
    have r22 : ∀ k, k ≠ 82 → σ_22.2.2.1 k = τ56.2.2.1 k := fun k hk => by rw [hσ_22, ri3 hk]
    have f22 : frG exFR9 exRr τ56 σ_22 := by rw [hσ_22]; exact frG_1 (by decide)
    have fin : ∀ s2 : Int32, (y56_3 < 4 → s2 = 1) → (y56_3 = 4 → s2 = σ_22.1 66) → y56_1 = a1 ∧ frG exFR9 exRr σ σ_22 ∧ exKR9 σ σ_22 B T ∧ y56_2 = σ.1 72 ∧ y56_1 = a1 ∧ acQ y56_3 σ_22 ∧ exWR9 σ_22 a1 (σ.1 72) ∧ σ_22.1 72 = σ.1 72 ∧ rd σ_22 81 a1 = (if y56_3 = 5 then 1 else 0) ∧ (y56_3 < 4 → s2 = 1) ∧ (y56_3 = 4 → s2 = σ_22.1 66) := fun s2 h1 h2 => ⟨e1, frG_tr g1 f22, exK_o g2 f22 (e22 70) (e22 71) (e22 72) (r22 73 (by decide)), g3, e1, ac_o g5 (fun k _ => e22 k) (fun k hk => r22 k (by rcases hk with rfl | rfl | rfl <;> decide)), exW_o g6 k1 (e22 70) (e22 71) (e22 72) (r22 76 (by decide)) (r22 77 (by decide)) (r22 78 (by decide)) (r22 79 (by decide)) (fun j _ _ => by rw [rd, r22 80 (by decide)]) (fun j _ _ => by rw [rd, r22 81 (by decide)]), (e22 72).trans g7, by rw [rd, r22 81 (by decide)]; exact g8, h1, h2⟩
    refine ⟨fun c23 => ?_, fun c23 => ?_⟩
    · skip
      refine ⟨fun c24 => ?_, fun c24 => ?_⟩
      · skip
        refine hj84 _ _ _ _ _ _ ?_
        · clear h; exact fin _ (fun _ => rfl) (fun z => absurd z c23)  -- k25
      · skip
        refine hj84 _ _ _ _ _ _ ?_
        · clear h; exact fin _ (fun z => by rw [c24] at z; exact absurd z (by decide)) (fun z => absurd z c23)  -- k26
    · skip
      refine hj84 _ _ _ _ _ _ ?_
      · clear h; exact fin _ (fun z => by rw [c23] at z; exact absurd z (by decide)) (fun _ => rfl)  -- k27
  have hj37 : ∀ (l1 : Int32) (l2 : Int32) (l3 : Int32) (s1 : Int32) (s2 : Int32) (τ : rS), (l1 = a1 ∧ frG exFR9 exRr σ τ ∧ exKR9 σ τ B T ∧ l2 = σ.1 72 ∧ s1 = a1 ∧ acQ l3 τ ∧ exWR9 τ a1 (σ.1 72) ∧ τ.1 72 = σ.1 72 ∧ s2 = (if l3 = 5 then 1 else 0)) → w_expand_37 C Q  l1 l2 l3 s1 s2 τ := by
    rintro y37_1 y37_2 y37_3 y37_s1 y37_s2 τ37 j37
    unfold w_expand_37
    obtain ⟨e1, g1, g2, g3, g4, g5, g6, g7, g8⟩ := j37
    refine ⟨ib_1000.mpr ?_, ?_⟩
    · clear h; rw [g4]; exact ⟨hk.1, k1⟩  -- b28
    intro σ_25 hσ_25
    have e25 : ∀ k, σ_25.1 k = τ37.1 k := fun k => by rw [hσ_25, ri1]
    have r25 : ∀ k, k ≠ 81 → σ_25.2.2.1 k = τ37.2.2.1 k := fun k hk => by rw [hσ_25, ri3 hk]
    have r81 : σ_25.2.2.1 81 = upd (τ37.2.2.1 81) a1.toNatClampNeg (if y37_3 = 5 then 1 else 0) := by rw [hσ_25, ri_row, g4, g8, vbo]
    have f25 : frG exFR9 exRr τ37 σ_25 := by rw [hσ_25]; exact frG_1 (by decide)
    have fin : y37_1 = a1 ∧ frG exFR9 exRr σ σ_25 ∧ exKR9 σ σ_25 B T ∧ y37_2 = σ.1 72 ∧ y37_1 = a1 ∧ acQ y37_3 σ_25 ∧ exWR9 σ_25 a1 (σ.1 72) ∧ σ_25.1 72 = σ.1 72 ∧ rd σ_25 81 a1 = (if y37_3 = 5 then 1 else 0) := ⟨e1, frG_tr g1 f25, exK_o g2 f25 (e25 70) (e25 71) (e25 72) (r25 73 (by decide)), g3, e1, ac_o g5 (fun k _ => e25 k) (fun k hk => r25 k (by rcases hk with rfl | rfl | rfl <;> decide)), exW_o g6 k1 (e25 70) (e25 71) (e25 72) (r25 76 (by decide)) (r25 77 (by decide)) (r25 78 (by decide)) (r25 79 (by decide)) (fun j _ _ => by rw [rd, r25 80 (by decide)]) (fun j j0 j1 => by rw [rd, r81, upd_ne (cn_d j0 hk.1 (j_k j0 j1 k1).2.2.1)]), (e25 72).trans g7, by rw [rd, r81, upd_eq]⟩
    refine ⟨fun c26 => ?_, fun c26 => ?_⟩
    · skip
      refine hj56 _ _ _ _ _ _ ?_
      · clear h; exact fin  -- k29
    · skip
      refine hj56 _ _ _ _ _ _ ?_
      · clear h; exact fin  -- k30
  intro x27 hx27
  refine ⟨ib_1001.mpr ?_, ?_⟩
  · clear h; exact ⟨hk.1, (k1001 hk.1 k1).2.2.1⟩  -- b31
  intro σ_28 hσ_28
  have e28 : ∀ k, σ_28.1 k = σ.1 k := fun k => by rw [hσ_28, ri1]
  have r28 : ∀ k, k ≠ 76 → σ_28.2.2.1 k = σ.2.2.1 k := fun k hk => by rw [hσ_28, ri3 hk]
  have f28 : frG exFR9 exRr σ σ_28 := by rw [hσ_28]; exact frG_1 (by decide)
  have K0 : exKR9 σ σ B T := ⟨hI, hR, ⟨Int32.le_refl _, Int32.le_refl _, Int32.le_refl _⟩, hrow⟩
  have K28 : exKR9 σ σ_28 B T := exK_o K0 f28 (e28 70) (e28 71) (e28 72) (r28 73 (by decide))
  have W28 : exWR9 σ_28 a1 (σ.1 72) := exW_0 ⟨hI, hR, hrow, hnx, hk, hst, hz, hns⟩ k1 (e28 70) (e28 71) (e28 72) (by rw [hσ_28, ri_row, hx27]) (fun k hk => r28 k (by rcases hk with rfl | rfl | rfl | rfl | rfl <;> decide))
  refine unpack_c hC  ?_ (fun σ_29 q30 => ?_)
  · clear h; exact ⟨hk.1, k1, K28.2.2.2 a1 hk.1 (by rw [e28]; exact hlt)⟩  -- p32
  have f29 : frG exFR9 exRr σ_28 σ_29 := frG_mono q30.1 (by decide) (by decide)
  have K29 : exKR9 σ σ_29 B T := exK_o K28 f29 (q30.1.1 70 (by decide)) (q30.1.1 71 (by decide)) (q30.1.1 72 (by decide)) (q30.1.2.2.1 73 (by decide))
  refine act_c hC B T ?_ (fun r31 σ_32 q33 => ?_)
  · clear h; exact ⟨K29.1, q30.2⟩  -- p33
  have f32 : frG exFR9 exRr σ_29 σ_32 := frG_mono q33.1 (by decide) (by decide)
  have K32 : exKR9 σ σ_32 B T := exK_o K29 f32 (q33.1.1 70 (by decide)) (q33.1.1 71 (by decide)) (q33.1.1 72 (by decide)) (q33.1.2.2.1 73 (by decide))
  have ff : ∀ k, k = 70 ∨ k = 71 ∨ k = 72 → σ_32.1 k = σ_28.1 k := fun k hk => by
    rw [q33.1.1 k (by rcases hk with rfl | rfl | rfl <;> decide), q30.1.1 k (by rcases hk with rfl | rfl | rfl <;> decide)]
  have rr : ∀ k, k = 76 ∨ k = 77 ∨ k = 78 ∨ k = 79 ∨ k = 80 ∨ k = 81 → σ_32.2.2.1 k = σ_28.2.2.1 k := fun k hk => by
    rw [q33.1.2.2.1 k (by rcases hk with rfl | rfl | rfl | rfl | rfl | rfl <;> decide), q30.1.2.2.1 k (by rcases hk with rfl | rfl | rfl | rfl | rfl | rfl <;> decide)]
  have W32 : exWR9 σ_32 a1 (σ.1 72) := exW_o W28 k1 (ff 70 (by decide)) (ff 71 (by decide)) (ff 72 (by decide)) (rr 76 (by decide)) (rr 77 (by decide)) (rr 78 (by decide)) (rr 79 (by decide)) (fun j _ _ => by rw [rd, rr 80 (by decide)]) (fun j _ _ => by rw [rd, rr 81 (by decide)])
  have fin : ∀ s2 : Int32, s2 = (if r31 = 5 then 1 else 0) → a1 = a1 ∧ frG exFR9 exRr σ σ_32 ∧ exKR9 σ σ_32 B T ∧ x27 = σ.1 72 ∧ a1 = a1 ∧ acQ r31 σ_32 ∧ exWR9 σ_32 a1 (σ.1 72) ∧ σ_32.1 72 = σ.1 72 ∧ s2 = (if r31 = 5 then 1 else 0) := fun s2 h2 => ⟨rfl, frG_tr f28 (frG_tr f29 f32), K32, hx27, rfl, q33.2, W32, (ff 72 (by decide)).trans (e28 72), h2⟩
  refine ⟨fun c34 => ?_, fun c34 => ?_⟩
  · skip
    refine hj37 _ _ _ _ _ _ ?_
    · clear h; exact fin _ (by rw [if_neg c34])  -- k34
  · skip
    refine hj37 _ _ _ _ _ _ ?_
    · clear h; exact fin _ (by rw [if_pos c34])  -- k35
