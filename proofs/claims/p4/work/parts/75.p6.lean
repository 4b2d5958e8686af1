set_option maxHeartbeats 1600000
/-! the reference: explore -/
abbrev xpF : List Nat := [0, 10, 11, 12, 13, 46, 47, 48, 49, 58, 61, 62, 63, 66, 67, 69, 70, 71, 72, 85, 88, 89, 94, 114]
abbrev xpR : List Nat := [50, 51, 52, 57, 59, 60, 64, 65, 68, 73, 74, 75, 76, 77, 78, 79, 80, 81, 82, 83, 84, 87]
theorem frM_G {F F' R R' : List Nat} {σ τ : rS} (h : frG F R σ τ) (hF : ∀ k, k ∈ F → k ∈ F') (hR : ∀ k, k ∈ R → k ∈ R') : frM F' R' σ τ := ⟨fun k z => h.1 k (fun e => z (hF k e)), funext h.2.1, fun k z => h.2.2.1 k (fun e => z (hR k e)), fun k _ => funext (h.2.2.2 k)⟩
theorem frM_mono {F F' R R' : List Nat} {σ τ : rS} (h : frM F R σ τ) (hF : ∀ k, k ∈ F → k ∈ F') (hR : ∀ k, k ∈ R → k ∈ R') : frM F' R' σ τ := ⟨fun k z => h.1 k (fun e => z (hF k e)), h.2.1, fun k z => h.2.2.1 k (fun e => z (hR k e)), h.2.2.2⟩
theorem frM_refl {F R : List Nat} {σ : rS} : frM F R σ σ := ⟨fun _ _ => rfl, rfl, fun _ _ => rfl, fun _ _ => rfl⟩
/-- a program's order hangs on its own fields and rows alone -/
theorem rI_gen {σ τ : rS} {B T : Int32} (h : rI σ B T) (ff : ∀ k, k ∈ [15, 16, 17, 18, 19, 40, 41, 42] → τ.1 k = σ.1 k) (rr : ∀ k, k ∈ [5, 7, 20, 22, 23, 24, 25, 26, 27, 28, 29, 30, 31, 32, 33, 34, 35, 36, 37, 38, 39, 43, 44] → τ.2.2.1 k = σ.2.2.1 k) : rI τ B T := by
  obtain ⟨h1, h2⟩ := h
  refine ⟨?_, progOK_L h1 h2 (fun t _ _ => by rw [rr 5 (by decide)]) (fun t _ _ => by rw [rr 7 (by decide)]) (fun t _ _ => by rw [rr 39 (by decide)]) (ff 18 (by decide)) (ff 19 (by decide)) (ff 40 (by decide)) (fun k hk j _ => ?_) (fun k hk j _ => ?_)⟩
  · obtain ⟨g1, g3, g4, g5, g6⟩ := h1
    refine ⟨?_, ?_, ?_, ?_, by rw [rr 37 (by decide)]; exact g6⟩
    · show tyF _ _ _ _ _ _ _ _
      rw [ff 15 (by decide), ff 16 (by decide), ff 17 (by decide), ff 18 (by decide), ff 19 (by decide), ff 40 (by decide), ff 41 (by decide), ff 42 (by decide)]
      exact g1
    · show tyN _ _ _ _ _ _
      rw [rr 20 (by decide), rr 22 (by decide), rr 25 (by decide), rr 28 (by decide), rr 26 (by decide), rr 27 (by decide)]
      exact g3
    · show tyA _ _
      rw [rr 23 (by decide), rr 24 (by decide)]
      exact g4
    · show tyS _ _ _ _ _ _ _ _
      rw [rr 29 (by decide), rr 33 (by decide), rr 34 (by decide), rr 35 (by decide), rr 36 (by decide), rr 38 (by decide), rr 43 (by decide), rr 44 (by decide)]
      exact g5
  · rcases hk with rfl | rfl | rfl | rfl | rfl | rfl | rfl | rfl
    · rw [rr 30 (by decide)]
    · rw [rr 31 (by decide)]
    · rw [rr 32 (by decide)]
    · rw [rr 33 (by decide)]
    · rw [rr 34 (by decide)]
    · rw [rr 35 (by decide)]
    · rw [rr 36 (by decide)]
    · rw [rr 37 (by decide)]
  · rcases hk with rfl | rfl
    · rw [rr 26 (by decide)]
    · rw [rr 29 (by decide)]
theorem rI_M {F R : List Nat} {σ τ : rS} {B T : Int32} (h : rI σ B T) (f : frM F R σ τ) (hF : ∀ k, k ∈ [15, 16, 17, 18, 19, 40, 41, 42] → k ∉ F) (hR : ∀ k, k ∈ [5, 7, 20, 22, 23, 24, 25, 26, 27, 28, 29, 30, 31, 32, 33, 34, 35, 36, 37, 38, 39, 43, 44] → k ∉ R) : rI τ B T := rI_gen h (fun k hk => f.1 k (hF k hk)) (fun k hk => f.2.2.1 k (hR k hk))
theorem ty_M {F R : List Nat} {σ τ : rS} (h : tyAll σ) (f : frM F R σ τ) (hF : ∀ k, k ∈ [15, 16, 17, 18, 19, 40, 41, 42] → k ∉ F) (hR : ∀ k, k ∈ [5, 7, 20, 22, 23, 24, 25, 26, 27, 28, 29, 30, 31, 32, 33, 34, 35, 36, 37, 38, 39, 43, 44] → k ∉ R) : tyAll τ := by
  obtain ⟨g1, g3, g4, g5, g6⟩ := h
  have ff : ∀ k, k ∈ [15, 16, 17, 18, 19, 40, 41, 42] → τ.1 k = σ.1 k := fun k hk => f.1 k (hF k hk)
  have rr : ∀ k, k ∈ [5, 7, 20, 22, 23, 24, 25, 26, 27, 28, 29, 30, 31, 32, 33, 34, 35, 36, 37, 38, 39, 43, 44] → τ.2.2.1 k = σ.2.2.1 k := fun k hk => f.2.2.1 k (hR k hk)
  refine ⟨?_, ?_, ?_, ?_, by rw [rr 37 (by decide)]; exact g6⟩
  · show tyF _ _ _ _ _ _ _ _
    rw [ff 15 (by decide), ff 16 (by decide), ff 17 (by decide), ff 18 (by decide), ff 19 (by decide), ff 40 (by decide), ff 41 (by decide), ff 42 (by decide)]
    exact g1
  · show tyN _ _ _ _ _ _
    rw [rr 20 (by decide), rr 22 (by decide), rr 25 (by decide), rr 28 (by decide), rr 26 (by decide), rr 27 (by decide)]
    exact g3
  · show tyA _ _
    rw [rr 23 (by decide), rr 24 (by decide)]
    exact g4
  · show tyS _ _ _ _ _ _ _ _
    rw [rr 29 (by decide), rr 33 (by decide), rr 34 (by decide), rr 35 (by decide), rr 36 (by decide), rr 38 (by decide), rr 43 (by decide), rr 44 (by decide)]
    exact g5
/-- a state's row: its ranges -/
def rowR (σ : rS) (j : Int32) : Prop := 1 ≤ rd σ 73 (143 * j) ∧ rd σ 73 (143 * j) ≤ 12 ∧ ∀ c : Int32, 0 ≤ c → c < rd σ 73 (143 * j) → 0 ≤ rd σ 73 (143 * j + 35 + 9 * c) ∧ rd σ 73 (143 * j + 35 + 9 * c) < 150
/-- what holds of states and nexts at all times -/
def exP (σ : rS) : Prop := exO σ ∧ (∀ j : Int32, 0 ≤ j → j < σ.1 70 → rowR σ j) ∧ (∀ j : Int32, 0 ≤ j → j < σ.1 70 → (rd σ 81 j = 0 → rd σ 83 j = 0) ∧ (rd σ 81 j ≠ 0 → 0 ≤ rd σ 83 j ∧ rd σ 83 j < rd σ 76 (j + 1) - rd σ 76 j)) ∧ 0 ≤ σ.1 88 ∧ (σ.1 88 = 0 → ∀ a, a < (σ.1 70).toNatClampNeg → ¬ Tr (edN σ 0 87 1) a a)
theorem Tr_congr {E F : Nat → Nat → Prop} (h : ∀ a b, E a b → F a b) {a b : Nat} (t : Tr E a b) : Tr F a b := by
  obtain ⟨k, t⟩ := t
  refine ⟨k, ?_⟩
  induction k generalizing a with
  | zero => exact h a b t
  | succ k ih =>
    obtain ⟨c, t1, t2⟩ := t
    exact ⟨c, h a c t1, ih t2⟩
theorem exP_o {σ τ : rS} (h : exP σ) (hf : ∀ k, k = 70 ∨ k = 71 ∨ k = 72 ∨ k = 88 → τ.1 k = σ.1 k) (hr : ∀ k, k = 73 ∨ k = 76 ∨ k = 77 ∨ k = 78 ∨ k = 79 ∨ k = 80 ∨ k = 81 ∨ k = 83 → τ.2.2.1 k = σ.2.2.1 k) : exP τ := by
  obtain ⟨h1, h2, h3, h4, h5⟩ := h
  refine ⟨exO_o h1 (fun k hk => hf k (by omega)) (fun k hk => hr k (by omega)), ?_, ?_, by rw [hf 88 (by decide)]; exact h4, ?_⟩
  · rw [hf 70 (by decide)]
    intro j j0 j1
    have := h2 j j0 j1
    unfold rowR at this ⊢
    simp only [rd] at this ⊢
    rw [hr 73 (by decide)]; exact this
  · rw [hf 70 (by decide)]
    intro j j0 j1
    simp only [rd]
    rw [hr 76 (by decide), hr 81 (by decide), hr 83 (by decide)]
    exact h3 j j0 j1
  · rw [hf 70 (by decide), hf 88 (by decide)]
    intro z a ha t
    exact h5 z a ha (Tr_congr (fun a b e => (edN_o (fun k hk => hr k (by omega)) (by decide)).mp e) t)
theorem exP_0 {τ : rS} (h70 : τ.1 70 = 0) (h71 : τ.1 71 = 0) (h72 : τ.1 72 = 0) (h88 : 0 ≤ τ.1 88) : exP τ := by
  refine ⟨⟨by rw [h70]; decide, by rw [h71]; decide, by rw [h72]; decide, fun j j0 j1 => ?_, fun i hi => ?_⟩, fun j j0 j1 => ?_, fun j j0 j1 => ?_, h88, fun _ a ha => ?_⟩
  · rw [h70] at j1; exact absurd j1 (Int32.not_lt.mpr j0)
  · rw [h72] at hi; exact absurd hi (Nat.not_lt_zero i)
  · rw [h70] at j1; exact absurd j1 (Int32.not_lt.mpr j0)
  · rw [h70] at j1; exact absurd j1 (Int32.not_lt.mpr j0)
  · rw [h70] at ha; exact absurd ha (Nat.not_lt_zero a)
theorem sub_pos {a b : Int32} (h0 : 0 ≤ a) (h : a < b) : 0 < b - a := by
  have e := i_sub (Int32.le_trans h0 (Int32.le_of_lt h)) h0
  have l := Int32.lt_iff_toInt_lt.mp h
  exact Int32.lt_iff_toInt_lt.mpr (by rw [e, Int32.toInt_zero]; omega)
theorem exV_o {τ υ : rS} {B T k : Int32} (h : exV τ B T k) (hf : ∀ k, k ≠ 69 → υ.1 k = τ.1 k) (hr : ∀ k, k ≠ 83 → υ.2.2.1 k = τ.2.2.1 k) : exV υ B T k := by
  obtain ⟨hI, hR, hrow, hnx, hk, hst, hz, hns⟩ := h
  have f70 := hf 70 (by decide)
  have f71 := hf 71 (by decide)
  have f72 := hf 72 (by decide)
  refine ⟨rI_gen hI (fun k hk => hf k (fun e => by subst e; exact absurd hk (by decide))) (fun k hk => hr k (fun e => by subst e; exact absurd hk (by decide))), by unfold exRR9; rw [f70, f71, f72, hf 85 (by decide)]; exact hR, fun j j0 j1 => row_o (hrow j j0 (by rw [← f70]; exact j1)) (hr 73 (by decide)) (hr 30 (by decide)) (hf 19 (by decide)), fun i hi => ?_, by rw [f70]; exact hk, fun j j0 j1 => stOK_m (hst j j0 j1) (by rw [rd, hr 76 (by decide)]) (by rw [rd, hr 76 (by decide)]) (by rw [rd, hr 80 (by decide)]) (by rw [rd, hr 81 (by decide)]) (by rw [f72]; exact Int32.le_refl _) (fun i _ => by rw [hr 79 (by decide)]), by rw [f72]; exact hz, by rw [f72, rd, hr 76 (by decide)]; exact hns⟩
  rw [f72] at hi
  exact nx_mono (hnx i hi) (by rw [hr 77 (by decide)]) (by rw [hr 78 (by decide)]) (by rw [f70]; exact Int32.le_refl _) (by rw [f71]; exact Int32.le_refl _)
theorem exV_0 {υ : rS} {B T : Int32} (hI : rI υ B T) (hR : exRR9 υ) (h72 : υ.1 72 = 0) (hrow : ∀ j : Int32, 0 ≤ j → j < υ.1 70 → rowOK υ j) : exV υ B T 0 := by
  refine ⟨hI, hR, hrow, fun i hi => ?_, ⟨by decide, hR.1.1⟩, fun j j0 j1 => absurd j1 (Int32.not_lt.mpr j0), fun _ => h72, fun z => absurd z (by decide)⟩
  rw [h72] at hi
  exact absurd hi (Nat.not_lt_zero i)
theorem exO_V {τ : rS} {B T : Int32} (h : exV τ B T (τ.1 70)) : exO τ := by
  obtain ⟨hI, hR, hrow, hnx, hk, hst, hz, hns⟩ := h
  exact ⟨⟨hR.1.1, Int32.le_trans hR.1.2.1 hR.1.2.2⟩, hR.2.1, hR.2.2, hst, hnx⟩
theorem u1001 {x : Int32} (h0 : 0 ≤ x) (h : x < 1000) : 0 ≤ 1001 - (x + 1) ∧ 1001 - (x + 1) < 1001 - x ∧ 0 ≤ x + 1 ∧ x + 1 ≤ 1000 := by grind
theorem explore_c {C : rCx} (hC : cOK C)  {σ : rS} {a1 : Int32} {Q : Int32 → rS → Prop} (hp : tyAll σ ∧ (σ.1 14 ≠ 0 → ∃ T, progOK σ (σ.1 3) T) ∧ exP σ) (h : ∀ (v : Int32) (σ' : rS), (frM xpF xpR σ σ' ∧ exP σ' ∧ tyAll σ' ∧ (σ'.1 14 ≠ 0 → ∃ T, progOK σ' (σ'.1 3) T) ∧ (((∀ k, k ≠ 0 → σ'.1 k = σ.1 k) ∧ σ'.2 = σ.2) ∨ (σ'.1 94 = 0 ∧ σ'.1 114 = 0))) → Q v σ') : cI C 11 m_explore [.ref (co C), .int a1] σ Q := by
  refine m_explore_run hC ?_
  unfold w_explore_0
  obtain ⟨hT, hP, hX⟩ := hp
  have hT' : ∃ T, σ.1 14 ≠ 0 → rI σ (σ.1 3) T := by
    by_cases z : σ.1 14 = 0
    · exact ⟨0, fun y => absurd z y⟩
    · obtain ⟨T, g⟩ := hP z
      exact ⟨T, fun _ => ⟨hT, g⟩⟩
  obtain ⟨T, hI⟩ := hT'
  have ft : ∀ υ, frM xpF xpR σ υ → tyAll υ ∧ (υ.1 14 ≠ 0 → ∃ T, progOK υ (υ.1 3) T) := fun υ f => ⟨ty_M hT f (by decide) (by decide), fun z => ⟨T, by rw [f.1 3 (by decide)]; exact (rI_M (hI (by rw [← f.1 14 (by decide)]; exact z)) f (by decide) (by decide)).2⟩⟩
  have hj136 : ∀ (l2 : Int32) (τ : rS), (frM xpF xpR σ τ ∧ rI τ (σ.1 3) T ∧ exRR9 τ ∧ nb l2 ∧ τ.1 94 = 0 ∧ τ.1 114 = 0 ∧ τ.1 88 = σ.1 88 ∧ (l2 ≠ 0 → exV τ (σ.1 3) T (τ.1 70))) → w_explore_136 C Q  l2 τ := by
    rintro y136_2 τ136 j136
    unfold w_explore_136
    obtain ⟨g1, g2, g3, g4, g5, g6, g7, g8⟩ := j136
    refine ⟨?_, ?_⟩
    · clear h; exact g4  -- b1
    intro σ_1 hσ_1
    refine ⟨fun c2 => ?_, fun c2 => ?_⟩
    · skip
      unfold w_explore_164
      refine ⟨fun n l3 τ => n = (τ.1 70 - l3).toNatClampNeg ∧ (frM xpF xpR σ τ ∧ 0 ≤ l3 ∧ l3 ≤ τ.1 70 ∧ τ.1 94 = 0 ∧ τ.1 114 = 0 ∧ exV τ (σ.1 3) T (τ.1 70) ∧ ∀ j : Int32, 0 ≤ j → j < l3 → rd τ 83 j = 0), ⟨_, rfl, ?_⟩, ?_⟩
      · clear h; have e1 : ∀ k, k ≠ 69 → σ_1.1 k = τ136.1 k := fun k hk => by rw [hσ_1, si1, if_neg hk]
        have V := g8 c2
        rw [e1 70 (by decide)]
        exact ⟨frM_tr g1 (by rw [hσ_1]; exact frM_0 (by decide)), by decide, V.2.1.1.1, by rw [e1 94 (by decide)]; exact g5, by rw [e1 114 (by decide)]; exact g6, exV_o V e1 (fun k _ => by rw [hσ_1, si2]), fun j j0 j1 => absurd j1 (Int32.not_lt.mpr j0)⟩
      rintro n164 x164_3 σ164 ⟨hn164, i164⟩
      obtain ⟨w1, w2, w3, w4, w5, w6, w7⟩ := i164
      refine ⟨fun c3 => ?_, fun c3 => ?_⟩
      · skip
        refine findRings_c hC  ?_ (fun σ_4 q5 => ?_)
        · clear h; exact exO_V w6  -- p3
        refine h _ _ ?_
        · clear h; have e : x164_3 = σ164.1 70 := Int32.le_antisymm w3 c3
          rw [e] at w7
          have F : frM xpF xpR σ σ_4 := frM_tr w1 (frM_mono q5.1 (by decide) (by decide))
          have e70 : σ_4.1 70 = σ164.1 70 := q5.1.1 70 (by decide)
          have rr : ∀ k, k ≠ 87 → σ_4.2.2.1 k = σ164.2.2.1 k := fun k hk => q5.1.2.2.1 k (fun z => hk (by simpa using z))
          refine ⟨F, ⟨exO_o (exO_V w6) (fun k hk => q5.1.1 k (by rcases hk with rfl | rfl | rfl <;> decide)) (fun k hk => rr k (by omega)), fun j j0 j1 => ?_, fun j j0 j1 => ?_, q5.2.1, fun z a ha t => ?_⟩, (ft _ F).1, (ft _ F).2, Or.inr ⟨by rw [q5.1.1 94 (by decide)]; exact w4, by rw [q5.1.1 114 (by decide)]; exact w5⟩⟩
          · rw [e70] at j1
            obtain ⟨r1, r2, r3, -⟩ := w6.2.2.1 j j0 j1
            unfold rowR
            simp only [rd]
            rw [rr 73 (by decide)]
            exact ⟨r1, r2, fun c c0 c1 => ⟨(r3 c c0 c1).1, s150 w6.1 (r3 c c0 c1).2⟩⟩
          · rw [e70] at j1
            have sj := (w6.2.2.2.2.2.1 j j0 j1).1
            have p := w7 j j0 j1
            simp only [rd] at p sj ⊢
            rw [rr 83 (by decide), rr 76 (by decide), p]
            exact ⟨fun _ => rfl, fun _ => ⟨by decide, sub_pos sj.1 sj.2.1⟩⟩
          · rw [e70] at ha
            exact q5.2.2 z a ha (Tr_congr (fun a b e => (edN_o (fun k hk => rr k (by omega)) (by decide)).mp e) t)
      · skip
        have u := uk w2 c3 (Int32.le_trans w6.2.1.1.2.1 w6.2.1.1.2.2)
        refine ⟨ib_1000.mpr ?_, ?_⟩
        · clear h; exact ⟨w2, u.2.2.2.2.2⟩  -- b5
        intro σ_6 hσ_6
        intro x7 hx7
        refine ⟨_, cn_lt2 hn164 ?_ ?_, rfl, ?_⟩
        · clear h; rw [hx7, hσ_6, ri1]; exact u.1  -- d6
        · clear h; rw [hx7, hσ_6, ri1]; exact u.2.1  -- d7
        · clear h; have e6 : ∀ k, σ_6.1 k = σ164.1 k := fun k => by rw [hσ_6, ri1]
          rw [hx7, e6 70]
          refine ⟨frM_tr w1 (by rw [hσ_6]; exact frM_1 (by decide)), u.2.2.1, u.2.2.2.1, by rw [e6]; exact w4, by rw [e6]; exact w5, exV_o w6 (fun k _ => e6 k) (fun k hk => by rw [hσ_6, ri3 hk]), fun j j0 j1 => ?_⟩
          rw [rd, hσ_6, ri4]
          split
          · rfl
          · rename_i ne
            refine w7 j j0 ?_
            rcases l1k w2 u.2.2.2.2.2 j1 with z | z
            · exact absurd (by rw [z]) ne
            · exact z
    · skip
      intro σ_8 hσ_8
      intro σ_9 hσ_9
      intro σ_10 hσ_10
      refine h _ _ ?_
      · clear h; have F : frM xpF xpR σ σ_10 := frM_tr g1 (frM_tr (by rw [hσ_1]; exact frM_0 (by decide) : frM xpF xpR τ136 σ_1) (by rw [hσ_10, hσ_9, hσ_8]; exact frM_tr (frM_tr (frM_0 (by decide)) (frM_0 (by decide))) (frM_0 (by decide))))
        have k : ∀ k, k ≠ 69 → k ≠ 70 → k ≠ 71 → k ≠ 72 → σ_10.1 k = τ136.1 k := fun k z1 z2 z3 z4 => by rw [hσ_10, si1, if_neg z4, hσ_9, si1, if_neg z3, hσ_8, si1, if_neg z2, hσ_1, si1, if_neg z1]
        exact ⟨F, exP_0 (by rw [hσ_10, si1, if_neg (by decide), hσ_9, si1, if_neg (by decide), hσ_8, si1, if_pos rfl]) (by rw [hσ_10, si1, if_neg (by decide), hσ_9, si1, if_pos rfl]) (by rw [hσ_10, si1, if_pos rfl]) (by rw [k 88 (by decide) (by decide) (by decide) (by decide), g7]; exact hX.2.2.2.1), (ft _ F).1, (ft _ F).2, Or.inr ⟨by rw [k 94 (by decide) (by decide) (by decide) (by decide)]; exact g5, by rw [k 114 (by decide) (by decide) (by decide) (by decide)]; exact g6⟩⟩
  have hh112 : ∀ (l2 : Int32) (l3 : Int32) (τ : rS), (frM xpF xpR σ τ ∧ rI τ (σ.1 3) T ∧ exRR9 τ ∧ 0 ≤ l3 ∧ l3 ≤ 1000 ∧ nb l2 ∧ τ.1 94 = 0 ∧ τ.1 114 = 0 ∧ τ.1 88 = σ.1 88 ∧ (l2 ≠ 0 → exV τ (σ.1 3) T l3)) → w_explore_112 C Q  l2 l3 τ := by
    intro z2 z3 τi hinit
    unfold w_explore_112
    refine ⟨fun n l2 l3 τ => n = (1001 - l3).toNatClampNeg ∧ (frM xpF xpR σ τ ∧ rI τ (σ.1 3) T ∧ exRR9 τ ∧ 0 ≤ l3 ∧ l3 ≤ 1000 ∧ nb l2 ∧ τ.1 94 = 0 ∧ τ.1 114 = 0 ∧ τ.1 88 = σ.1 88 ∧ (l2 ≠ 0 → exV τ (σ.1 3) T l3)), ⟨_, rfl, hinit⟩, ?_⟩
    clear hinit
    rintro n112 x112_2 x112_3 σ112 ⟨hn112, i112⟩
    obtain ⟨v1, v2, v3, v4, v5, v6, v7, v8, v9, v10⟩ := i112
    refine ⟨fun c11 => ?_, fun c11 => ?_⟩
    · skip
      refine hj136 _ _ ?_
      · clear h; refine ⟨v1, v2, v3, v6, v7, v8, v9, fun z => ?_⟩
        have V := v10 z
        have e : x112_3 = σ112.1 70 := Int32.le_antisymm V.2.2.2.2.1.2 c11
        rw [e] at V
        exact V
    · skip
      refine ⟨fun c12 => ?_, fun c12 => ?_⟩
      · skip
        refine hj136 _ _ ?_
        · clear h; exact ⟨v1, v2, v3, v6, v7, v8, v9, fun z => absurd c12 z⟩  -- k11
      · skip
        refine expand_c hC (σ.1 3) T ?_ (fun r13 σ_14 q15 => ?_)
        · clear h; exact ⟨v10 c12, Int32.not_le.mp c11⟩  -- p12
        intro x16 hx16
        have u := u1001 v4 (Int32.lt_of_lt_of_le (Int32.not_le.mp c11) (Int32.le_trans v3.1.2.1 v3.1.2.2))
        refine ⟨_, cn_lt2 hn112 ?_ ?_, rfl, ?_⟩
        · clear h; rw [hx16]; exact u.1  -- d13
        · clear h; rw [hx16]; exact u.2.1  -- d14
        · clear h; rw [hx16]; exact ⟨frM_tr v1 (frM_G q15.1 (by decide) (by decide)), q15.2.1.1, q15.2.1.2.1, u.2.2.1, u.2.2.2, q15.2.2.1, by rw [q15.1.1 94 (by decide)]; exact v7, by rw [q15.1.1 114 (by decide)]; exact v8, by rw [q15.1.1 88 (by decide)]; exact v9, q15.2.2.2⟩  -- i15
  have hj28 : ∀ (l1 : Int32) (s1 : Int32) (τ : rS), (σ = τ ∧ l1 = a1 ∧ (s1 ≤ 0 → σ.1 14 ≠ 0 ∧ 1 ≤ a1 ∧ a1 ≤ 1000)) → w_explore_28 C Q  l1 s1 τ := by
    rintro y28_1 y28_s1 _ ⟨rfl, j28⟩
    unfold w_explore_28
    intro σ_17 hσ_17
    refine ⟨fun c18 => ?_, fun c18 => ?_⟩
    · skip
      intro σ_19 hσ_19
      intro σ_20 hσ_20
      intro σ_21 hσ_21
      intro σ_22 hσ_22
      intro σ_23 hσ_23
      intro σ_24 hσ_24
      refine begin_c hC (σ.1 3) T ?_ (fun r25 σ_26 q27 => ?_)
      · clear h; have e0 : σ_17.1 0 = y28_s1 := by rw [hσ_17, si1, if_pos rfl]
        have w := j28.2 (by rw [← e0]; exact c18)
        have F : frM xpF xpR σ σ_24 := by rw [hσ_24, hσ_23, hσ_22, hσ_21, hσ_20, hσ_19, hσ_17]; exact frM_tr (frM_tr (frM_tr (frM_tr (frM_tr (frM_tr (frM_0 (by decide)) (frM_0 (by decide))) (frM_0 (by decide))) (frM_0 (by decide))) (frM_0 (by decide))) (frM_0 (by decide))) (frM_0 (by decide))
        exact rI_M (hI w.1) F (by decide) (by decide)
      have e0 : σ_17.1 0 = y28_s1 := by rw [hσ_17, si1, if_pos rfl]
      have w := j28.2 (by rw [← e0]; exact c18)
      have F24 : frM xpF xpR σ σ_24 := by rw [hσ_24, hσ_23, hσ_22, hσ_21, hσ_20, hσ_19, hσ_17]; exact frM_tr (frM_tr (frM_tr (frM_tr (frM_tr (frM_tr (frM_0 (by decide)) (frM_0 (by decide))) (frM_0 (by decide))) (frM_0 (by decide))) (frM_0 (by decide))) (frM_0 (by decide))) (frM_0 (by decide))
      have I24 : rI σ_24 (σ.1 3) T := rI_M (hI w.1) F24 (by decide) (by decide)
      have v114 : σ_24.1 114 = 0 := by rw [hσ_24, si1, if_pos rfl]
      have v94 : σ_24.1 94 = 0 := by rw [hσ_24, si1, if_neg (by decide), hσ_23, si1, if_pos rfl]
      have v72 : σ_24.1 72 = 0 := by rw [hσ_24, si1, if_neg (by decide), hσ_23, si1, if_neg (by decide), hσ_22, si1, if_pos rfl]
      have v71 : σ_24.1 71 = 0 := by rw [hσ_24, si1, if_neg (by decide), hσ_23, si1, if_neg (by decide), hσ_22, si1, if_neg (by decide), hσ_21, si1, if_pos rfl]
      have v70 : σ_24.1 70 = 0 := by rw [hσ_24, si1, if_neg (by decide), hσ_23, si1, if_neg (by decide), hσ_22, si1, if_neg (by decide), hσ_21, si1, if_neg (by decide), hσ_20, si1, if_pos rfl]
      have v85 : σ_24.1 85 = a1 := by rw [hσ_24, si1, if_neg (by decide), hσ_23, si1, if_neg (by decide), hσ_22, si1, if_neg (by decide), hσ_21, si1, if_neg (by decide), hσ_20, si1, if_neg (by decide), hσ_19, si1, if_pos rfl]; exact j28.1
      have v88 : σ_24.1 88 = σ.1 88 := by rw [hσ_24, si1, if_neg (by decide), hσ_23, si1, if_neg (by decide), hσ_22, si1, if_neg (by decide), hσ_21, si1, if_neg (by decide), hσ_20, si1, if_neg (by decide), hσ_19, si1, if_neg (by decide), hσ_17, si1, if_neg (by decide)]
      have F26 : frM xpF xpR σ σ_26 := frM_tr F24 (frM_G q27.1 (by decide) (by decide))
      have I26 : rI σ_26 (σ.1 3) T := rI_fr I24 (frG_mono q27.1 (by decide) (by decide))
      have k26 : ∀ k, k ≠ 58 → k ≠ 61 → σ_26.1 k = σ_24.1 k := fun k z1 z2 => q27.1.1 k (by simp [z1, z2])
      refine ⟨fun c28 => ?_, fun c28 => ?_⟩
      · skip
        refine endingNumber_c hC  ?_ (fun r29 σ_30 q31 => ?_)
        · clear h; rw [k26 71 (by decide) (by decide), v71]; exact ⟨by decide, by decide⟩  -- p17
        have k30 : ∀ k, k ≠ 58 → k ≠ 61 → k ≠ 71 → σ_30.1 k = σ_24.1 k := fun k z1 z2 z3 => (q31.1.1 k (by simp [z3])).trans (k26 k z1 z2)
        have I30 : rI σ_30 (σ.1 3) T := rI_ex I26 (frG_mono q31.1 (by decide) (by decide))
        have R30 : exRR9 σ_30 := by
          unfold exRR9
          rw [k30 70 (by decide) (by decide) (by decide), k30 72 (by decide) (by decide) (by decide), k30 85 (by decide) (by decide) (by decide), v70, v72, v85]
          exact ⟨⟨by decide, Int32.le_trans (by decide) w.2.1, w.2.2⟩, ⟨q31.2.1.1, q31.2.1.2.2⟩, by decide, by decide⟩
        have fin : ∀ l2 : Int32, nb l2 → (l2 ≠ 0 → exV σ_30 (σ.1 3) T 0) → frM xpF xpR σ σ_30 ∧ rI σ_30 (σ.1 3) T ∧ exRR9 σ_30 ∧ (0 : Int32) ≤ 0 ∧ (0 : Int32) ≤ 1000 ∧ nb l2 ∧ σ_30.1 94 = 0 ∧ σ_30.1 114 = 0 ∧ σ_30.1 88 = σ.1 88 ∧ (l2 ≠ 0 → exV σ_30 (σ.1 3) T 0) := fun l2 h1 h2 => ⟨frM_tr F26 (frM_G q31.1 (by decide) (by decide)), I30, R30, by decide, by decide, h1, by rw [k30 94 (by decide) (by decide) (by decide)]; exact v94, by rw [k30 114 (by decide) (by decide) (by decide)]; exact v114, by rw [k30 88 (by decide) (by decide) (by decide)]; exact v88, h2⟩
        refine ⟨fun c32 => ?_, fun c32 => ?_⟩
        · skip
          refine hh112 _ _ _ ?_
          · clear h; exact fin _ nb_0 (fun z => absurd rfl z)  -- j18
        · skip
          refine hh112 _ _ _ ?_
          · clear h; refine fin _ nb_1 (fun _ => exV_0 I30 R30 (by rw [k30 72 (by decide) (by decide) (by decide)]; exact v72) (fun j j0 j1 => ?_))
            rw [k30 70 (by decide) (by decide) (by decide), v70] at j1
            exact absurd j1 (Int32.not_lt.mpr j0)
      · skip
        refine stateNumber_c hC  ?_ (fun r33 σ_34 q35 => ?_)
        · clear h; refine ⟨?_, ?_, ?_, ?_⟩
          · rcases q27.2 with z | z
            · exact z.2
            · exact absurd (c28.symm.trans z) (by decide)
          · rw [k26 70 (by decide) (by decide), v70]; decide
          · rw [k26 70 (by decide) (by decide), k26 85 (by decide) (by decide), v70, v85]; exact Int32.le_trans (by decide) w.2.1
          · rw [k26 85 (by decide) (by decide), v85]; exact w.2.2
        have k34 : ∀ k, k ≠ 58 → k ≠ 61 → k ≠ 70 → σ_34.1 k = σ_24.1 k := fun k z1 z2 z3 => (q35.1.1 k (by simp [z3])).trans (k26 k z1 z2)
        have I34 : rI σ_34 (σ.1 3) T := rI_ex I26 (frG_mono q35.1 (by decide) (by decide))
        have R34 : exRR9 σ_34 := by
          have q := q35.2.1
          rw [k26 85 (by decide) (by decide), v85] at q
          unfold exRR9
          rw [k34 71 (by decide) (by decide) (by decide), k34 72 (by decide) (by decide) (by decide), k34 85 (by decide) (by decide) (by decide), v71, v72, v85]
          exact ⟨⟨q.1, q.2.2, w.2.2⟩, by decide, by decide⟩
        have fin : ∀ l2 : Int32, nb l2 → frM xpF xpR σ σ_34 ∧ rI σ_34 (σ.1 3) T ∧ exRR9 σ_34 ∧ (0 : Int32) ≤ 0 ∧ (0 : Int32) ≤ 1000 ∧ nb l2 ∧ σ_34.1 94 = 0 ∧ σ_34.1 114 = 0 ∧ σ_34.1 88 = σ.1 88 ∧ (l2 ≠ 0 → exV σ_34 (σ.1 3) T 0) := fun l2 h1 => ⟨frM_tr F26 (frM_G q35.1 (by decide) (by decide)), I34, R34, by decide, by decide, h1, by rw [k34 94 (by decide) (by decide) (by decide)]; exact v94, by rw [k34 114 (by decide) (by decide) (by decide)]; exact v114, by rw [k34 88 (by decide) (by decide) (by decide)]; exact v88, fun _ => exV_0 I34 R34 (by rw [k34 72 (by decide) (by decide) (by decide)]; exact v72) (fun j j0 j1 => q35.2.2.2.2 j j0 (by rw [k26 70 (by decide) (by decide), v70]; exact j0) j1)⟩
        refine ⟨fun c36 => ?_, fun c36 => ?_⟩
        · skip
          refine hh112 _ _ _ ?_
          · clear h; exact fin _ nb_0  -- j21
        · skip
          refine hh112 _ _ _ ?_
          · clear h; exact fin _ nb_1  -- j22
    · skip
      refine h _ _ ?_
      · clear h; have F : frM xpF xpR σ σ_17 := by rw [hσ_17]; exact frM_0 (by decide)
        exact ⟨F, exP_o hX (fun k hk => by rw [hσ_17, si1, if_neg (by omega)]) (fun k _ => by rw [hσ_17, si2]), (ft _ F).1, (ft _ F).2, Or.inl ⟨fun k hk => by rw [hσ_17, si1, if_neg hk], by rw [hσ_17, si2]⟩⟩
  refine ⟨fun c37 => ?_, fun c37 => ?_⟩
  · skip
    refine within_c hC  (fun r38 q40 => ?_)
    refine ⟨fun c41 => ?_, fun c41 => ?_⟩
    · skip
      refine hj28 _ _ _ ?_
      · clear h; exact ⟨rfl, rfl, fun _ => ⟨c37, q40.2.mp c41⟩⟩  -- k24
    · skip
      refine hj28 _ _ _ ?_
      · clear h; exact ⟨rfl, rfl, fun z => absurd z (by decide)⟩  -- k25
  · skip
    refine hj28 _ _ _ ?_
    · clear h; exact ⟨rfl, rfl, fun z => absurd z (by decide)⟩  -- k26
