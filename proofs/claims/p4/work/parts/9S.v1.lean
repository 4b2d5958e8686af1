set_option maxHeartbeats 1600000
/-! the reference: list -/
theorem list_c {C : rCx} (hC : cOK C)  {σ : rS} {a1 : Nat} {a2 : Int32} {a3 : Int32} {a4 : Int32} {Q : Int32 → rS → Prop} (hp : (a1 = 121 ∨ a1 = 122 ∨ a1 = 123) ∧ exO σ ∧ 0 ≤ a2 ∧ a2 < 34 ∧ (a3 = -1 ∨ (0 ≤ a3 ∧ a3 < 34))) (h : ∀ (v : Int32) (σ' : rS), (frX [a1] σ σ' ∧ 0 ≤ v ∧ v ≤ σ.1 71) → Q v σ') : cI C 1 m_list [.ref (co C), .ref (cad C a1), .int a2, .int a3, .int a4] σ Q := by
  refine m_list_run hC ?_
  unfold w_list_0
  obtain ⟨hr, hO, h0, h1, h3⟩ := hp
  have n1000 := hO.2.1.2
  have hT : rT a1 = some (0, 1000) := by rcases hr with e | e | e <;> rw [e] <;> rfl
  unfold w_list_6
  refine ⟨fun n l1 l2 l3 l4 l5 l6 τ => n = (σ.1 71 - l6).toNatClampNeg ∧ (l1 = a1 ∧ l2 = a2 ∧ l3 = a3 ∧ l4 = a4 ∧ frX [a1] σ τ ∧ 0 ≤ l5 ∧ l5 ≤ l6 ∧ l6 ≤ σ.1 71), ⟨_, rfl, ?_⟩, ?_⟩
  · clear h; exact ⟨rfl, rfl, rfl, rfl, frX_rf, by decide, by decide, hO.2.1.1⟩  -- j1
  rintro n6 x6_1 x6_2 x6_3 x6_4 x6_5 x6_6 σ6 ⟨hn6, i6⟩
  have hj42 : ∀ (l1 : Nat) (l2 : Int32) (l3 : Int32) (l4 : Int32) (l5 : Int32) (l6 : Int32) (τ : rS), (l1 = a1 ∧ l2 = a2 ∧ l3 = a3 ∧ l4 = a4 ∧ l5 = x6_5 ∧ l6 = x6_6 ∧ ¬ σ.1 71 ≤ x6_6 ∧ τ = σ6) → w_list_42 C Q (fun l1' l2' l3' l4' l5' l6' τ => ∃ k < n6, (fun n l1 l2 l3 l4 l5 l6 τ => n = (σ.1 71 - l6).toNatClampNeg ∧ (l1 = a1 ∧ l2 = a2 ∧ l3 = a3 ∧ l4 = a4 ∧ frX [a1] σ τ ∧ 0 ≤ l5 ∧ l5 ≤ l6 ∧ l6 ≤ σ.1 71)) k l1' l2' l3' l4' l5' l6' τ) l1 l2 l3 l4 l5 l6 τ := by
    rintro y42_1 y42_2 y42_3 y42_4 y42_5 y42_6 τ42 j42
    unfold w_list_42
    obtain ⟨e1, e2, e3, e4, F, a0, a1', a2'⟩ := i6
    obtain ⟨y1, y2, y3, y4, y5, y6, y7, y8⟩ := j42
    have b0 := Int32.le_trans a0 a1'
    have u := uk b0 y7 n1000
    have m := mb_i a0 a1' u.2.2.2.2.2
    have x1000 : x6_5 ≤ 1000 := Int32.le_of_lt m.2.2.1
    unfold w_list_48
    refine ⟨fun n l1 l2 l3 l4 l5 l6 l7 l8 τ => n = (x6_5 - l8).toNatClampNeg ∧ (l1 = a1 ∧ l2 = a2 ∧ l3 = a3 ∧ l4 = a4 ∧ l5 = x6_5 ∧ l6 = x6_6 ∧ τ = σ6 ∧ 0 ≤ l8 ∧ l8 ≤ x6_5), ⟨_, rfl, ?_⟩, ?_⟩
    · clear h; exact ⟨y1, y2, y3, y4, y5, y6, y8, by decide, a0⟩  -- j2
    rintro n48 x48_1 x48_2 x48_3 x48_4 x48_5 x48_6 x48_7 x48_8 σ48 ⟨hn48, i48⟩
    have hj79 : ∀ (l1 : Nat) (l2 : Int32) (l3 : Int32) (l4 : Int32) (l5 : Int32) (l6 : Int32) (l8 : Int32) (s0 : Int32) (τ : rS), (l1 = a1 ∧ l2 = a2 ∧ l3 = a3 ∧ l4 = a4 ∧ l5 = x6_5 ∧ l6 = x6_6 ∧ τ = σ6 ∧ l8 = x48_8 ∧ ¬ x6_5 ≤ x48_8) → w_list_79 C Q (fun l1' l2' l3' l4' l5' l6' τ => ∃ k < n6, (fun n l1 l2 l3 l4 l5 l6 τ => n = (σ.1 71 - l6).toNatClampNeg ∧ (l1 = a1 ∧ l2 = a2 ∧ l3 = a3 ∧ l4 = a4 ∧ frX [a1] σ τ ∧ 0 ≤ l5 ∧ l5 ≤ l6 ∧ l6 ≤ σ.1 71)) k l1' l2' l3' l4' l5' l6' τ) (fun l1' l2' l3' l4' l5' l6' l7' l8' τ => ∃ k < n48, (fun n l1 l2 l3 l4 l5 l6 l7 l8 τ => n = (x6_5 - l8).toNatClampNeg ∧ (l1 = a1 ∧ l2 = a2 ∧ l3 = a3 ∧ l4 = a4 ∧ l5 = x6_5 ∧ l6 = x6_6 ∧ τ = σ6 ∧ 0 ≤ l8 ∧ l8 ≤ x6_5)) k l1' l2' l3' l4' l5' l6' l7' l8' τ) l1 l2 l3 l4 l5 l6 l8 s0 τ := by
      rintro y79_1 y79_2 y79_3 y79_4 y79_5 y79_6 y79_8 y79_s0 τ79 j79
      unfold w_list_79
      intro x1 hx1
      obtain ⟨g1, g2, g3, g4, g5, g6, g7, g8, g9⟩ := i48
      obtain ⟨z1, z2, z3, z4, z5, z6, z7, z8, z9⟩ := j79
      have w := uk g8 z9 x1000
      refine ⟨_, cn_lt2 hn48 ?_ ?_, rfl, ?_⟩
      · clear h; rw [hx1, z8]; exact w.1  -- d3
      · clear h; rw [hx1, z8]; exact w.2.1  -- d4
      · clear h; rw [hx1, z8]; exact ⟨z1, z2, z3, z4, z5, z6, z7, w.2.2.1, w.2.2.2.1⟩  -- i5
    obtain ⟨g1, g2, g3, g4, g5, g6, g7, g8, g9⟩ := i48
    refine ⟨fun c2 => ?_, fun c2 => ?_⟩
    · skip
      refine ⟨fun c3 => ?_, fun c3 => ?_⟩
      · skip
        intro x4 hx4
        refine ⟨_, cn_lt2 hn6 ?_ ?_, rfl, ?_⟩
        · clear h; rw [hx4, g6]; exact u.1  -- d6
        · clear h; rw [hx4, g6]; exact u.2.1  -- d7
        · clear h; rw [hx4, g6, g5, g7]; exact ⟨g1, g2, g3, g4, F, a0, m.2.2.2.1, u.2.2.2.1⟩  -- i8
      · skip
        refine told_c hC  ?_ (fun r5 q7 => ?_)
        · clear h; rw [g6, g2]; exact ⟨b0, u.2.2.2.2.2, h0, h1⟩  -- p9
        refine ⟨1000, ?_, ?_, ?_⟩
        · clear h; rw [g1]; exact hT  -- t10
        · clear h; exact ib_1000.mpr (by rw [g5]; exact ⟨a0, m.2.2.1⟩)  -- b11
        intro σ_8 hσ_8
        intro x9 hx9
        intro x10 hx10
        refine ⟨_, cn_lt2 hn6 ?_ ?_, rfl, ?_⟩
        · clear h; rw [hx10, g6]; exact u.1  -- d12
        · clear h; rw [hx10, g6]; exact u.2.1  -- d13
        · clear h; rw [hx9, hx10, g5, g6, hσ_8, g1, g7]
          exact ⟨rfl, g2, g3, g4, frX_tr F (frX_1 (List.mem_singleton.mpr rfl)), m.1, m.2.1, u.2.2.2.1⟩
    · skip
      refine ⟨fun c11 => ?_, fun c11 => ?_⟩
      · skip
        refine hj79 _ _ _ _ _ _ _ _ _ ?_
        · clear h; exact ⟨g1, g2, g3, g4, g5, g6, g7, rfl, by rw [← g5]; exact c2⟩  -- k15
      · skip
        refine ⟨1000, ?_, ?_, ?_⟩
        · clear h; rw [g1]; exact hT  -- t16
        · clear h; have w := uk g8 (by rw [← g5]; exact c2) x1000
          exact ib_1000.mpr ⟨g8, w.2.2.2.2.2⟩
        refine told_c hC  ?_ (fun r12 q14 => ?_)
        · clear h; rw [g6, g2]; exact ⟨b0, u.2.2.2.2.2, h0, h1⟩  -- p18
        refine ⟨fun c15 => ?_, fun c15 => ?_⟩
        · skip
          refine hj79 _ _ _ _ _ _ _ _ _ ?_
          · clear h; exact ⟨g1, g2, g3, g4, g5, g6, g7, rfl, by rw [← g5]; exact c2⟩  -- k19
        · skip
          refine hj79 _ _ _ _ _ _ _ _ _ ?_
          · clear h; exact ⟨g1, g2, g3, g4, g5, g6, g7, rfl, by rw [← g5]; exact c2⟩  -- k20
  obtain ⟨e1, e2, e3, e4, F, a0, a1', a2'⟩ := i6
  have b0 := Int32.le_trans a0 a1'
  have e71 : σ6.1 71 = σ.1 71 := by rw [F.1]
  rw [e71]
  refine ⟨fun c16 => ?_, fun c16 => ?_⟩
  · skip
    refine h _ _ ?_
    · clear h; exact ⟨F, a0, Int32.le_trans a1' a2'⟩  -- q21
  · skip
    have u := uk b0 c16 n1000
    have m := mb_i a0 a1' u.2.2.2.2.2
    refine ⟨ib_1000.mpr ?_, ?_⟩
    · clear h; exact ⟨b0, u.2.2.2.2.2⟩  -- b22
    refine ⟨fun c17 => ?_, fun c17 => ?_⟩
    · skip
      intro x18 hx18
      refine ⟨_, cn_lt2 hn6 ?_ ?_, rfl, ?_⟩
      · clear h; rw [hx18]; exact u.1  -- d23
      · clear h; rw [hx18]; exact u.2.1  -- d24
      · clear h; rw [hx18]; exact ⟨e1, e2, e3, e4, F, a0, m.2.2.2.1, u.2.2.2.1⟩  -- i25
    · skip
      refine ⟨fun c19 => ?_, fun c19 => ?_⟩
      · skip
        refine hj42 _ _ _ _ _ _ _ ?_
        · clear h; exact ⟨e1, e2, e3, e4, rfl, rfl, c16, rfl⟩  -- k26
      · skip
        refine told_c hC  ?_ (fun r20 q22 => ?_)
        · clear h; rw [e3] at c19 ⊢
          have q := h3.resolve_left c19
          exact ⟨b0, u.2.2.2.2.2, q.1, q.2⟩
        refine ⟨fun c23 => ?_, fun c23 => ?_⟩
        · skip
          intro x24 hx24
          refine ⟨_, cn_lt2 hn6 ?_ ?_, rfl, ?_⟩
          · clear h; rw [hx24]; exact u.1  -- d28
          · clear h; rw [hx24]; exact u.2.1  -- d29
          · clear h; rw [hx24]; exact ⟨e1, e2, e3, e4, F, a0, m.2.2.2.1, u.2.2.2.1⟩  -- i30
        · skip
          refine hj42 _ _ _ _ _ _ _ ?_
          · clear h; exact ⟨e1, e2, e3, e4, rfl, rfl, c16, rfl⟩  -- k31
