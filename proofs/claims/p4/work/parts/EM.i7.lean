set_option maxHeartbeats 1600000
/-! the class: Ratio's constructor, exactly -/
theorem Nu_put_c3 {C : zC} {n0 : Nat} {a0 : Nat} {a1 : Int64} {κ : zS} {Q : zS → Prop} (W : zW C n0 κ) (Ta0 : zT κ a0 = 8)  (hp : a1 = 1 ∧ 2 ≤ (zN κ (zR κ nuLimbs a0))) (h : ∀ (κ' : zS), (κ' = ui (ua (ua κ (zR κ nuLimbs a0) 0 1) (zR κ nuLimbs a0) 1 0) nuLength a0 1) → Q κ') : zRun C 0 mNu_put [.ref a0, .long a1] κ (oV Q noX) := by
  refine Nu_put_run W Ta0 ?_
  replace W := W.lo (Nat.le_trans W.1.2.1 W.1.2.2) (Nat.le_refl (zn κ))
  unfold w_Nu_put_0
  obtain ⟨e1, p2⟩ := hp
  subst e1
  refine ⟨?_, ?_⟩
  · rw [inb_iff, t0i]; omega  -- b1
  intro κ_1 hκ_1
  intro W2
  have z1 : zR κ_1 = zR κ := by rw [hκ_1]; rfl
  have n1 : zN κ_1 = zN κ := by rw [hκ_1]; rfl
  have x1 : κ_1 = ua κ (zR κ nuLimbs a0) 0 1 := by
    rw [hκ_1]
    exact congrArg (ua κ (zR κ nuLimbs a0) 0) (by decide)
  refine ⟨?_, ?_⟩
  · rw [z1, n1, inb_iff, t1i]; omega  -- b2
  intro κ_3 hκ_3
  intro W4
  have z3 : zR κ_3 = zR κ := by rw [hκ_3]; exact z1
  have n3 : zN κ_3 = zN κ := by rw [hκ_3]; exact n1
  have x3 : κ_3 = ua κ_1 (zR κ nuLimbs a0) 1 0 := by
    rw [hκ_3, z1]
    exact congrArg (ua κ_1 (zR κ nuLimbs a0) 1) (by decide)
  have L1 : zA κ_3 (zR κ nuLimbs a0) 1 = 0 := by
    rw [x3]
    exact (congrFun (if_pos rfl) 1).trans (if_pos rfl)
  have L0 : zA κ_3 (zR κ nuLimbs a0) 0 = 1 := by
    rw [x3, x1]
    refine (congrFun (if_pos rfl) 0).trans ?_
    refine (if_neg (by decide)).trans ?_
    exact (congrFun (if_pos rfl) 0).trans (if_pos rfl)
  refine ⟨?_, ?_⟩
  · rw [z3, n3, inb_iff, t1i]; omega  -- b3
  refine ⟨fun c5 => ?_, fun c5 => ?_⟩
  · skip
    refine ⟨?_, ?_⟩
    · rw [z3, n3, inb_iff, t0i]; omega  -- b4
    refine ⟨fun c6 => ?_, fun c6 => ?_⟩
    · skip
      intro κ_7 hκ_7
      intro W8
      refine h _ ?_
      · exfalso
        rw [z3] at c6
        exact absurd (L0.symm.trans c6) (by decide)
    · skip
      intro κ_9 hκ_9
      intro W10
      refine h _ ?_
      · rw [hκ_9, x3, x1]  -- q6
  · skip
    intro κ_11 hκ_11
    intro W12
    refine h _ ?_
    · rw [z3] at c5
      exact absurd L1 c5
