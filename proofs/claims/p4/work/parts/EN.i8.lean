set_option maxHeartbeats 1600000
/-! the class: Ratio's constructor, exactly -/
def pu9 (κ : zS) (x : Nat) : zS := ui (ua (ua κ (zR κ nuLimbs x) 0 1) (zR κ nuLimbs x) 1 0) nuLength x 1
def iRa9 (κ : zS) (a : Nat) (m : Int32) : zS := pu9 (mkn9 (mkn9 κ m raTop a) m raBottom a) (zR (mkn9 (mkn9 κ m raTop a) m raBottom a) raBottom a)
theorem Ra_init_c3 {C : zC} {n0 : Nat} {a0 : Nat} {a1 : Int32} {κ : zS} {Q : zS → Prop} (W : zW C n0 κ) (Ta0 : zT κ a0 = 51)  (hp : a1.toInt ≤ 10000) (h : ∀ (κ' : zS), (κ' = iRa9 κ a0 a1) → Q κ') : zRun C 2 mRa_init [.ref a0, .int a1] κ (oV Q noX) := by
  refine Ra_init_run W Ta0 ?_
  replace W := W.lo (Nat.le_trans W.1.2.1 W.1.2.2) (Nat.le_refl (zn κ))
  unfold w_Ra_init_0
  intro κ_1 hκ_1
  intro W2
  intro T3
  refine Nu_init_c W2 T3  ?_ (fun κ_4 q5 => ?_)
  · exact hp  -- p1
  intro W6
  intro M7
  refine ⟨?_, ?_⟩
  · exact zOk_n9 q5  -- b2
  intro κ_8 hκ_8
  intro W9
  intro κ_10 hκ_10
  intro W11
  intro κ_12 hκ_12
  intro W13
  intro T14
  refine Nu_init_c W13 T14  ?_ (fun κ_15 q16 => ?_)
  · exact hp  -- p3
  intro W17
  intro M18
  refine ⟨?_, ?_⟩
  · exact zOk_n9 q16  -- b4
  intro κ_19 hκ_19
  intro W20
  intro κ_21 hκ_21
  intro W22
  have B := mk_Nu9 (κ6 := nff κ_15 (zn κ_10)) W11 hκ_12 q16 rfl
  rw [← hκ_19] at B
  have e21 : zR κ_21 raBottom a0 = zn κ_10 := by rw [hκ_21]; exact if_pos ⟨rfl, rfl⟩
  have t21 : ∀ b, zT κ_21 b = zT κ_19 b := fun b => by rw [hκ_21]; rfl
  refine ⟨?_, ?_⟩
  · rw [e21, t21]; exact B.2.1.1  -- b5
  intro T23
  refine Nu_put_c3 W22 T23  ?_ (fun κ_24 q25 => ?_)
  · rw [e21]
    refine ⟨rfl, ?_⟩
    have q : zR κ_21 nuLimbs (zn κ_10) = zn κ_10 + 1 := by rw [hκ_21]; exact B.2.1.2.1
    have n : zN κ_21 (zn κ_10 + 1) = (if a1 < (2 : Int32) then (2 : Int32) else a1).toNatClampNeg := by rw [hκ_21]; exact B.2.1.2.2.1
    rw [q, n]
    exact (mx_9 hp).1
  intro W26
  intro M27
  refine h _ ?_
  · have w1 : κ_10 = mkn9 κ a1 raTop a0 := by rw [hκ_10, hκ_8, q5, hκ_1]; rfl
    have w2 : κ_21 = mkn9 κ_10 a1 raBottom a0 := by rw [hκ_21, hκ_19, q16, hκ_12]; rfl
    rw [q25, w2, w1]
    rfl
