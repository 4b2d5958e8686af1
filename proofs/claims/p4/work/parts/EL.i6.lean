set_option maxHeartbeats 1600000
/-! the class: Odds' constructor, exactly -/
theorem Od_init_c {C : zC} {n0 : Nat} {a0 : Nat} {a1 : Nat} {a2 : Nat} {a3 : Nat} {κ : zS} {Q : zS → Prop} (W : zW C n0 κ) (Ta0 : zT κ a0 = 49) (Ta1 : zT κ a1 = 3) (Ta2 : zT κ a2 = 12) (Ta3 : zT κ a3 = 4)  (h : ∀ (κ' : zS), (κ' = iOd9 κ a0 a1 a2 a3) → Q κ') : zRun C 2 mOd_init [.ref a0, .ref a1, .ref a2, .ref a3] κ (oV Q noX) := by
  refine Od_init_run W Ta0 Ta1 Ta2 Ta3 ?_
  replace W := W.lo (Nat.le_trans W.1.2.1 W.1.2.2) (Nat.le_refl (zn κ))
  unfold w_Od_init_0
  intro κ_1 hκ_1
  intro W2
  intro κ_3 hκ_3
  intro W4
  intro κ_5 hκ_5
  intro W6
  intro κ_7 hκ_7
  intro W8
  intro T9
  refine Nu_init_c W8 T9  ?_ (fun κ_10 q11 => ?_)
  · decide  -- p1
  intro W12
  intro M13
  refine ⟨?_, ?_⟩
  · exact zOk_n9 q11  -- b2
  intro κ_14 hκ_14
  intro W15
  intro κ_16 hκ_16
  intro W17
  intro κ_18 hκ_18
  intro W19
  intro T20
  refine Ho_init_c W19 T20  (fun κ_21 q22 => ?_)
  intro W23
  intro M24
  refine ⟨?_, ?_⟩
  · exact zOk_ho9 q22  -- b3
  intro κ_25 hκ_25
  intro W26
  intro κ_27 hκ_27
  intro W28
  refine ⟨?_, ?_⟩
  · exact ⟨by decide, by decide⟩  -- b4
  intro κ_29 hκ_29
  intro W30
  refine ⟨?_, ?_⟩
  · rw [hκ_29]; exact if_pos rfl  -- b5
  intro κ_31 hκ_31
  intro W32
  refine ⟨?_, ?_⟩
  · exact ⟨by decide, by decide⟩  -- b6
  intro κ_33 hκ_33
  intro W34
  refine ⟨?_, ?_⟩
  · rw [hκ_33]; exact if_pos rfl  -- b7
  intro κ_35 hκ_35
  intro W36
  refine ⟨?_, ?_⟩
  · exact ⟨by decide, by decide⟩  -- b8
  intro κ_37 hκ_37
  intro W38
  refine ⟨?_, ?_⟩
  · rw [hκ_37]; exact if_pos rfl  -- b9
  intro κ_39 hκ_39
  intro W40
  refine ⟨?_, ?_⟩
  · exact ⟨by decide, by decide⟩  -- b10
  intro κ_41 hκ_41
  intro W42
  refine ⟨?_, ?_⟩
  · rw [hκ_41]; exact if_pos rfl  -- b11
  intro κ_43 hκ_43
  intro W44
  refine ⟨?_, ?_⟩
  · exact ⟨by decide, by decide⟩  -- b12
  intro κ_45 hκ_45
  intro W46
  refine ⟨?_, ?_⟩
  · rw [hκ_45]; exact if_pos rfl  -- b13
  intro κ_47 hκ_47
  intro W48
  refine ⟨?_, ?_⟩
  · exact ⟨by decide, by decide⟩  -- b14
  intro κ_49 hκ_49
  intro W50
  refine ⟨?_, ?_⟩
  · rw [hκ_49]; exact if_pos rfl  -- b15
  intro κ_51 hκ_51
  intro W52
  refine ⟨?_, ?_⟩
  · exact ⟨by decide, by decide⟩  -- b16
  intro κ_53 hκ_53
  intro W54
  refine ⟨?_, ?_⟩
  · rw [hκ_53]; exact if_pos rfl  -- b17
  intro κ_55 hκ_55
  intro W56
  refine ⟨?_, ?_⟩
  · exact ⟨by decide, by decide⟩  -- b18
  intro κ_57 hκ_57
  intro W58
  refine ⟨?_, ?_⟩
  · rw [hκ_57]; exact if_pos rfl  -- b19
  intro κ_59 hκ_59
  intro W60
  refine ⟨?_, ?_⟩
  · exact ⟨by decide, by decide⟩  -- b20
  intro κ_61 hκ_61
  intro W62
  refine ⟨?_, ?_⟩
  · rw [hκ_61]; exact if_pos rfl  -- b21
  intro κ_63 hκ_63
  intro W64
  refine h _ ?_
  · have s0 : κ_5 = ur (ur (ur κ odAtlas a0 a1) odSolver a0 a2) odCalc a0 a3 := by rw [hκ_5, hκ_3, hκ_1]
    have w1 : κ_16 = mkn9 κ_5 4 odHeld a0 := by rw [hκ_16, hκ_14, q11, hκ_7]; rfl
    have w2 : κ_27 = mkH9 κ_16 3000 3 8192 odGroups a0 := by rw [hκ_27, hκ_25, q22, hκ_18]; rfl
    have r91 : κ_31 = mkr9 κ_27 odKey a0 20 3 := by rw [hκ_31, hκ_29]; rfl
    have r92 : κ_35 = mkr9 κ_31 odLefts a0 20 0 := by rw [hκ_35, hκ_33]; rfl
    have r93 : κ_39 = mkr9 κ_35 odRights a0 20 0 := by rw [hκ_39, hκ_37]; rfl
    have r94 : κ_43 = mkr9 κ_39 odBases a0 20 0 := by rw [hκ_43, hκ_41]; rfl
    have r95 : κ_47 = mkr9 κ_43 odRanks a0 20 0 := by rw [hκ_47, hκ_45]; rfl
    have r96 : κ_51 = mkr9 κ_47 odCellOf a0 20 0 := by rw [hκ_51, hκ_49]; rfl
    have r97 : κ_55 = mkr9 κ_51 odHeads a0 20 0 := by rw [hκ_55, hκ_53]; rfl
    have r98 : κ_59 = mkr9 κ_55 odLinks a0 20 0 := by rw [hκ_59, hκ_57]; rfl
    have r99 : κ_63 = mkr9 κ_59 odEdges a0 24 0 := by rw [hκ_63, hκ_61]; rfl
    unfold iOd9
    rw [r99, r98, r97, r96, r95, r94, r93, r92, r91, w2, w1, s0]
