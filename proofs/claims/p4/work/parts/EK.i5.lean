set_option maxHeartbeats 1600000
/-! the class: Atlas's and Odds' constructors, exactly -/
theorem zOk_we9 {κ κ2 : zS} {w : Nat} (e : κ2 = (mkr9 (mkr9 (mkr9 (mkr9 (mkr9 (mkr9 (mkr9 (mkr9 (mkr9 (mkr9 (mkr9 (mkr9 (mkr9 (mkr9 κ weFirsts w 20 ((1 : Int32)).toNatClampNeg) weTargets w 20 ((64 : Int32)).toNatClampNeg) weBackFirsts w 20 ((1 : Int32)).toNatClampNeg) weSources w 20 ((64 : Int32)).toNatClampNeg) weEdges w 20 ((64 : Int32)).toNatClampNeg) weOpen w 23 ((0 : Int32)).toNatClampNeg) weKnotFirsts w 20 ((1 : Int32)).toNatClampNeg) weKnotOf w 20 ((0 : Int32)).toNatClampNeg) weOrder w 20 ((0 : Int32)).toNatClampNeg) weSeen w 20 ((0 : Int32)).toNatClampNeg) weLow w 20 ((0 : Int32)).toNatClampNeg) weCursor w 20 ((0 : Int32)).toNatClampNeg) wePath w 20 ((0 : Int32)).toNatClampNeg) weHeap w 20 ((0 : Int32)).toNatClampNeg)) : zOk κ2 w 14 := by
  rw [e]
  show zOk (iWe9 κ w) w 14
  exact zOk_r9 We_r9 (fun p h1 h2 => We_z9 p h1 ⟨h2, (by decide +kernel : ∀ p ∈ zRT, p.1 / 100 = 14 → 20 ≤ p.2) p h1 h2⟩) (fun f h1 h2 => absurd h2 ((by decide : ∀ f ∈ zZT, f / 100 ≠ 14) f h1))
theorem zOk_ho9 {κ κ2 : zS} {w : Nat} {x y z : Int32} (e : κ2 = (mkr9 (mkr9 (mkr9 (ui (ui (ui κ hoMost w x) hoWidest w y) hoSlots w z) hoStarts w 20 ((1 : Int32)).toNatClampNeg) hoTable w 20 ((0 : Int32)).toNatClampNeg) hoPool w 20 ((16 : Int32)).toNatClampNeg)) : zOk κ2 w 6 := by
  rw [e]
  show zOk (iHo9 κ w x y z) w 6
  exact zOk_r9 Ho_r9 (fun p h1 h2 => Ho_z9 p h1 ⟨h2, (by decide +kernel : ∀ p ∈ zRT, p.1 / 100 = 6 → 20 ≤ p.2) p h1 h2⟩) (fun f h1 h2 => absurd h2 ((by decide : ∀ f ∈ zZT, f / 100 ≠ 6) f h1))
def mkW9 (κ : zS) (f a : Nat) : zS := ur (nff (iWe9 (noo κ 14) (zn κ)) (zn κ)) f a (zn κ)
def mkH9 (κ : zS) (x y z : Int32) (f a : Nat) : zS := ur (nff (iHo9 (noo κ 6) (zn κ) x y z) (zn κ)) f a (zn κ)
def iAt9 (κ : zS) (a p q : Nat) : zS := (mkr9 (mkr9 (mkr9 (mkr9 (mkr9 (mkr9 (mkr9 (mkr9 (mkr9 (mkH9 (mkH9 (mkW9 (ur (ur κ atMachine a p) atCode a q) atWeb a) 1000 142 2048 atStates a) 1000 35 2048 atEndings a) atFirsts a 20 1) atTotals a 20 0) atGains a 20 0) atPlan a 20 0) atChooses a 23 0) atHopeless a 23 0) atSorts a 20 64) atNumbers a 20 64) atWeights a 20 64)
def iOd9 (κ : zS) (a p q r : Nat) : zS := (mkr9 (mkr9 (mkr9 (mkr9 (mkr9 (mkr9 (mkr9 (mkr9 (mkr9 (mkH9 (mkn9 (ur (ur (ur κ odAtlas a p) odSolver a q) odCalc a r) 4 odHeld a) 3000 3 8192 odGroups a) odKey a 20 3) odLefts a 20 0) odRights a 20 0) odBases a 20 0) odRanks a 20 0) odCellOf a 20 0) odHeads a 20 0) odLinks a 20 0) odEdges a 24 0)
theorem At_init_c {C : zC} {n0 : Nat} {a0 : Nat} {a1 : Nat} {a2 : Nat} {κ : zS} {Q : zS → Prop} (W : zW C n0 κ) (Ta0 : zT κ a0 = 43) (Ta1 : zT κ a1 = 7) (Ta2 : zT κ a2 = 5)  (h : ∀ (κ' : zS), (κ' = iAt9 κ a0 a1 a2) → Q κ') : zRun C 2 mAt_init [.ref a0, .ref a1, .ref a2] κ (oV Q noX) := by
  refine At_init_run W Ta0 Ta1 Ta2 ?_
  replace W := W.lo (Nat.le_trans W.1.2.1 W.1.2.2) (Nat.le_refl (zn κ))
  unfold w_At_init_0
  intro κ_1 hκ_1
  intro W2
  intro κ_3 hκ_3
  intro W4
  intro κ_5 hκ_5
  intro W6
  intro T7
  refine We_init_c W6 T7  (fun κ_8 q9 => ?_)
  intro W10
  intro M11
  refine ⟨?_, ?_⟩
  · exact zOk_we9 q9  -- b1
  intro κ_12 hκ_12
  intro W13
  intro κ_14 hκ_14
  intro W15
  intro κ_16 hκ_16
  intro W17
  intro T18
  refine Ho_init_c W17 T18  (fun κ_19 q20 => ?_)
  intro W21
  intro M22
  refine ⟨?_, ?_⟩
  · exact zOk_ho9 q20  -- b2
  intro κ_23 hκ_23
  intro W24
  intro κ_25 hκ_25
  intro W26
  intro κ_27 hκ_27
  intro W28
  intro T29
  refine Ho_init_c W28 T29  (fun κ_30 q31 => ?_)
  intro W32
  intro M33
  refine ⟨?_, ?_⟩
  · exact zOk_ho9 q31  -- b3
  intro κ_34 hκ_34
  intro W35
  intro κ_36 hκ_36
  intro W37
  refine ⟨?_, ?_⟩
  · exact ⟨by decide, by decide⟩  -- b4
  intro κ_38 hκ_38
  intro W39
  refine ⟨?_, ?_⟩
  · rw [hκ_38]; exact if_pos rfl  -- b5
  intro κ_40 hκ_40
  intro W41
  refine ⟨?_, ?_⟩
  · exact ⟨by decide, by decide⟩  -- b6
  intro κ_42 hκ_42
  intro W43
  refine ⟨?_, ?_⟩
  · rw [hκ_42]; exact if_pos rfl  -- b7
  intro κ_44 hκ_44
  intro W45
  refine ⟨?_, ?_⟩
  · exact ⟨by decide, by decide⟩  -- b8
  intro κ_46 hκ_46
  intro W47
  refine ⟨?_, ?_⟩
  · rw [hκ_46]; exact if_pos rfl  -- b9
  intro κ_48 hκ_48
  intro W49
  refine ⟨?_, ?_⟩
  · exact ⟨by decide, by decide⟩  -- b10
  intro κ_50 hκ_50
  intro W51
  refine ⟨?_, ?_⟩
  · rw [hκ_50]; exact if_pos rfl  -- b11
  intro κ_52 hκ_52
  intro W53
  refine ⟨?_, ?_⟩
  · exact ⟨by decide, by decide⟩  -- b12
  intro κ_54 hκ_54
  intro W55
  refine ⟨?_, ?_⟩
  · rw [hκ_54]; exact if_pos rfl  -- b13
  intro κ_56 hκ_56
  intro W57
  refine ⟨?_, ?_⟩
  · exact ⟨by decide, by decide⟩  -- b14
  intro κ_58 hκ_58
  intro W59
  refine ⟨?_, ?_⟩
  · rw [hκ_58]; exact if_pos rfl  -- b15
  intro κ_60 hκ_60
  intro W61
  refine ⟨?_, ?_⟩
  · exact ⟨by decide, by decide⟩  -- b16
  intro κ_62 hκ_62
  intro W63
  refine ⟨?_, ?_⟩
  · rw [hκ_62]; exact if_pos rfl  -- b17
  intro κ_64 hκ_64
  intro W65
  refine ⟨?_, ?_⟩
  · exact ⟨by decide, by decide⟩  -- b18
  intro κ_66 hκ_66
  intro W67
  refine ⟨?_, ?_⟩
  · rw [hκ_66]; exact if_pos rfl  -- b19
  intro κ_68 hκ_68
  intro W69
  refine ⟨?_, ?_⟩
  · exact ⟨by decide, by decide⟩  -- b20
  intro κ_70 hκ_70
  intro W71
  refine ⟨?_, ?_⟩
  · rw [hκ_70]; exact if_pos rfl  -- b21
  intro κ_72 hκ_72
  intro W73
  refine h _ ?_
  · have s0 : κ_3 = ur (ur κ atMachine a0 a1) atCode a0 a2 := by rw [hκ_3, hκ_1]
    have w1 : κ_14 = mkW9 κ_3 atWeb a0 := by rw [hκ_14, hκ_12, q9, hκ_5]; rfl
    have w2 : κ_25 = mkH9 κ_14 1000 142 2048 atStates a0 := by rw [hκ_25, hκ_23, q20, hκ_16]; rfl
    have w3 : κ_36 = mkH9 κ_25 1000 35 2048 atEndings a0 := by rw [hκ_36, hκ_34, q31, hκ_27]; rfl
    have r91 : κ_40 = mkr9 κ_36 atFirsts a0 20 1 := by rw [hκ_40, hκ_38]; rfl
    have r92 : κ_44 = mkr9 κ_40 atTotals a0 20 0 := by rw [hκ_44, hκ_42]; rfl
    have r93 : κ_48 = mkr9 κ_44 atGains a0 20 0 := by rw [hκ_48, hκ_46]; rfl
    have r94 : κ_52 = mkr9 κ_48 atPlan a0 20 0 := by rw [hκ_52, hκ_50]; rfl
    have r95 : κ_56 = mkr9 κ_52 atChooses a0 23 0 := by rw [hκ_56, hκ_54]; rfl
    have r96 : κ_60 = mkr9 κ_56 atHopeless a0 23 0 := by rw [hκ_60, hκ_58]; rfl
    have r97 : κ_64 = mkr9 κ_60 atSorts a0 20 64 := by rw [hκ_64, hκ_62]; rfl
    have r98 : κ_68 = mkr9 κ_64 atNumbers a0 20 64 := by rw [hκ_68, hκ_66]; rfl
    have r99 : κ_72 = mkr9 κ_68 atWeights a0 20 64 := by rw [hκ_72, hκ_70]; rfl
    unfold iAt9
    rw [r99, r98, r97, r96, r95, r94, r93, r92, r91, w3, w2, w1, s0]
