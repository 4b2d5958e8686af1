set_option maxHeartbeats 1600000
/-! the class: constructors that call no other, exactly -/
/-- a row made for a field -/
def mkr9 (κ : zS) (f a t n : Nat) : zS := uo (na κ t n) f a (zn κ)
theorem Ta_init_c {C : zC} {n0 : Nat} {a0 : Nat} {κ : zS} {Q : zS → Prop} (W : zW C n0 κ) (Ta0 : zT κ a0 = 53)  (h : ∀ (κ' : zS), (κ' = (mkr9 (mkr9 (mkr9 (mkr9 κ taBytes a0 21 ((240 : Int32)).toNatClampNeg) taKinds a0 20 ((64 : Int32)).toNatClampNeg) taPlaces a0 20 ((64 : Int32)).toNatClampNeg) taLengths a0 20 ((64 : Int32)).toNatClampNeg)) → Q κ') : zRun C 1 mTa_init [.ref a0] κ (oV Q noX) := by
  refine Ta_init_run W Ta0 ?_
  replace W := W.lo (Nat.le_trans W.1.2.1 W.1.2.2) (Nat.le_refl (zn κ))
  unfold w_Ta_init_0
  refine ⟨?_, ?_⟩
  · first | exact ⟨by decide, by decide⟩ | (subst_vars; exact if_pos rfl)  -- b1
  intro κ_1 hκ_1
  intro W2
  refine ⟨?_, ?_⟩
  · first | exact ⟨by decide, by decide⟩ | (subst_vars; exact if_pos rfl)  -- b2
  intro κ_3 hκ_3
  intro W4
  refine ⟨?_, ?_⟩
  · first | exact ⟨by decide, by decide⟩ | (subst_vars; exact if_pos rfl)  -- b3
  intro κ_5 hκ_5
  intro W6
  refine ⟨?_, ?_⟩
  · first | exact ⟨by decide, by decide⟩ | (subst_vars; exact if_pos rfl)  -- b4
  intro κ_7 hκ_7
  intro W8
  refine ⟨?_, ?_⟩
  · first | exact ⟨by decide, by decide⟩ | (subst_vars; exact if_pos rfl)  -- b5
  intro κ_9 hκ_9
  intro W10
  refine ⟨?_, ?_⟩
  · first | exact ⟨by decide, by decide⟩ | (subst_vars; exact if_pos rfl)  -- b6
  intro κ_11 hκ_11
  intro W12
  refine ⟨?_, ?_⟩
  · first | exact ⟨by decide, by decide⟩ | (subst_vars; exact if_pos rfl)  -- b7
  intro κ_13 hκ_13
  intro W14
  refine ⟨?_, ?_⟩
  · first | exact ⟨by decide, by decide⟩ | (subst_vars; exact if_pos rfl)  -- b8
  intro κ_15 hκ_15
  intro W16
  refine h _ ?_
  · subst_vars; rfl  -- q9

theorem Co_init_c {C : zC} {n0 : Nat} {a0 : Nat} {κ : zS} {Q : zS → Prop} (W : zW C n0 κ) (Ta0 : zT κ a0 = 45)  (h : ∀ (κ' : zS), (κ' = (mkr9 (mkr9 (mkr9 (mkr9 (mkr9 (mkr9 (mkr9 (mkr9 (mkr9 κ coVarStarts a0 20 ((10 : Int32)).toNatClampNeg) coArrayBases a0 20 ((3 : Int32)).toNatClampNeg) coArraySizes a0 20 ((3 : Int32)).toNatClampNeg) coFirstStatements a0 20 ((10 : Int32)).toNatClampNeg) coNameCounts a0 20 ((10 : Int32)).toNatClampNeg) coOwnCounts a0 20 ((10 : Int32)).toNatClampNeg) coRows a0 20 ((88 : Int32)).toNatClampNeg) coOps a0 20 ((64 : Int32)).toNatClampNeg) coArgs a0 20 ((64 : Int32)).toNatClampNeg)) → Q κ') : zRun C 1 mCo_init [.ref a0] κ (oV Q noX) := by
  refine Co_init_run W Ta0 ?_
  replace W := W.lo (Nat.le_trans W.1.2.1 W.1.2.2) (Nat.le_refl (zn κ))
  unfold w_Co_init_0
  refine ⟨?_, ?_⟩
  · first | exact ⟨by decide, by decide⟩ | (subst_vars; exact if_pos rfl)  -- b1
  intro κ_1 hκ_1
  intro W2
  refine ⟨?_, ?_⟩
  · first | exact ⟨by decide, by decide⟩ | (subst_vars; exact if_pos rfl)  -- b2
  intro κ_3 hκ_3
  intro W4
  refine ⟨?_, ?_⟩
  · first | exact ⟨by decide, by decide⟩ | (subst_vars; exact if_pos rfl)  -- b3
  intro κ_5 hκ_5
  intro W6
  refine ⟨?_, ?_⟩
  · first | exact ⟨by decide, by decide⟩ | (subst_vars; exact if_pos rfl)  -- b4
  intro κ_7 hκ_7
  intro W8
  refine ⟨?_, ?_⟩
  · first | exact ⟨by decide, by decide⟩ | (subst_vars; exact if_pos rfl)  -- b5
  intro κ_9 hκ_9
  intro W10
  refine ⟨?_, ?_⟩
  · first | exact ⟨by decide, by decide⟩ | (subst_vars; exact if_pos rfl)  -- b6
  intro κ_11 hκ_11
  intro W12
  refine ⟨?_, ?_⟩
  · first | exact ⟨by decide, by decide⟩ | (subst_vars; exact if_pos rfl)  -- b7
  intro κ_13 hκ_13
  intro W14
  refine ⟨?_, ?_⟩
  · first | exact ⟨by decide, by decide⟩ | (subst_vars; exact if_pos rfl)  -- b8
  intro κ_15 hκ_15
  intro W16
  refine ⟨?_, ?_⟩
  · first | exact ⟨by decide, by decide⟩ | (subst_vars; exact if_pos rfl)  -- b9
  intro κ_17 hκ_17
  intro W18
  refine ⟨?_, ?_⟩
  · first | exact ⟨by decide, by decide⟩ | (subst_vars; exact if_pos rfl)  -- b10
  intro κ_19 hκ_19
  intro W20
  refine ⟨?_, ?_⟩
  · first | exact ⟨by decide, by decide⟩ | (subst_vars; exact if_pos rfl)  -- b11
  intro κ_21 hκ_21
  intro W22
  refine ⟨?_, ?_⟩
  · first | exact ⟨by decide, by decide⟩ | (subst_vars; exact if_pos rfl)  -- b12
  intro κ_23 hκ_23
  intro W24
  refine ⟨?_, ?_⟩
  · first | exact ⟨by decide, by decide⟩ | (subst_vars; exact if_pos rfl)  -- b13
  intro κ_25 hκ_25
  intro W26
  refine ⟨?_, ?_⟩
  · first | exact ⟨by decide, by decide⟩ | (subst_vars; exact if_pos rfl)  -- b14
  intro κ_27 hκ_27
  intro W28
  refine ⟨?_, ?_⟩
  · first | exact ⟨by decide, by decide⟩ | (subst_vars; exact if_pos rfl)  -- b15
  intro κ_29 hκ_29
  intro W30
  refine ⟨?_, ?_⟩
  · first | exact ⟨by decide, by decide⟩ | (subst_vars; exact if_pos rfl)  -- b16
  intro κ_31 hκ_31
  intro W32
  refine ⟨?_, ?_⟩
  · first | exact ⟨by decide, by decide⟩ | (subst_vars; exact if_pos rfl)  -- b17
  intro κ_33 hκ_33
  intro W34
  refine ⟨?_, ?_⟩
  · first | exact ⟨by decide, by decide⟩ | (subst_vars; exact if_pos rfl)  -- b18
  intro κ_35 hκ_35
  intro W36
  refine h _ ?_
  · subst_vars; rfl  -- q19

theorem Pa_init_c {C : zC} {n0 : Nat} {a0 : Nat} {a1 : Nat} {a2 : Nat} {κ : zS} {Q : zS → Prop} (W : zW C n0 κ) (Ta0 : zT κ a0 = 50) (Ta1 : zT κ a1 = 13) (Ta2 : zT κ a2 = 5)  (h : ∀ (κ' : zS), (κ' = (mkr9 (mkr9 (mkr9 (mkr9 (mkr9 (mkr9 (mkr9 (mkr9 (ur (ur κ paTape a0 a1) paCode a0 a2) paVarNames a0 20 ((10 : Int32)).toNatClampNeg) paArrayNames a0 20 ((3 : Int32)).toNatClampNeg) paFunctionNames a0 20 ((10 : Int32)).toNatClampNeg) paOwnNames a0 20 ((8 : Int32)).toNatClampNeg) paOwners a0 20 ((41 : Int32)).toNatClampNeg) paLasts a0 20 ((41 : Int32)).toNatClampNeg) paElses a0 23 ((41 : Int32)).toNatClampNeg) paWaiting a0 20 ((16 : Int32)).toNatClampNeg)) → Q κ') : zRun C 1 mPa_init [.ref a0, .ref a1, .ref a2] κ (oV Q noX) := by
  refine Pa_init_run W Ta0 Ta1 Ta2 ?_
  replace W := W.lo (Nat.le_trans W.1.2.1 W.1.2.2) (Nat.le_refl (zn κ))
  unfold w_Pa_init_0
  intro κ_1 hκ_1
  intro W2
  intro κ_3 hκ_3
  intro W4
  refine ⟨?_, ?_⟩
  · first | exact ⟨by decide, by decide⟩ | (subst_vars; exact if_pos rfl)  -- b1
  intro κ_5 hκ_5
  intro W6
  refine ⟨?_, ?_⟩
  · first | exact ⟨by decide, by decide⟩ | (subst_vars; exact if_pos rfl)  -- b2
  intro κ_7 hκ_7
  intro W8
  refine ⟨?_, ?_⟩
  · first | exact ⟨by decide, by decide⟩ | (subst_vars; exact if_pos rfl)  -- b3
  intro κ_9 hκ_9
  intro W10
  refine ⟨?_, ?_⟩
  · first | exact ⟨by decide, by decide⟩ | (subst_vars; exact if_pos rfl)  -- b4
  intro κ_11 hκ_11
  intro W12
  refine ⟨?_, ?_⟩
  · first | exact ⟨by decide, by decide⟩ | (subst_vars; exact if_pos rfl)  -- b5
  intro κ_13 hκ_13
  intro W14
  refine ⟨?_, ?_⟩
  · first | exact ⟨by decide, by decide⟩ | (subst_vars; exact if_pos rfl)  -- b6
  intro κ_15 hκ_15
  intro W16
  refine ⟨?_, ?_⟩
  · first | exact ⟨by decide, by decide⟩ | (subst_vars; exact if_pos rfl)  -- b7
  intro κ_17 hκ_17
  intro W18
  refine ⟨?_, ?_⟩
  · first | exact ⟨by decide, by decide⟩ | (subst_vars; exact if_pos rfl)  -- b8
  intro κ_19 hκ_19
  intro W20
  refine ⟨?_, ?_⟩
  · first | exact ⟨by decide, by decide⟩ | (subst_vars; exact if_pos rfl)  -- b9
  intro κ_21 hκ_21
  intro W22
  refine ⟨?_, ?_⟩
  · first | exact ⟨by decide, by decide⟩ | (subst_vars; exact if_pos rfl)  -- b10
  intro κ_23 hκ_23
  intro W24
  refine ⟨?_, ?_⟩
  · first | exact ⟨by decide, by decide⟩ | (subst_vars; exact if_pos rfl)  -- b11
  intro κ_25 hκ_25
  intro W26
  refine ⟨?_, ?_⟩
  · first | exact ⟨by decide, by decide⟩ | (subst_vars; exact if_pos rfl)  -- b12
  intro κ_27 hκ_27
  intro W28
  refine ⟨?_, ?_⟩
  · first | exact ⟨by decide, by decide⟩ | (subst_vars; exact if_pos rfl)  -- b13
  intro κ_29 hκ_29
  intro W30
  refine ⟨?_, ?_⟩
  · first | exact ⟨by decide, by decide⟩ | (subst_vars; exact if_pos rfl)  -- b14
  intro κ_31 hκ_31
  intro W32
  refine ⟨?_, ?_⟩
  · first | exact ⟨by decide, by decide⟩ | (subst_vars; exact if_pos rfl)  -- b15
  intro κ_33 hκ_33
  intro W34
  refine ⟨?_, ?_⟩
  · first | exact ⟨by decide, by decide⟩ | (subst_vars; exact if_pos rfl)  -- b16
  intro κ_35 hκ_35
  intro W36
  refine h _ ?_
  · subst_vars; rfl  -- q17

theorem Ho_init_c {C : zC} {n0 : Nat} {a0 : Nat} {a1 : Int32} {a2 : Int32} {a3 : Int32} {κ : zS} {Q : zS → Prop} (W : zW C n0 κ) (Ta0 : zT κ a0 = 46)  (h : ∀ (κ' : zS), (κ' = (mkr9 (mkr9 (mkr9 (ui (ui (ui κ hoMost a0 a1) hoWidest a0 a2) hoSlots a0 a3) hoStarts a0 20 ((1 : Int32)).toNatClampNeg) hoTable a0 20 ((0 : Int32)).toNatClampNeg) hoPool a0 20 ((16 : Int32)).toNatClampNeg)) → Q κ') : zRun C 1 mHo_init [.ref a0, .int a1, .int a2, .int a3] κ (oV Q noX) := by
  refine Ho_init_run W Ta0 ?_
  replace W := W.lo (Nat.le_trans W.1.2.1 W.1.2.2) (Nat.le_refl (zn κ))
  unfold w_Ho_init_0
  intro κ_1 hκ_1
  intro W2
  intro κ_3 hκ_3
  intro W4
  intro κ_5 hκ_5
  intro W6
  refine ⟨?_, ?_⟩
  · first | exact ⟨by decide, by decide⟩ | (subst_vars; exact if_pos rfl)  -- b1
  intro κ_7 hκ_7
  intro W8
  refine ⟨?_, ?_⟩
  · first | exact ⟨by decide, by decide⟩ | (subst_vars; exact if_pos rfl)  -- b2
  intro κ_9 hκ_9
  intro W10
  refine ⟨?_, ?_⟩
  · first | exact ⟨by decide, by decide⟩ | (subst_vars; exact if_pos rfl)  -- b3
  intro κ_11 hκ_11
  intro W12
  refine ⟨?_, ?_⟩
  · first | exact ⟨by decide, by decide⟩ | (subst_vars; exact if_pos rfl)  -- b4
  intro κ_13 hκ_13
  intro W14
  refine ⟨?_, ?_⟩
  · first | exact ⟨by decide, by decide⟩ | (subst_vars; exact if_pos rfl)  -- b5
  intro κ_15 hκ_15
  intro W16
  refine ⟨?_, ?_⟩
  · first | exact ⟨by decide, by decide⟩ | (subst_vars; exact if_pos rfl)  -- b6
  intro κ_17 hκ_17
  intro W18
  refine h _ ?_
  · subst_vars; rfl  -- q7

theorem We_init_c {C : zC} {n0 : Nat} {a0 : Nat} {κ : zS} {Q : zS → Prop} (W : zW C n0 κ) (Ta0 : zT κ a0 = 54)  (h : ∀ (κ' : zS), (κ' = (mkr9 (mkr9 (mkr9 (mkr9 (mkr9 (mkr9 (mkr9 (mkr9 (mkr9 (mkr9 (mkr9 (mkr9 (mkr9 (mkr9 κ weFirsts a0 20 ((1 : Int32)).toNatClampNeg) weTargets a0 20 ((64 : Int32)).toNatClampNeg) weBackFirsts a0 20 ((1 : Int32)).toNatClampNeg) weSources a0 20 ((64 : Int32)).toNatClampNeg) weEdges a0 20 ((64 : Int32)).toNatClampNeg) weOpen a0 23 ((0 : Int32)).toNatClampNeg) weKnotFirsts a0 20 ((1 : Int32)).toNatClampNeg) weKnotOf a0 20 ((0 : Int32)).toNatClampNeg) weOrder a0 20 ((0 : Int32)).toNatClampNeg) weSeen a0 20 ((0 : Int32)).toNatClampNeg) weLow a0 20 ((0 : Int32)).toNatClampNeg) weCursor a0 20 ((0 : Int32)).toNatClampNeg) wePath a0 20 ((0 : Int32)).toNatClampNeg) weHeap a0 20 ((0 : Int32)).toNatClampNeg)) → Q κ') : zRun C 1 mWe_init [.ref a0] κ (oV Q noX) := by
  refine We_init_run W Ta0 ?_
  replace W := W.lo (Nat.le_trans W.1.2.1 W.1.2.2) (Nat.le_refl (zn κ))
  unfold w_We_init_0
  refine ⟨?_, ?_⟩
  · first | exact ⟨by decide, by decide⟩ | (subst_vars; exact if_pos rfl)  -- b1
  intro κ_1 hκ_1
  intro W2
  refine ⟨?_, ?_⟩
  · first | exact ⟨by decide, by decide⟩ | (subst_vars; exact if_pos rfl)  -- b2
  intro κ_3 hκ_3
  intro W4
  refine ⟨?_, ?_⟩
  · first | exact ⟨by decide, by decide⟩ | (subst_vars; exact if_pos rfl)  -- b3
  intro κ_5 hκ_5
  intro W6
  refine ⟨?_, ?_⟩
  · first | exact ⟨by decide, by decide⟩ | (subst_vars; exact if_pos rfl)  -- b4
  intro κ_7 hκ_7
  intro W8
  refine ⟨?_, ?_⟩
  · first | exact ⟨by decide, by decide⟩ | (subst_vars; exact if_pos rfl)  -- b5
  intro κ_9 hκ_9
  intro W10
  refine ⟨?_, ?_⟩
  · first | exact ⟨by decide, by decide⟩ | (subst_vars; exact if_pos rfl)  -- b6
  intro κ_11 hκ_11
  intro W12
  refine ⟨?_, ?_⟩
  · first | exact ⟨by decide, by decide⟩ | (subst_vars; exact if_pos rfl)  -- b7
  intro κ_13 hκ_13
  intro W14
  refine ⟨?_, ?_⟩
  · first | exact ⟨by decide, by decide⟩ | (subst_vars; exact if_pos rfl)  -- b8
  intro κ_15 hκ_15
  intro W16
  refine ⟨?_, ?_⟩
  · first | exact ⟨by decide, by decide⟩ | (subst_vars; exact if_pos rfl)  -- b9
  intro κ_17 hκ_17
  intro W18
  refine ⟨?_, ?_⟩
  · first | exact ⟨by decide, by decide⟩ | (subst_vars; exact if_pos rfl)  -- b10
  intro κ_19 hκ_19
  intro W20
  refine ⟨?_, ?_⟩
  · first | exact ⟨by decide, by decide⟩ | (subst_vars; exact if_pos rfl)  -- b11
  intro κ_21 hκ_21
  intro W22
  refine ⟨?_, ?_⟩
  · first | exact ⟨by decide, by decide⟩ | (subst_vars; exact if_pos rfl)  -- b12
  intro κ_23 hκ_23
  intro W24
  refine ⟨?_, ?_⟩
  · first | exact ⟨by decide, by decide⟩ | (subst_vars; exact if_pos rfl)  -- b13
  intro κ_25 hκ_25
  intro W26
  refine ⟨?_, ?_⟩
  · first | exact ⟨by decide, by decide⟩ | (subst_vars; exact if_pos rfl)  -- b14
  intro κ_27 hκ_27
  intro W28
  refine ⟨?_, ?_⟩
  · first | exact ⟨by decide, by decide⟩ | (subst_vars; exact if_pos rfl)  -- b15
  intro κ_29 hκ_29
  intro W30
  refine ⟨?_, ?_⟩
  · first | exact ⟨by decide, by decide⟩ | (subst_vars; exact if_pos rfl)  -- b16
  intro κ_31 hκ_31
  intro W32
  refine ⟨?_, ?_⟩
  · first | exact ⟨by decide, by decide⟩ | (subst_vars; exact if_pos rfl)  -- b17
  intro κ_33 hκ_33
  intro W34
  refine ⟨?_, ?_⟩
  · first | exact ⟨by decide, by decide⟩ | (subst_vars; exact if_pos rfl)  -- b18
  intro κ_35 hκ_35
  intro W36
  refine ⟨?_, ?_⟩
  · first | exact ⟨by decide, by decide⟩ | (subst_vars; exact if_pos rfl)  -- b19
  intro κ_37 hκ_37
  intro W38
  refine ⟨?_, ?_⟩
  · first | exact ⟨by decide, by decide⟩ | (subst_vars; exact if_pos rfl)  -- b20
  intro κ_39 hκ_39
  intro W40
  refine ⟨?_, ?_⟩
  · first | exact ⟨by decide, by decide⟩ | (subst_vars; exact if_pos rfl)  -- b21
  intro κ_41 hκ_41
  intro W42
  refine ⟨?_, ?_⟩
  · first | exact ⟨by decide, by decide⟩ | (subst_vars; exact if_pos rfl)  -- b22
  intro κ_43 hκ_43
  intro W44
  refine ⟨?_, ?_⟩
  · first | exact ⟨by decide, by decide⟩ | (subst_vars; exact if_pos rfl)  -- b23
  intro κ_45 hκ_45
  intro W46
  refine ⟨?_, ?_⟩
  · first | exact ⟨by decide, by decide⟩ | (subst_vars; exact if_pos rfl)  -- b24
  intro κ_47 hκ_47
  intro W48
  refine ⟨?_, ?_⟩
  · first | exact ⟨by decide, by decide⟩ | (subst_vars; exact if_pos rfl)  -- b25
  intro κ_49 hκ_49
  intro W50
  refine ⟨?_, ?_⟩
  · first | exact ⟨by decide, by decide⟩ | (subst_vars; exact if_pos rfl)  -- b26
  intro κ_51 hκ_51
  intro W52
  refine ⟨?_, ?_⟩
  · first | exact ⟨by decide, by decide⟩ | (subst_vars; exact if_pos rfl)  -- b27
  intro κ_53 hκ_53
  intro W54
  refine ⟨?_, ?_⟩
  · first | exact ⟨by decide, by decide⟩ | (subst_vars; exact if_pos rfl)  -- b28
  intro κ_55 hκ_55
  intro W56
  refine h _ ?_
  · subst_vars; rfl  -- q29

theorem Ma_init_c {C : zC} {n0 : Nat} {a0 : Nat} {a1 : Nat} {κ : zS} {Q : zS → Prop} (W : zW C n0 κ) (Ta0 : zT κ a0 = 47) (Ta1 : zT κ a1 = 5)  (h : ∀ (κ' : zS), (κ' = (mkr9 (mkr9 (mkr9 (mkr9 (mkr9 (ur κ maCode a0 a1) maMemory a0 20 ((142 : Int32)).toNatClampNeg) maStack a0 20 ((256 : Int32)).toNatClampNeg) maWorked a0 20 ((16 : Int32)).toNatClampNeg) maValues a0 20 ((64 : Int32)).toNatClampNeg) maWeights a0 20 ((64 : Int32)).toNatClampNeg)) → Q κ') : zRun C 1 mMa_init [.ref a0, .ref a1] κ (oV Q noX) := by
  refine Ma_init_run W Ta0 Ta1 ?_
  replace W := W.lo (Nat.le_trans W.1.2.1 W.1.2.2) (Nat.le_refl (zn κ))
  unfold w_Ma_init_0
  intro κ_1 hκ_1
  intro W2
  refine ⟨?_, ?_⟩
  · first | exact ⟨by decide, by decide⟩ | (subst_vars; exact if_pos rfl)  -- b1
  intro κ_3 hκ_3
  intro W4
  refine ⟨?_, ?_⟩
  · first | exact ⟨by decide, by decide⟩ | (subst_vars; exact if_pos rfl)  -- b2
  intro κ_5 hκ_5
  intro W6
  refine ⟨?_, ?_⟩
  · first | exact ⟨by decide, by decide⟩ | (subst_vars; exact if_pos rfl)  -- b3
  intro κ_7 hκ_7
  intro W8
  refine ⟨?_, ?_⟩
  · first | exact ⟨by decide, by decide⟩ | (subst_vars; exact if_pos rfl)  -- b4
  intro κ_9 hκ_9
  intro W10
  refine ⟨?_, ?_⟩
  · first | exact ⟨by decide, by decide⟩ | (subst_vars; exact if_pos rfl)  -- b5
  intro κ_11 hκ_11
  intro W12
  refine ⟨?_, ?_⟩
  · first | exact ⟨by decide, by decide⟩ | (subst_vars; exact if_pos rfl)  -- b6
  intro κ_13 hκ_13
  intro W14
  refine ⟨?_, ?_⟩
  · first | exact ⟨by decide, by decide⟩ | (subst_vars; exact if_pos rfl)  -- b7
  intro κ_15 hκ_15
  intro W16
  refine ⟨?_, ?_⟩
  · first | exact ⟨by decide, by decide⟩ | (subst_vars; exact if_pos rfl)  -- b8
  intro κ_17 hκ_17
  intro W18
  refine ⟨?_, ?_⟩
  · first | exact ⟨by decide, by decide⟩ | (subst_vars; exact if_pos rfl)  -- b9
  intro κ_19 hκ_19
  intro W20
  refine ⟨?_, ?_⟩
  · first | exact ⟨by decide, by decide⟩ | (subst_vars; exact if_pos rfl)  -- b10
  intro κ_21 hκ_21
  intro W22
  refine h _ ?_
  · subst_vars; rfl  -- q11
