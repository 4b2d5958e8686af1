/-! methods of the class: We_init, Ho_init, At_init, Ar_fill, Ho_clear, At_clear, At_holds, At_holdsEnding, At_waysOf, At_divisorOf, At_isTaken, Co_shared, Ho_lengthOf, At_callsOf, Ho_part, At_statementOf, Co_column, Co_isShared, At_hasVariable, At_variableOf -/
theorem dX11_init_0 : decode cX11_init 0 = .ok (.aload_n 0, 1) := by decide +kernel
theorem dX11_init_1 : decode cX11_init 1 = .ok (.invokespecial 3, 3) := by decide +kernel
theorem dX11_init_4 : decode cX11_init 4 = .ok (.aload_n 0, 1) := by decide +kernel
theorem dX11_init_5 : decode cX11_init 5 = .ok (.iconst 1, 1) := by decide +kernel
theorem dX11_init_6 : decode cX11_init 6 = .ok (.newarray .int, 2) := by decide +kernel
theorem dX11_init_8 : decode cX11_init 8 = .ok (.putfield 9, 3) := by decide +kernel
theorem dX11_init_11 : decode cX11_init 11 = .ok (.aload_n 0, 1) := by decide +kernel
theorem dX11_init_12 : decode cX11_init 12 = .ok (.bipush 64, 2) := by decide +kernel
theorem dX11_init_14 : decode cX11_init 14 = .ok (.newarray .int, 2) := by decide +kernel
theorem dX11_init_16 : decode cX11_init 16 = .ok (.putfield 15, 3) := by decide +kernel
theorem dX11_init_19 : decode cX11_init 19 = .ok (.aload_n 0, 1) := by decide +kernel
theorem dX11_init_20 : decode cX11_init 20 = .ok (.iconst 1, 1) := by decide +kernel
theorem dX11_init_21 : decode cX11_init 21 = .ok (.newarray .int, 2) := by decide +kernel
theorem dX11_init_23 : decode cX11_init 23 = .ok (.putfield 18, 3) := by decide +kernel
theorem dX11_init_26 : decode cX11_init 26 = .ok (.aload_n 0, 1) := by decide +kernel
theorem dX11_init_27 : decode cX11_init 27 = .ok (.bipush 64, 2) := by decide +kernel
theorem dX11_init_29 : decode cX11_init 29 = .ok (.newarray .int, 2) := by decide +kernel
theorem dX11_init_31 : decode cX11_init 31 = .ok (.putfield 21, 3) := by decide +kernel
theorem dX11_init_34 : decode cX11_init 34 = .ok (.aload_n 0, 1) := by decide +kernel
theorem dX11_init_35 : decode cX11_init 35 = .ok (.bipush 64, 2) := by decide +kernel
theorem dX11_init_37 : decode cX11_init 37 = .ok (.newarray .int, 2) := by decide +kernel
theorem dX11_init_39 : decode cX11_init 39 = .ok (.putfield 24, 3) := by decide +kernel
theorem dX11_init_42 : decode cX11_init 42 = .ok (.aload_n 0, 1) := by decide +kernel
theorem dX11_init_43 : decode cX11_init 43 = .ok (.iconst 0, 1) := by decide +kernel
theorem dX11_init_44 : decode cX11_init 44 = .ok (.newarray .boolean, 2) := by decide +kernel
theorem dX11_init_46 : decode cX11_init 46 = .ok (.putfield 27, 3) := by decide +kernel
theorem dX11_init_49 : decode cX11_init 49 = .ok (.aload_n 0, 1) := by decide +kernel
theorem dX11_init_50 : decode cX11_init 50 = .ok (.iconst 1, 1) := by decide +kernel
theorem dX11_init_51 : decode cX11_init 51 = .ok (.newarray .int, 2) := by decide +kernel
theorem dX11_init_53 : decode cX11_init 53 = .ok (.putfield 31, 3) := by decide +kernel
theorem dX11_init_56 : decode cX11_init 56 = .ok (.aload_n 0, 1) := by decide +kernel
theorem dX11_init_57 : decode cX11_init 57 = .ok (.iconst 0, 1) := by decide +kernel
theorem dX11_init_58 : decode cX11_init 58 = .ok (.newarray .int, 2) := by decide +kernel
theorem dX11_init_60 : decode cX11_init 60 = .ok (.putfield 34, 3) := by decide +kernel
theorem dX11_init_63 : decode cX11_init 63 = .ok (.aload_n 0, 1) := by decide +kernel
theorem dX11_init_64 : decode cX11_init 64 = .ok (.iconst 0, 1) := by decide +kernel
theorem dX11_init_65 : decode cX11_init 65 = .ok (.newarray .int, 2) := by decide +kernel
theorem dX11_init_67 : decode cX11_init 67 = .ok (.putfield 37, 3) := by decide +kernel
theorem dX11_init_70 : decode cX11_init 70 = .ok (.aload_n 0, 1) := by decide +kernel
theorem dX11_init_71 : decode cX11_init 71 = .ok (.iconst 0, 1) := by decide +kernel
theorem dX11_init_72 : decode cX11_init 72 = .ok (.newarray .int, 2) := by decide +kernel
theorem dX11_init_74 : decode cX11_init 74 = .ok (.putfield 40, 3) := by decide +kernel
theorem dX11_init_77 : decode cX11_init 77 = .ok (.aload_n 0, 1) := by decide +kernel
theorem dX11_init_78 : decode cX11_init 78 = .ok (.iconst 0, 1) := by decide +kernel
theorem dX11_init_79 : decode cX11_init 79 = .ok (.newarray .int, 2) := by decide +kernel
theorem dX11_init_81 : decode cX11_init 81 = .ok (.putfield 43, 3) := by decide +kernel
theorem dX11_init_84 : decode cX11_init 84 = .ok (.aload_n 0, 1) := by decide +kernel
theorem dX11_init_85 : decode cX11_init 85 = .ok (.iconst 0, 1) := by decide +kernel
theorem dX11_init_86 : decode cX11_init 86 = .ok (.newarray .int, 2) := by decide +kernel
theorem dX11_init_88 : decode cX11_init 88 = .ok (.putfield 46, 3) := by decide +kernel
theorem dX11_init_91 : decode cX11_init 91 = .ok (.aload_n 0, 1) := by decide +kernel
theorem dX11_init_92 : decode cX11_init 92 = .ok (.iconst 0, 1) := by decide +kernel
theorem dX11_init_93 : decode cX11_init 93 = .ok (.newarray .int, 2) := by decide +kernel
theorem dX11_init_95 : decode cX11_init 95 = .ok (.putfield 49, 3) := by decide +kernel
theorem dX11_init_98 : decode cX11_init 98 = .ok (.aload_n 0, 1) := by decide +kernel
theorem dX11_init_99 : decode cX11_init 99 = .ok (.iconst 0, 1) := by decide +kernel
theorem dX11_init_100 : decode cX11_init 100 = .ok (.newarray .int, 2) := by decide +kernel
theorem dX11_init_102 : decode cX11_init 102 = .ok (.putfield 52, 3) := by decide +kernel
theorem dX11_init_105 : decode cX11_init 105 = .ok (.return_, 1) := by decide +kernel
def w_We_init_0 (C : zC) (n0 : Nat) (Q : zS → Prop)  (a0 : Nat) (κ : zS) : Prop :=
  nsz (1 : Int32) ∧
  ∀ κ1, κ1 = na κ 20 ((1 : Int32)).toNatClampNeg →
  ∀ _ : zW C n0 κ1,
  zO κ1 (zn κ) = (0, 0) ∧
  ∀ κ4, κ4 = uo κ1 weFirsts a0 (zn κ) →
  ∀ _ : zW C n0 κ4,
  nsz (64 : Int32) ∧
  ∀ κ7, κ7 = na κ4 20 ((64 : Int32)).toNatClampNeg →
  ∀ _ : zW C n0 κ7,
  zO κ7 (zn κ4) = (0, 0) ∧
  ∀ κ10, κ10 = uo κ7 weTargets a0 (zn κ4) →
  ∀ _ : zW C n0 κ10,
  nsz (1 : Int32) ∧
  ∀ κ13, κ13 = na κ10 20 ((1 : Int32)).toNatClampNeg →
  ∀ _ : zW C n0 κ13,
  zO κ13 (zn κ10) = (0, 0) ∧
  ∀ κ16, κ16 = uo κ13 weBackFirsts a0 (zn κ10) →
  ∀ _ : zW C n0 κ16,
  nsz (64 : Int32) ∧
  ∀ κ19, κ19 = na κ16 20 ((64 : Int32)).toNatClampNeg →
  ∀ _ : zW C n0 κ19,
  zO κ19 (zn κ16) = (0, 0) ∧
  ∀ κ22, κ22 = uo κ19 weSources a0 (zn κ16) →
  ∀ _ : zW C n0 κ22,
  nsz (64 : Int32) ∧
  ∀ κ25, κ25 = na κ22 20 ((64 : Int32)).toNatClampNeg →
  ∀ _ : zW C n0 κ25,
  zO κ25 (zn κ22) = (0, 0) ∧
  ∀ κ28, κ28 = uo κ25 weEdges a0 (zn κ22) →
  ∀ _ : zW C n0 κ28,
  nsz (0 : Int32) ∧
  ∀ κ31, κ31 = na κ28 23 ((0 : Int32)).toNatClampNeg →
  ∀ _ : zW C n0 κ31,
  zO κ31 (zn κ28) = (0, 0) ∧
  ∀ κ34, κ34 = uo κ31 weOpen a0 (zn κ28) →
  ∀ _ : zW C n0 κ34,
  nsz (1 : Int32) ∧
  ∀ κ37, κ37 = na κ34 20 ((1 : Int32)).toNatClampNeg →
  ∀ _ : zW C n0 κ37,
  zO κ37 (zn κ34) = (0, 0) ∧
  ∀ κ40, κ40 = uo κ37 weKnotFirsts a0 (zn κ34) →
  ∀ _ : zW C n0 κ40,
  nsz (0 : Int32) ∧
  ∀ κ43, κ43 = na κ40 20 ((0 : Int32)).toNatClampNeg →
  ∀ _ : zW C n0 κ43,
  zO κ43 (zn κ40) = (0, 0) ∧
  ∀ κ46, κ46 = uo κ43 weKnotOf a0 (zn κ40) →
  ∀ _ : zW C n0 κ46,
  nsz (0 : Int32) ∧
  ∀ κ49, κ49 = na κ46 20 ((0 : Int32)).toNatClampNeg →
  ∀ _ : zW C n0 κ49,
  zO κ49 (zn κ46) = (0, 0) ∧
  ∀ κ52, κ52 = uo κ49 weOrder a0 (zn κ46) →
  ∀ _ : zW C n0 κ52,
  nsz (0 : Int32) ∧
  ∀ κ55, κ55 = na κ52 20 ((0 : Int32)).toNatClampNeg →
  ∀ _ : zW C n0 κ55,
  zO κ55 (zn κ52) = (0, 0) ∧
  ∀ κ58, κ58 = uo κ55 weSeen a0 (zn κ52) →
  ∀ _ : zW C n0 κ58,
  nsz (0 : Int32) ∧
  ∀ κ61, κ61 = na κ58 20 ((0 : Int32)).toNatClampNeg →
  ∀ _ : zW C n0 κ61,
  zO κ61 (zn κ58) = (0, 0) ∧
  ∀ κ64, κ64 = uo κ61 weLow a0 (zn κ58) →
  ∀ _ : zW C n0 κ64,
  nsz (0 : Int32) ∧
  ∀ κ67, κ67 = na κ64 20 ((0 : Int32)).toNatClampNeg →
  ∀ _ : zW C n0 κ67,
  zO κ67 (zn κ64) = (0, 0) ∧
  ∀ κ70, κ70 = uo κ67 weCursor a0 (zn κ64) →
  ∀ _ : zW C n0 κ70,
  nsz (0 : Int32) ∧
  ∀ κ73, κ73 = na κ70 20 ((0 : Int32)).toNatClampNeg →
  ∀ _ : zW C n0 κ73,
  zO κ73 (zn κ70) = (0, 0) ∧
  ∀ κ76, κ76 = uo κ73 wePath a0 (zn κ70) →
  ∀ _ : zW C n0 κ76,
  nsz (0 : Int32) ∧
  ∀ κ79, κ79 = na κ76 20 ((0 : Int32)).toNatClampNeg →
  ∀ _ : zW C n0 κ79,
  zO κ79 (zn κ76) = (0, 0) ∧
  ∀ κ82, κ82 = uo κ79 weHeap a0 (zn κ76) →
  ∀ _ : zW C n0 κ82,
  Q κ82
theorem t_We_init_0 {C : zC} {n0 : Nat} {Q : zS → Prop}   {a0 : Nat} {κ : zS} (W : zW C n0 κ) (Ta0 : zT κ a0 = 54) (F : w_We_init_0 C n0 Q  a0 κ) : zG C n0 1 mWe_init 0 [some (.ref a0)] [] κ (oV Q noX) := by
  unfold w_We_init_0 at F
  refine y_aln dX11_init_0 rfl ?_
  refine y_oinit dX11_init_1 rfl zbi_X11_3 (Nat.le_of_ble_eq_true rfl) (Nat.le_of_ble_eq_true rfl) ?_
  refine y_aln dX11_init_4 rfl ?_
  refine y_ic dX11_init_5 zi_1 ?_
  have b2 := F.1
  refine y_newa (t := 0) W dX11_init_6 (by decide) b2 (fun κ1 eκ1 => ?_)
  replace F := F.2 κ1 eκ1
  have Wκ1 : zW C n0 κ1 := zW_na W eκ1 (by decide) (by decide) b2.2
  have Mκ1 : zM (zn κ) κ κ1 := zM_na (W.lo (Nat.le_trans W.1.2.1 W.1.2.2) (Nat.le_refl _)) eκ1
  replace F := F Wκ1
  have g3 : zT κ1 (zn κ) = 20 := by rw [eκ1]; exact if_pos rfl
  have b5 := F.1
  replace F := F.2
  have h6 := (ztm W Mκ1 Ta0)
  refine pf_X11_9 Wκ1 dX11_init_8 rfl (Or.inr h6) g3 (fun κ4 eκ4 => ?_)
  replace F := F κ4 eκ4
  have Wκ4 : zW C n0 κ4 := zW_uo Wκ1 eκ4 (fun t ht => by cases ht; exact g3) b5
  have Mκ4 : zM (zn κ1) κ1 κ4 := by rw [eκ4]; exact zM.of rfl rfl rfl
  replace F := F Wκ4
  refine y_aln dX11_init_11 rfl ?_
  refine y_bi1 dX11_init_12 zb_64 ?_
  have b8 := F.1
  refine y_newa (t := 0) Wκ4 dX11_init_14 (by decide) b8 (fun κ7 eκ7 => ?_)
  replace F := F.2 κ7 eκ7
  have Wκ7 : zW C n0 κ7 := zW_na Wκ4 eκ7 (by decide) (by decide) b8.2
  have Mκ7 : zM (zn κ4) κ4 κ7 := zM_na (Wκ4.lo (Nat.le_trans Wκ4.1.2.1 Wκ4.1.2.2) (Nat.le_refl _)) eκ7
  replace F := F Wκ7
  have g9 : zT κ7 (zn κ4) = 20 := by rw [eκ7]; exact if_pos rfl
  have b11 := F.1
  replace F := F.2
  have h12 := (ztm Wκ4 Mκ7 (ztm Wκ1 Mκ4 h6))
  refine pf_X11_15 Wκ7 dX11_init_16 rfl (Or.inr h12) g9 (fun κ10 eκ10 => ?_)
  replace F := F κ10 eκ10
  have Wκ10 : zW C n0 κ10 := zW_uo Wκ7 eκ10 (fun t ht => by cases ht; exact g9) b11
  have Mκ10 : zM (zn κ7) κ7 κ10 := by rw [eκ10]; exact zM.of rfl rfl rfl
  replace F := F Wκ10
  refine y_aln dX11_init_19 rfl ?_
  refine y_ic dX11_init_20 zi_1 ?_
  have b14 := F.1
  refine y_newa (t := 0) Wκ10 dX11_init_21 (by decide) b14 (fun κ13 eκ13 => ?_)
  replace F := F.2 κ13 eκ13
  have Wκ13 : zW C n0 κ13 := zW_na Wκ10 eκ13 (by decide) (by decide) b14.2
  have Mκ13 : zM (zn κ10) κ10 κ13 := zM_na (Wκ10.lo (Nat.le_trans Wκ10.1.2.1 Wκ10.1.2.2) (Nat.le_refl _)) eκ13
  replace F := F Wκ13
  have g15 : zT κ13 (zn κ10) = 20 := by rw [eκ13]; exact if_pos rfl
  have b17 := F.1
  replace F := F.2
  have h18 := (ztm Wκ10 Mκ13 (ztm Wκ7 Mκ10 h12))
  refine pf_X11_18 Wκ13 dX11_init_23 rfl (Or.inr h18) g15 (fun κ16 eκ16 => ?_)
  replace F := F κ16 eκ16
  have Wκ16 : zW C n0 κ16 := zW_uo Wκ13 eκ16 (fun t ht => by cases ht; exact g15) b17
  have Mκ16 : zM (zn κ13) κ13 κ16 := by rw [eκ16]; exact zM.of rfl rfl rfl
  replace F := F Wκ16
  refine y_aln dX11_init_26 rfl ?_
  refine y_bi1 dX11_init_27 zb_64 ?_
  have b20 := F.1
  refine y_newa (t := 0) Wκ16 dX11_init_29 (by decide) b20 (fun κ19 eκ19 => ?_)
  replace F := F.2 κ19 eκ19
  have Wκ19 : zW C n0 κ19 := zW_na Wκ16 eκ19 (by decide) (by decide) b20.2
  have Mκ19 : zM (zn κ16) κ16 κ19 := zM_na (Wκ16.lo (Nat.le_trans Wκ16.1.2.1 Wκ16.1.2.2) (Nat.le_refl _)) eκ19
  replace F := F Wκ19
  have g21 : zT κ19 (zn κ16) = 20 := by rw [eκ19]; exact if_pos rfl
  have b23 := F.1
  replace F := F.2
  have h24 := (ztm Wκ16 Mκ19 (ztm Wκ13 Mκ16 h18))
  refine pf_X11_21 Wκ19 dX11_init_31 rfl (Or.inr h24) g21 (fun κ22 eκ22 => ?_)
  replace F := F κ22 eκ22
  have Wκ22 : zW C n0 κ22 := zW_uo Wκ19 eκ22 (fun t ht => by cases ht; exact g21) b23
  have Mκ22 : zM (zn κ19) κ19 κ22 := by rw [eκ22]; exact zM.of rfl rfl rfl
  replace F := F Wκ22
  refine y_aln dX11_init_34 rfl ?_
  refine y_bi1 dX11_init_35 zb_64 ?_
  have b26 := F.1
  refine y_newa (t := 0) Wκ22 dX11_init_37 (by decide) b26 (fun κ25 eκ25 => ?_)
  replace F := F.2 κ25 eκ25
  have Wκ25 : zW C n0 κ25 := zW_na Wκ22 eκ25 (by decide) (by decide) b26.2
  have Mκ25 : zM (zn κ22) κ22 κ25 := zM_na (Wκ22.lo (Nat.le_trans Wκ22.1.2.1 Wκ22.1.2.2) (Nat.le_refl _)) eκ25
  replace F := F Wκ25
  have g27 : zT κ25 (zn κ22) = 20 := by rw [eκ25]; exact if_pos rfl
  have b29 := F.1
  replace F := F.2
  have h30 := (ztm Wκ22 Mκ25 (ztm Wκ19 Mκ22 h24))
  refine pf_X11_24 Wκ25 dX11_init_39 rfl (Or.inr h30) g27 (fun κ28 eκ28 => ?_)
  replace F := F κ28 eκ28
  have Wκ28 : zW C n0 κ28 := zW_uo Wκ25 eκ28 (fun t ht => by cases ht; exact g27) b29
  have Mκ28 : zM (zn κ25) κ25 κ28 := by rw [eκ28]; exact zM.of rfl rfl rfl
  replace F := F Wκ28
  refine y_aln dX11_init_42 rfl ?_
  refine y_ic dX11_init_43 zi_0 ?_
  have b32 := F.1
  refine y_newa (t := 3) Wκ28 dX11_init_44 (by decide) b32 (fun κ31 eκ31 => ?_)
  replace F := F.2 κ31 eκ31
  have Wκ31 : zW C n0 κ31 := zW_na Wκ28 eκ31 (by decide) (by decide) b32.2
  have Mκ31 : zM (zn κ28) κ28 κ31 := zM_na (Wκ28.lo (Nat.le_trans Wκ28.1.2.1 Wκ28.1.2.2) (Nat.le_refl _)) eκ31
  replace F := F Wκ31
  have g33 : zT κ31 (zn κ28) = 23 := by rw [eκ31]; exact if_pos rfl
  have b35 := F.1
  replace F := F.2
  have h36 := (ztm Wκ28 Mκ31 (ztm Wκ25 Mκ28 h30))
  refine pf_X11_27 Wκ31 dX11_init_46 rfl (Or.inr h36) g33 (fun κ34 eκ34 => ?_)
  replace F := F κ34 eκ34
  have Wκ34 : zW C n0 κ34 := zW_uo Wκ31 eκ34 (fun t ht => by cases ht; exact g33) b35
  have Mκ34 : zM (zn κ31) κ31 κ34 := by rw [eκ34]; exact zM.of rfl rfl rfl
  replace F := F Wκ34
  refine y_aln dX11_init_49 rfl ?_
  refine y_ic dX11_init_50 zi_1 ?_
  have b38 := F.1
  refine y_newa (t := 0) Wκ34 dX11_init_51 (by decide) b38 (fun κ37 eκ37 => ?_)
  replace F := F.2 κ37 eκ37
  have Wκ37 : zW C n0 κ37 := zW_na Wκ34 eκ37 (by decide) (by decide) b38.2
  have Mκ37 : zM (zn κ34) κ34 κ37 := zM_na (Wκ34.lo (Nat.le_trans Wκ34.1.2.1 Wκ34.1.2.2) (Nat.le_refl _)) eκ37
  replace F := F Wκ37
  have g39 : zT κ37 (zn κ34) = 20 := by rw [eκ37]; exact if_pos rfl
  have b41 := F.1
  replace F := F.2
  have h42 := (ztm Wκ34 Mκ37 (ztm Wκ31 Mκ34 h36))
  refine pf_X11_31 Wκ37 dX11_init_53 rfl (Or.inr h42) g39 (fun κ40 eκ40 => ?_)
  replace F := F κ40 eκ40
  have Wκ40 : zW C n0 κ40 := zW_uo Wκ37 eκ40 (fun t ht => by cases ht; exact g39) b41
  have Mκ40 : zM (zn κ37) κ37 κ40 := by rw [eκ40]; exact zM.of rfl rfl rfl
  replace F := F Wκ40
  refine y_aln dX11_init_56 rfl ?_
  refine y_ic dX11_init_57 zi_0 ?_
  have b44 := F.1
  refine y_newa (t := 0) Wκ40 dX11_init_58 (by decide) b44 (fun κ43 eκ43 => ?_)
  replace F := F.2 κ43 eκ43
  have Wκ43 : zW C n0 κ43 := zW_na Wκ40 eκ43 (by decide) (by decide) b44.2
  have Mκ43 : zM (zn κ40) κ40 κ43 := zM_na (Wκ40.lo (Nat.le_trans Wκ40.1.2.1 Wκ40.1.2.2) (Nat.le_refl _)) eκ43
  replace F := F Wκ43
  have g45 : zT κ43 (zn κ40) = 20 := by rw [eκ43]; exact if_pos rfl
  have b47 := F.1
  replace F := F.2
  have h48 := (ztm Wκ40 Mκ43 (ztm Wκ37 Mκ40 h42))
  refine pf_X11_34 Wκ43 dX11_init_60 rfl (Or.inr h48) g45 (fun κ46 eκ46 => ?_)
  replace F := F κ46 eκ46
  have Wκ46 : zW C n0 κ46 := zW_uo Wκ43 eκ46 (fun t ht => by cases ht; exact g45) b47
  have Mκ46 : zM (zn κ43) κ43 κ46 := by rw [eκ46]; exact zM.of rfl rfl rfl
  replace F := F Wκ46
  refine y_aln dX11_init_63 rfl ?_
  refine y_ic dX11_init_64 zi_0 ?_
  have b50 := F.1
  refine y_newa (t := 0) Wκ46 dX11_init_65 (by decide) b50 (fun κ49 eκ49 => ?_)
  replace F := F.2 κ49 eκ49
  have Wκ49 : zW C n0 κ49 := zW_na Wκ46 eκ49 (by decide) (by decide) b50.2
  have Mκ49 : zM (zn κ46) κ46 κ49 := zM_na (Wκ46.lo (Nat.le_trans Wκ46.1.2.1 Wκ46.1.2.2) (Nat.le_refl _)) eκ49
  replace F := F Wκ49
  have g51 : zT κ49 (zn κ46) = 20 := by rw [eκ49]; exact if_pos rfl
  have b53 := F.1
  replace F := F.2
  have h54 := (ztm Wκ46 Mκ49 (ztm Wκ43 Mκ46 h48))
  refine pf_X11_37 Wκ49 dX11_init_67 rfl (Or.inr h54) g51 (fun κ52 eκ52 => ?_)
  replace F := F κ52 eκ52
  have Wκ52 : zW C n0 κ52 := zW_uo Wκ49 eκ52 (fun t ht => by cases ht; exact g51) b53
  have Mκ52 : zM (zn κ49) κ49 κ52 := by rw [eκ52]; exact zM.of rfl rfl rfl
  replace F := F Wκ52
  refine y_aln dX11_init_70 rfl ?_
  refine y_ic dX11_init_71 zi_0 ?_
  have b56 := F.1
  refine y_newa (t := 0) Wκ52 dX11_init_72 (by decide) b56 (fun κ55 eκ55 => ?_)
  replace F := F.2 κ55 eκ55
  have Wκ55 : zW C n0 κ55 := zW_na Wκ52 eκ55 (by decide) (by decide) b56.2
  have Mκ55 : zM (zn κ52) κ52 κ55 := zM_na (Wκ52.lo (Nat.le_trans Wκ52.1.2.1 Wκ52.1.2.2) (Nat.le_refl _)) eκ55
  replace F := F Wκ55
  have g57 : zT κ55 (zn κ52) = 20 := by rw [eκ55]; exact if_pos rfl
  have b59 := F.1
  replace F := F.2
  have h60 := (ztm Wκ52 Mκ55 (ztm Wκ49 Mκ52 h54))
  refine pf_X11_40 Wκ55 dX11_init_74 rfl (Or.inr h60) g57 (fun κ58 eκ58 => ?_)
  replace F := F κ58 eκ58
  have Wκ58 : zW C n0 κ58 := zW_uo Wκ55 eκ58 (fun t ht => by cases ht; exact g57) b59
  have Mκ58 : zM (zn κ55) κ55 κ58 := by rw [eκ58]; exact zM.of rfl rfl rfl
  replace F := F Wκ58
  refine y_aln dX11_init_77 rfl ?_
  refine y_ic dX11_init_78 zi_0 ?_
  have b62 := F.1
  refine y_newa (t := 0) Wκ58 dX11_init_79 (by decide) b62 (fun κ61 eκ61 => ?_)
  replace F := F.2 κ61 eκ61
  have Wκ61 : zW C n0 κ61 := zW_na Wκ58 eκ61 (by decide) (by decide) b62.2
  have Mκ61 : zM (zn κ58) κ58 κ61 := zM_na (Wκ58.lo (Nat.le_trans Wκ58.1.2.1 Wκ58.1.2.2) (Nat.le_refl _)) eκ61
  replace F := F Wκ61
  have g63 : zT κ61 (zn κ58) = 20 := by rw [eκ61]; exact if_pos rfl
  have b65 := F.1
  replace F := F.2
  have h66 := (ztm Wκ58 Mκ61 (ztm Wκ55 Mκ58 h60))
  refine pf_X11_43 Wκ61 dX11_init_81 rfl (Or.inr h66) g63 (fun κ64 eκ64 => ?_)
  replace F := F κ64 eκ64
  have Wκ64 : zW C n0 κ64 := zW_uo Wκ61 eκ64 (fun t ht => by cases ht; exact g63) b65
  have Mκ64 : zM (zn κ61) κ61 κ64 := by rw [eκ64]; exact zM.of rfl rfl rfl
  replace F := F Wκ64
  refine y_aln dX11_init_84 rfl ?_
  refine y_ic dX11_init_85 zi_0 ?_
  have b68 := F.1
  refine y_newa (t := 0) Wκ64 dX11_init_86 (by decide) b68 (fun κ67 eκ67 => ?_)
  replace F := F.2 κ67 eκ67
  have Wκ67 : zW C n0 κ67 := zW_na Wκ64 eκ67 (by decide) (by decide) b68.2
  have Mκ67 : zM (zn κ64) κ64 κ67 := zM_na (Wκ64.lo (Nat.le_trans Wκ64.1.2.1 Wκ64.1.2.2) (Nat.le_refl _)) eκ67
  replace F := F Wκ67
  have g69 : zT κ67 (zn κ64) = 20 := by rw [eκ67]; exact if_pos rfl
  have b71 := F.1
  replace F := F.2
  have h72 := (ztm Wκ64 Mκ67 (ztm Wκ61 Mκ64 h66))
  refine pf_X11_46 Wκ67 dX11_init_88 rfl (Or.inr h72) g69 (fun κ70 eκ70 => ?_)
  replace F := F κ70 eκ70
  have Wκ70 : zW C n0 κ70 := zW_uo Wκ67 eκ70 (fun t ht => by cases ht; exact g69) b71
  have Mκ70 : zM (zn κ67) κ67 κ70 := by rw [eκ70]; exact zM.of rfl rfl rfl
  replace F := F Wκ70
  refine y_aln dX11_init_91 rfl ?_
  refine y_ic dX11_init_92 zi_0 ?_
  have b74 := F.1
  refine y_newa (t := 0) Wκ70 dX11_init_93 (by decide) b74 (fun κ73 eκ73 => ?_)
  replace F := F.2 κ73 eκ73
  have Wκ73 : zW C n0 κ73 := zW_na Wκ70 eκ73 (by decide) (by decide) b74.2
  have Mκ73 : zM (zn κ70) κ70 κ73 := zM_na (Wκ70.lo (Nat.le_trans Wκ70.1.2.1 Wκ70.1.2.2) (Nat.le_refl _)) eκ73
  replace F := F Wκ73
  have g75 : zT κ73 (zn κ70) = 20 := by rw [eκ73]; exact if_pos rfl
  have b77 := F.1
  replace F := F.2
  have h78 := (ztm Wκ70 Mκ73 (ztm Wκ67 Mκ70 h72))
  refine pf_X11_49 Wκ73 dX11_init_95 rfl (Or.inr h78) g75 (fun κ76 eκ76 => ?_)
  replace F := F κ76 eκ76
  have Wκ76 : zW C n0 κ76 := zW_uo Wκ73 eκ76 (fun t ht => by cases ht; exact g75) b77
  have Mκ76 : zM (zn κ73) κ73 κ76 := by rw [eκ76]; exact zM.of rfl rfl rfl
  replace F := F Wκ76
  refine y_aln dX11_init_98 rfl ?_
  refine y_ic dX11_init_99 zi_0 ?_
  have b80 := F.1
  refine y_newa (t := 0) Wκ76 dX11_init_100 (by decide) b80 (fun κ79 eκ79 => ?_)
  replace F := F.2 κ79 eκ79
  have Wκ79 : zW C n0 κ79 := zW_na Wκ76 eκ79 (by decide) (by decide) b80.2
  have Mκ79 : zM (zn κ76) κ76 κ79 := zM_na (Wκ76.lo (Nat.le_trans Wκ76.1.2.1 Wκ76.1.2.2) (Nat.le_refl _)) eκ79
  replace F := F Wκ79
  have g81 : zT κ79 (zn κ76) = 20 := by rw [eκ79]; exact if_pos rfl
  have b83 := F.1
  replace F := F.2
  have h84 := (ztm Wκ76 Mκ79 (ztm Wκ73 Mκ76 h78))
  refine pf_X11_52 Wκ79 dX11_init_102 rfl (Or.inr h84) g81 (fun κ82 eκ82 => ?_)
  replace F := F κ82 eκ82
  have Wκ82 : zW C n0 κ82 := zW_uo Wκ79 eκ82 (fun t ht => by cases ht; exact g81) b83
  have Mκ82 : zM (zn κ79) κ79 κ82 := by rw [eκ82]; exact zM.of rfl rfl rfl
  replace F := F Wκ82
  exact y_rv Wκ82 dX11_init_105 rfl F

theorem We_init_run {C : zC} {n0 : Nat} {Q : zS → Prop} {a0 : Nat} {κ : zS} (W : zW C n0 κ) (Ta0 : zT κ a0 = 54) (F : w_We_init_0 C (zn κ) Q a0 κ) : zRun C 1 mWe_init [.ref a0] κ (oV Q noX) := z_run (m_ent _ 0) (t_We_init_0 (W.lo (Nat.le_trans W.1.2.1 W.1.2.2) (Nat.le_refl _)) Ta0 F)

theorem dX3_init_0 : decode cX3_init 0 = .ok (.aload_n 0, 1) := by decide +kernel
theorem dX3_init_1 : decode cX3_init 1 = .ok (.invokespecial 3, 3) := by decide +kernel
theorem dX3_init_4 : decode cX3_init 4 = .ok (.aload_n 0, 1) := by decide +kernel
theorem dX3_init_5 : decode cX3_init 5 = .ok (.iload_n 1, 1) := by decide +kernel
theorem dX3_init_6 : decode cX3_init 6 = .ok (.putfield 9, 3) := by decide +kernel
theorem dX3_init_9 : decode cX3_init 9 = .ok (.aload_n 0, 1) := by decide +kernel
theorem dX3_init_10 : decode cX3_init 10 = .ok (.iload_n 2, 1) := by decide +kernel
theorem dX3_init_11 : decode cX3_init 11 = .ok (.putfield 15, 3) := by decide +kernel
theorem dX3_init_14 : decode cX3_init 14 = .ok (.aload_n 0, 1) := by decide +kernel
theorem dX3_init_15 : decode cX3_init 15 = .ok (.iload_n 3, 1) := by decide +kernel
theorem dX3_init_16 : decode cX3_init 16 = .ok (.putfield 18, 3) := by decide +kernel
theorem dX3_init_19 : decode cX3_init 19 = .ok (.aload_n 0, 1) := by decide +kernel
theorem dX3_init_20 : decode cX3_init 20 = .ok (.iconst 1, 1) := by decide +kernel
theorem dX3_init_21 : decode cX3_init 21 = .ok (.newarray .int, 2) := by decide +kernel
theorem dX3_init_23 : decode cX3_init 23 = .ok (.putfield 21, 3) := by decide +kernel
theorem dX3_init_26 : decode cX3_init 26 = .ok (.aload_n 0, 1) := by decide +kernel
theorem dX3_init_27 : decode cX3_init 27 = .ok (.iconst 0, 1) := by decide +kernel
theorem dX3_init_28 : decode cX3_init 28 = .ok (.newarray .int, 2) := by decide +kernel
theorem dX3_init_30 : decode cX3_init 30 = .ok (.putfield 25, 3) := by decide +kernel
theorem dX3_init_33 : decode cX3_init 33 = .ok (.aload_n 0, 1) := by decide +kernel
theorem dX3_init_34 : decode cX3_init 34 = .ok (.bipush 16, 2) := by decide +kernel
theorem dX3_init_36 : decode cX3_init 36 = .ok (.newarray .int, 2) := by decide +kernel
theorem dX3_init_38 : decode cX3_init 38 = .ok (.putfield 28, 3) := by decide +kernel
theorem dX3_init_41 : decode cX3_init 41 = .ok (.return_, 1) := by decide +kernel
def w_Ho_init_0 (C : zC) (n0 : Nat) (Q : zS → Prop)  (a0 : Nat) (a1 : Int32) (a2 : Int32) (a3 : Int32) (κ : zS) : Prop :=
  ∀ κ1, κ1 = ui κ hoMost a0 a1 →
  ∀ _ : zW C n0 κ1,
  ∀ κ2, κ2 = ui κ1 hoWidest a0 a2 →
  ∀ _ : zW C n0 κ2,
  ∀ κ4, κ4 = ui κ2 hoSlots a0 a3 →
  ∀ _ : zW C n0 κ4,
  nsz (1 : Int32) ∧
  ∀ κ6, κ6 = na κ4 20 ((1 : Int32)).toNatClampNeg →
  ∀ _ : zW C n0 κ6,
  zO κ6 (zn κ4) = (0, 0) ∧
  ∀ κ9, κ9 = uo κ6 hoStarts a0 (zn κ4) →
  ∀ _ : zW C n0 κ9,
  nsz (0 : Int32) ∧
  ∀ κ12, κ12 = na κ9 20 ((0 : Int32)).toNatClampNeg →
  ∀ _ : zW C n0 κ12,
  zO κ12 (zn κ9) = (0, 0) ∧
  ∀ κ15, κ15 = uo κ12 hoTable a0 (zn κ9) →
  ∀ _ : zW C n0 κ15,
  nsz (16 : Int32) ∧
  ∀ κ18, κ18 = na κ15 20 ((16 : Int32)).toNatClampNeg →
  ∀ _ : zW C n0 κ18,
  zO κ18 (zn κ15) = (0, 0) ∧
  ∀ κ21, κ21 = uo κ18 hoPool a0 (zn κ15) →
  ∀ _ : zW C n0 κ21,
  Q κ21
theorem t_Ho_init_0 {C : zC} {n0 : Nat} {Q : zS → Prop}   {a0 : Nat} {a1 : Int32} {a2 : Int32} {a3 : Int32} {κ : zS} (W : zW C n0 κ) (Ta0 : zT κ a0 = 46) (F : w_Ho_init_0 C n0 Q  a0 a1 a2 a3 κ) : zG C n0 1 mHo_init 0 [some (.ref a0), some (.int a1), some (.int a2), some (.int a3)] [] κ (oV Q noX) := by
  unfold w_Ho_init_0 at F
  refine y_aln dX3_init_0 rfl ?_
  refine y_oinit dX3_init_1 rfl zbi_X3_3 (Nat.le_of_ble_eq_true rfl) (Nat.le_of_ble_eq_true rfl) ?_
  refine y_aln dX3_init_4 rfl ?_
  refine y_iln dX3_init_5 rfl ?_
  refine pf_X3_9 W dX3_init_6 rfl rfl (Or.inr Ta0) (fun κ1 eκ1 => ?_)
  replace F := F κ1 eκ1
  have Wκ1 : zW C n0 κ1 := zW_ui W eκ1 (fun h => absurd h (by decide))
  have Mκ1 : zM (zn κ) κ κ1 := by rw [eκ1]; exact zM.of rfl rfl rfl
  replace F := F Wκ1
  refine y_aln dX3_init_9 rfl ?_
  refine y_iln dX3_init_10 rfl ?_
  have h3 := (ztm W Mκ1 Ta0)
  refine pf_X3_15 Wκ1 dX3_init_11 rfl rfl (Or.inr h3) (fun κ2 eκ2 => ?_)
  replace F := F κ2 eκ2
  have Wκ2 : zW C n0 κ2 := zW_ui Wκ1 eκ2 (fun h => absurd h (by decide))
  have Mκ2 : zM (zn κ1) κ1 κ2 := by rw [eκ2]; exact zM.of rfl rfl rfl
  replace F := F Wκ2
  refine y_aln dX3_init_14 rfl ?_
  refine y_iln dX3_init_15 rfl ?_
  have h5 := (ztm Wκ1 Mκ2 h3)
  refine pf_X3_18 Wκ2 dX3_init_16 rfl rfl (Or.inr h5) (fun κ4 eκ4 => ?_)
  replace F := F κ4 eκ4
  have Wκ4 : zW C n0 κ4 := zW_ui Wκ2 eκ4 (fun h => absurd h (by decide))
  have Mκ4 : zM (zn κ2) κ2 κ4 := by rw [eκ4]; exact zM.of rfl rfl rfl
  replace F := F Wκ4
  refine y_aln dX3_init_19 rfl ?_
  refine y_ic dX3_init_20 zi_1 ?_
  have b7 := F.1
  refine y_newa (t := 0) Wκ4 dX3_init_21 (by decide) b7 (fun κ6 eκ6 => ?_)
  replace F := F.2 κ6 eκ6
  have Wκ6 : zW C n0 κ6 := zW_na Wκ4 eκ6 (by decide) (by decide) b7.2
  have Mκ6 : zM (zn κ4) κ4 κ6 := zM_na (Wκ4.lo (Nat.le_trans Wκ4.1.2.1 Wκ4.1.2.2) (Nat.le_refl _)) eκ6
  replace F := F Wκ6
  have g8 : zT κ6 (zn κ4) = 20 := by rw [eκ6]; exact if_pos rfl
  have b10 := F.1
  replace F := F.2
  have h11 := (ztm Wκ4 Mκ6 (ztm Wκ2 Mκ4 h5))
  refine pf_X3_21 Wκ6 dX3_init_23 rfl (Or.inr h11) g8 (fun κ9 eκ9 => ?_)
  replace F := F κ9 eκ9
  have Wκ9 : zW C n0 κ9 := zW_uo Wκ6 eκ9 (fun t ht => by cases ht; exact g8) b10
  have Mκ9 : zM (zn κ6) κ6 κ9 := by rw [eκ9]; exact zM.of rfl rfl rfl
  replace F := F Wκ9
  refine y_aln dX3_init_26 rfl ?_
  refine y_ic dX3_init_27 zi_0 ?_
  have b13 := F.1
  refine y_newa (t := 0) Wκ9 dX3_init_28 (by decide) b13 (fun κ12 eκ12 => ?_)
  replace F := F.2 κ12 eκ12
  have Wκ12 : zW C n0 κ12 := zW_na Wκ9 eκ12 (by decide) (by decide) b13.2
  have Mκ12 : zM (zn κ9) κ9 κ12 := zM_na (Wκ9.lo (Nat.le_trans Wκ9.1.2.1 Wκ9.1.2.2) (Nat.le_refl _)) eκ12
  replace F := F Wκ12
  have g14 : zT κ12 (zn κ9) = 20 := by rw [eκ12]; exact if_pos rfl
  have b16 := F.1
  replace F := F.2
  have h17 := (ztm Wκ9 Mκ12 (ztm Wκ6 Mκ9 h11))
  refine pf_X3_25 Wκ12 dX3_init_30 rfl (Or.inr h17) g14 (fun κ15 eκ15 => ?_)
  replace F := F κ15 eκ15
  have Wκ15 : zW C n0 κ15 := zW_uo Wκ12 eκ15 (fun t ht => by cases ht; exact g14) b16
  have Mκ15 : zM (zn κ12) κ12 κ15 := by rw [eκ15]; exact zM.of rfl rfl rfl
  replace F := F Wκ15
  refine y_aln dX3_init_33 rfl ?_
  refine y_bi1 dX3_init_34 zb_16 ?_
  have b19 := F.1
  refine y_newa (t := 0) Wκ15 dX3_init_36 (by decide) b19 (fun κ18 eκ18 => ?_)
  replace F := F.2 κ18 eκ18
  have Wκ18 : zW C n0 κ18 := zW_na Wκ15 eκ18 (by decide) (by decide) b19.2
  have Mκ18 : zM (zn κ15) κ15 κ18 := zM_na (Wκ15.lo (Nat.le_trans Wκ15.1.2.1 Wκ15.1.2.2) (Nat.le_refl _)) eκ18
  replace F := F Wκ18
  have g20 : zT κ18 (zn κ15) = 20 := by rw [eκ18]; exact if_pos rfl
  have b22 := F.1
  replace F := F.2
  have h23 := (ztm Wκ15 Mκ18 (ztm Wκ12 Mκ15 h17))
  refine pf_X3_28 Wκ18 dX3_init_38 rfl (Or.inr h23) g20 (fun κ21 eκ21 => ?_)
  replace F := F κ21 eκ21
  have Wκ21 : zW C n0 κ21 := zW_uo Wκ18 eκ21 (fun t ht => by cases ht; exact g20) b22
  have Mκ21 : zM (zn κ18) κ18 κ21 := by rw [eκ21]; exact zM.of rfl rfl rfl
  replace F := F Wκ21
  exact y_rv Wκ21 dX3_init_41 rfl F

theorem Ho_init_run {C : zC} {n0 : Nat} {Q : zS → Prop} {a0 : Nat} {a1 : Int32} {a2 : Int32} {a3 : Int32} {κ : zS} (W : zW C n0 κ) (Ta0 : zT κ a0 = 46) (F : w_Ho_init_0 C (zn κ) Q a0 a1 a2 a3 κ) : zRun C 1 mHo_init [.ref a0, .int a1, .int a2, .int a3] κ (oV Q noX) := z_run (m_ent _ 0) (t_Ho_init_0 (W.lo (Nat.le_trans W.1.2.1 W.1.2.2) (Nat.le_refl _)) Ta0 F)

theorem dX0_init_0 : decode cX0_init 0 = .ok (.aload_n 0, 1) := by decide +kernel
theorem dX0_init_1 : decode cX0_init 1 = .ok (.invokespecial 3, 3) := by decide +kernel
theorem dX0_init_4 : decode cX0_init 4 = .ok (.aload_n 0, 1) := by decide +kernel
theorem dX0_init_5 : decode cX0_init 5 = .ok (.aload_n 1, 1) := by decide +kernel
theorem dX0_init_6 : decode cX0_init 6 = .ok (.putfield 9, 3) := by decide +kernel
theorem dX0_init_9 : decode cX0_init 9 = .ok (.aload_n 0, 1) := by decide +kernel
theorem dX0_init_10 : decode cX0_init 10 = .ok (.aload_n 2, 1) := by decide +kernel
theorem dX0_init_11 : decode cX0_init 11 = .ok (.putfield 15, 3) := by decide +kernel
theorem dX0_init_14 : decode cX0_init 14 = .ok (.aload_n 0, 1) := by decide +kernel
theorem dX0_init_15 : decode cX0_init 15 = .ok (.new 19, 3) := by decide +kernel
theorem dX0_init_18 : decode cX0_init 18 = .ok (.dup, 1) := by decide +kernel
theorem dX0_init_19 : decode cX0_init 19 = .ok (.invokespecial 21, 3) := by decide +kernel
theorem dX0_init_22 : decode cX0_init 22 = .ok (.putfield 22, 3) := by decide +kernel
theorem dX0_init_25 : decode cX0_init 25 = .ok (.aload_n 0, 1) := by decide +kernel
theorem dX0_init_26 : decode cX0_init 26 = .ok (.new 26, 3) := by decide +kernel
theorem dX0_init_29 : decode cX0_init 29 = .ok (.dup, 1) := by decide +kernel
theorem dX0_init_30 : decode cX0_init 30 = .ok (.sipush 1000, 3) := by decide +kernel
theorem dX0_init_33 : decode cX0_init 33 = .ok (.sipush 142, 3) := by decide +kernel
theorem dX0_init_36 : decode cX0_init 36 = .ok (.sipush 2048, 3) := by decide +kernel
theorem dX0_init_39 : decode cX0_init 39 = .ok (.invokespecial 30, 3) := by decide +kernel
theorem dX0_init_42 : decode cX0_init 42 = .ok (.putfield 33, 3) := by decide +kernel
theorem dX0_init_45 : decode cX0_init 45 = .ok (.aload_n 0, 1) := by decide +kernel
theorem dX0_init_46 : decode cX0_init 46 = .ok (.new 26, 3) := by decide +kernel
theorem dX0_init_49 : decode cX0_init 49 = .ok (.dup, 1) := by decide +kernel
theorem dX0_init_50 : decode cX0_init 50 = .ok (.sipush 1000, 3) := by decide +kernel
theorem dX0_init_53 : decode cX0_init 53 = .ok (.bipush 35, 2) := by decide +kernel
theorem dX0_init_55 : decode cX0_init 55 = .ok (.sipush 2048, 3) := by decide +kernel
theorem dX0_init_58 : decode cX0_init 58 = .ok (.invokespecial 30, 3) := by decide +kernel
theorem dX0_init_61 : decode cX0_init 61 = .ok (.putfield 37, 3) := by decide +kernel
theorem dX0_init_64 : decode cX0_init 64 = .ok (.aload_n 0, 1) := by decide +kernel
theorem dX0_init_65 : decode cX0_init 65 = .ok (.iconst 1, 1) := by decide +kernel
theorem dX0_init_66 : decode cX0_init 66 = .ok (.newarray .int, 2) := by decide +kernel
theorem dX0_init_68 : decode cX0_init 68 = .ok (.putfield 40, 3) := by decide +kernel
theorem dX0_init_71 : decode cX0_init 71 = .ok (.aload_n 0, 1) := by decide +kernel
theorem dX0_init_72 : decode cX0_init 72 = .ok (.iconst 0, 1) := by decide +kernel
theorem dX0_init_73 : decode cX0_init 73 = .ok (.newarray .int, 2) := by decide +kernel
theorem dX0_init_75 : decode cX0_init 75 = .ok (.putfield 44, 3) := by decide +kernel
theorem dX0_init_78 : decode cX0_init 78 = .ok (.aload_n 0, 1) := by decide +kernel
theorem dX0_init_79 : decode cX0_init 79 = .ok (.iconst 0, 1) := by decide +kernel
theorem dX0_init_80 : decode cX0_init 80 = .ok (.newarray .int, 2) := by decide +kernel
theorem dX0_init_82 : decode cX0_init 82 = .ok (.putfield 47, 3) := by decide +kernel
theorem dX0_init_85 : decode cX0_init 85 = .ok (.aload_n 0, 1) := by decide +kernel
theorem dX0_init_86 : decode cX0_init 86 = .ok (.iconst 0, 1) := by decide +kernel
theorem dX0_init_87 : decode cX0_init 87 = .ok (.newarray .int, 2) := by decide +kernel
theorem dX0_init_89 : decode cX0_init 89 = .ok (.putfield 50, 3) := by decide +kernel
theorem dX0_init_92 : decode cX0_init 92 = .ok (.aload_n 0, 1) := by decide +kernel
theorem dX0_init_93 : decode cX0_init 93 = .ok (.iconst 0, 1) := by decide +kernel
theorem dX0_init_94 : decode cX0_init 94 = .ok (.newarray .boolean, 2) := by decide +kernel
theorem dX0_init_96 : decode cX0_init 96 = .ok (.putfield 53, 3) := by decide +kernel
theorem dX0_init_99 : decode cX0_init 99 = .ok (.aload_n 0, 1) := by decide +kernel
theorem dX0_init_100 : decode cX0_init 100 = .ok (.iconst 0, 1) := by decide +kernel
theorem dX0_init_101 : decode cX0_init 101 = .ok (.newarray .boolean, 2) := by decide +kernel
theorem dX0_init_103 : decode cX0_init 103 = .ok (.putfield 57, 3) := by decide +kernel
theorem dX0_init_106 : decode cX0_init 106 = .ok (.aload_n 0, 1) := by decide +kernel
theorem dX0_init_107 : decode cX0_init 107 = .ok (.bipush 64, 2) := by decide +kernel
theorem dX0_init_109 : decode cX0_init 109 = .ok (.newarray .int, 2) := by decide +kernel
theorem dX0_init_111 : decode cX0_init 111 = .ok (.putfield 60, 3) := by decide +kernel
theorem dX0_init_114 : decode cX0_init 114 = .ok (.aload_n 0, 1) := by decide +kernel
theorem dX0_init_115 : decode cX0_init 115 = .ok (.bipush 64, 2) := by decide +kernel
theorem dX0_init_117 : decode cX0_init 117 = .ok (.newarray .int, 2) := by decide +kernel
theorem dX0_init_119 : decode cX0_init 119 = .ok (.putfield 63, 3) := by decide +kernel
theorem dX0_init_122 : decode cX0_init 122 = .ok (.aload_n 0, 1) := by decide +kernel
theorem dX0_init_123 : decode cX0_init 123 = .ok (.bipush 64, 2) := by decide +kernel
theorem dX0_init_125 : decode cX0_init 125 = .ok (.newarray .int, 2) := by decide +kernel
theorem dX0_init_127 : decode cX0_init 127 = .ok (.putfield 66, 3) := by decide +kernel
theorem dX0_init_130 : decode cX0_init 130 = .ok (.return_, 1) := by decide +kernel
def w_At_init_0 (C : zC) (n0 : Nat) (Q : zS → Prop)  (a0 : Nat) (a1 : Nat) (a2 : Nat) (κ : zS) : Prop :=
  ∀ κ1, κ1 = ur κ atMachine a0 a1 →
  ∀ _ : zW C n0 κ1,
  ∀ κ2, κ2 = ur κ1 atCode a0 a2 →
  ∀ _ : zW C n0 κ2,
  ∀ κ5, κ5 = noo κ2 14 →
  ∀ _ : zW C n0 κ5,
  ∀ _ : zT κ5 (zn κ2) = 54,
  zRun C 1 mWe_init [.ref (zn κ2)] κ5 (oV (fun κ7 =>
    ∀ _ : zW C n0 κ7,
    ∀ _ : zM (zn κ5) κ5 κ7,
    zOk κ7 (zn κ2) 14 ∧
    ∀ κ10, κ10 = nff κ7 (zn κ2) →
    ∀ _ : zW C n0 κ10,
    ∀ κ12, κ12 = ur κ10 atWeb a0 (zn κ2) →
    ∀ _ : zW C n0 κ12,
    ∀ κ14, κ14 = noo κ12 6 →
    ∀ _ : zW C n0 κ14,
    ∀ _ : zT κ14 (zn κ12) = 46,
    zRun C 1 mHo_init [.ref (zn κ12), .int (1000 : Int32), .int (142 : Int32), .int (2048 : Int32)] κ14 (oV (fun κ16 =>
      ∀ _ : zW C n0 κ16,
      ∀ _ : zM (zn κ14) κ14 κ16,
      zOk κ16 (zn κ12) 6 ∧
      ∀ κ19, κ19 = nff κ16 (zn κ12) →
      ∀ _ : zW C n0 κ19,
      ∀ κ21, κ21 = ur κ19 atStates a0 (zn κ12) →
      ∀ _ : zW C n0 κ21,
      ∀ κ23, κ23 = noo κ21 6 →
      ∀ _ : zW C n0 κ23,
      ∀ _ : zT κ23 (zn κ21) = 46,
      zRun C 1 mHo_init [.ref (zn κ21), .int (1000 : Int32), .int (35 : Int32), .int (2048 : Int32)] κ23 (oV (fun κ25 =>
        ∀ _ : zW C n0 κ25,
        ∀ _ : zM (zn κ23) κ23 κ25,
        zOk κ25 (zn κ21) 6 ∧
        ∀ κ28, κ28 = nff κ25 (zn κ21) →
        ∀ _ : zW C n0 κ28,
        ∀ κ30, κ30 = ur κ28 atEndings a0 (zn κ21) →
        ∀ _ : zW C n0 κ30,
        nsz (1 : Int32) ∧
        ∀ κ32, κ32 = na κ30 20 ((1 : Int32)).toNatClampNeg →
        ∀ _ : zW C n0 κ32,
        zO κ32 (zn κ30) = (0, 0) ∧
        ∀ κ35, κ35 = uo κ32 atFirsts a0 (zn κ30) →
        ∀ _ : zW C n0 κ35,
        nsz (0 : Int32) ∧
        ∀ κ38, κ38 = na κ35 20 ((0 : Int32)).toNatClampNeg →
        ∀ _ : zW C n0 κ38,
        zO κ38 (zn κ35) = (0, 0) ∧
        ∀ κ41, κ41 = uo κ38 atTotals a0 (zn κ35) →
        ∀ _ : zW C n0 κ41,
        nsz (0 : Int32) ∧
        ∀ κ44, κ44 = na κ41 20 ((0 : Int32)).toNatClampNeg →
        ∀ _ : zW C n0 κ44,
        zO κ44 (zn κ41) = (0, 0) ∧
        ∀ κ47, κ47 = uo κ44 atGains a0 (zn κ41) →
        ∀ _ : zW C n0 κ47,
        nsz (0 : Int32) ∧
        ∀ κ50, κ50 = na κ47 20 ((0 : Int32)).toNatClampNeg →
        ∀ _ : zW C n0 κ50,
        zO κ50 (zn κ47) = (0, 0) ∧
        ∀ κ53, κ53 = uo κ50 atPlan a0 (zn κ47) →
        ∀ _ : zW C n0 κ53,
        nsz (0 : Int32) ∧
        ∀ κ56, κ56 = na κ53 23 ((0 : Int32)).toNatClampNeg →
        ∀ _ : zW C n0 κ56,
        zO κ56 (zn κ53) = (0, 0) ∧
        ∀ κ59, κ59 = uo κ56 atChooses a0 (zn κ53) →
        ∀ _ : zW C n0 κ59,
        nsz (0 : Int32) ∧
        ∀ κ62, κ62 = na κ59 23 ((0 : Int32)).toNatClampNeg →
        ∀ _ : zW C n0 κ62,
        zO κ62 (zn κ59) = (0, 0) ∧
        ∀ κ65, κ65 = uo κ62 atHopeless a0 (zn κ59) →
        ∀ _ : zW C n0 κ65,
        nsz (64 : Int32) ∧
        ∀ κ68, κ68 = na κ65 20 ((64 : Int32)).toNatClampNeg →
        ∀ _ : zW C n0 κ68,
        zO κ68 (zn κ65) = (0, 0) ∧
        ∀ κ71, κ71 = uo κ68 atSorts a0 (zn κ65) →
        ∀ _ : zW C n0 κ71,
        nsz (64 : Int32) ∧
        ∀ κ74, κ74 = na κ71 20 ((64 : Int32)).toNatClampNeg →
        ∀ _ : zW C n0 κ74,
        zO κ74 (zn κ71) = (0, 0) ∧
        ∀ κ77, κ77 = uo κ74 atNumbers a0 (zn κ71) →
        ∀ _ : zW C n0 κ77,
        nsz (64 : Int32) ∧
        ∀ κ80, κ80 = na κ77 20 ((64 : Int32)).toNatClampNeg →
        ∀ _ : zW C n0 κ80,
        zO κ80 (zn κ77) = (0, 0) ∧
        ∀ κ83, κ83 = uo κ80 atWeights a0 (zn κ77) →
        ∀ _ : zW C n0 κ83,
        Q κ83) noX)) noX)) noX)
theorem t_At_init_0 {C : zC} {n0 : Nat} {Q : zS → Prop}   {a0 : Nat} {a1 : Nat} {a2 : Nat} {κ : zS} (W : zW C n0 κ) (Ta0 : zT κ a0 = 43) (Ta1 : zT κ a1 = 7) (Ta2 : zT κ a2 = 5) (F : w_At_init_0 C n0 Q  a0 a1 a2 κ) : zG C n0 2 mAt_init 0 [some (.ref a0), some (.ref a1), some (.ref a2)] [] κ (oV Q noX) := by
  unfold w_At_init_0 at F
  refine y_aln dX0_init_0 rfl ?_
  refine y_oinit dX0_init_1 rfl zbi_X0_3 (Nat.le_of_ble_eq_true rfl) (Nat.le_of_ble_eq_true rfl) ?_
  refine y_aln dX0_init_4 rfl ?_
  refine y_aln dX0_init_5 rfl ?_
  refine pf_X0_9 W dX0_init_6 rfl rfl (Or.inr Ta0) Ta1 (fun κ1 eκ1 => ?_)
  replace F := F κ1 eκ1
  have Wκ1 : zW C n0 κ1 := zW_ur W eκ1 (fun t ht => by cases ht; exact ⟨by decide, Ta1⟩)
  have Mκ1 : zM (zn κ) κ κ1 := by rw [eκ1]; exact zM.of rfl rfl rfl
  replace F := F Wκ1
  refine y_aln dX0_init_9 rfl ?_
  refine y_aln dX0_init_10 rfl ?_
  have h3 := (ztm W Mκ1 Ta2)
  have h4 := (ztm W Mκ1 Ta0)
  refine pf_X0_15 Wκ1 dX0_init_11 rfl (Or.inr h4) h3 (fun κ2 eκ2 => ?_)
  replace F := F κ2 eκ2
  have Wκ2 : zW C n0 κ2 := zW_ur Wκ1 eκ2 (fun t ht => by cases ht; exact ⟨by decide, h3⟩)
  have Mκ2 : zM (zn κ1) κ1 κ2 := by rw [eκ2]; exact zM.of rfl rfl rfl
  replace F := F Wκ2
  refine y_aln dX0_init_14 rfl ?_
  refine y_newo Wκ2 dX0_init_15 rfl znw_X0_19 znx_X0_19 (by decide) (fun κ5 eκ5 => ?_)
  replace F := F κ5 eκ5
  have Wκ5 : zW C n0 κ5 := zW_no Wκ2 eκ5
  have Mκ5 : zM (zn κ2) κ2 κ5 := zM_no (Wκ2.lo (Nat.le_trans Wκ2.1.2.1 Wκ2.1.2.2) (Nat.le_refl _)) eκ5
  replace F := F Wκ5
  have g6 : zT κ5 (zn κ2) = 54 := by rw [eκ5]; exact if_pos rfl
  refine y_dup dX0_init_18 rfl ?_
  replace F := F g6
  refine k_X0_21 Wκ5 dX0_init_19 rfl (Nat.le_of_ble_eq_true rfl) (Nat.le_of_ble_eq_true rfl)  F (fun  κ7 Wκ7 Mκ7 F => ?_) (fun _ _ h9 => False.elim h9)
  replace F := F Wκ7 Mκ7
  have h11 := (ztm Wκ5 Mκ7 g6)
  have Rκ10 := h11
  refine y_flip (ci := 14) Rκ10 (by decide) (Nat.le_trans Wκ2.1.2.2 (Nat.le_refl _)) (fun κ10 eκ10 => ?_)
  have Wκ10 : zW C n0 κ10 := zW_nf Wκ7 eκ10 Rκ10 (by decide) (by decide) F.1
  replace F := F.2 κ10 eκ10 Wκ10
  have Gκ10 : zT κ10 (zn κ2) = 14 := zth eκ10 Rκ10 (by decide)
  have h13 := (ztg eκ10 (Wκ2.nw (ztm Wκ1 Mκ2 h4)) (ztm Wκ5 Mκ7 (ztm Wκ2 Mκ5 (ztm Wκ1 Mκ2 h4))))
  refine pf_X0_22 Wκ10 dX0_init_22 rfl rfl (Or.inr h13) Gκ10 (fun κ12 eκ12 => ?_)
  replace F := F κ12 eκ12
  have Wκ12 : zW C n0 κ12 := zW_ur Wκ10 eκ12 (fun t ht => by cases ht; exact ⟨by decide, Gκ10⟩)
  have Mκ12 : zM (zn κ10) κ10 κ12 := by rw [eκ12]; exact zM.of rfl rfl rfl
  replace F := F Wκ12
  refine y_aln dX0_init_25 rfl ?_
  refine y_newo Wκ12 dX0_init_26 rfl znw_X0_26 znx_X0_26 (by decide) (fun κ14 eκ14 => ?_)
  replace F := F κ14 eκ14
  have Wκ14 : zW C n0 κ14 := zW_no Wκ12 eκ14
  have Mκ14 : zM (zn κ12) κ12 κ14 := zM_no (Wκ12.lo (Nat.le_trans Wκ12.1.2.1 Wκ12.1.2.2) (Nat.le_refl _)) eκ14
  replace F := F Wκ14
  have g15 : zT κ14 (zn κ12) = 46 := by rw [eκ14]; exact if_pos rfl
  refine y_dup dX0_init_29 rfl ?_
  refine y_si dX0_init_30 zs_1000 ?_
  refine y_si dX0_init_33 zs_142 ?_
  refine y_si dX0_init_36 zs_2048 ?_
  replace F := F g15
  refine k_X0_30 Wκ14 dX0_init_39 rfl (Nat.le_of_ble_eq_true rfl) (Nat.le_of_ble_eq_true rfl)  F (fun  κ16 Wκ16 Mκ16 F => ?_) (fun _ _ h9 => False.elim h9)
  replace F := F Wκ16 Mκ16
  have h20 := (ztm Wκ14 Mκ16 g15)
  have Rκ19 := h20
  refine y_flip (ci := 6) Rκ19 (by decide) (Nat.le_trans Wκ12.1.2.2 (Nat.le_refl _)) (fun κ19 eκ19 => ?_)
  have Wκ19 : zW C n0 κ19 := zW_nf Wκ16 eκ19 Rκ19 (by decide) (by decide) F.1
  replace F := F.2 κ19 eκ19 Wκ19
  have Gκ19 : zT κ19 (zn κ12) = 6 := zth eκ19 Rκ19 (by decide)
  have h22 := (ztg eκ19 (Wκ12.nw (ztm Wκ10 Mκ12 h13)) (ztm Wκ14 Mκ16 (ztm Wκ12 Mκ14 (ztm Wκ10 Mκ12 h13))))
  refine pf_X0_33 Wκ19 dX0_init_42 rfl rfl (Or.inr h22) Gκ19 (fun κ21 eκ21 => ?_)
  replace F := F κ21 eκ21
  have Wκ21 : zW C n0 κ21 := zW_ur Wκ19 eκ21 (fun t ht => by cases ht; exact ⟨by decide, Gκ19⟩)
  have Mκ21 : zM (zn κ19) κ19 κ21 := by rw [eκ21]; exact zM.of rfl rfl rfl
  replace F := F Wκ21
  refine y_aln dX0_init_45 rfl ?_
  refine y_newo Wκ21 dX0_init_46 rfl znw_X0_26 znx_X0_26 (by decide) (fun κ23 eκ23 => ?_)
  replace F := F κ23 eκ23
  have Wκ23 : zW C n0 κ23 := zW_no Wκ21 eκ23
  have Mκ23 : zM (zn κ21) κ21 κ23 := zM_no (Wκ21.lo (Nat.le_trans Wκ21.1.2.1 Wκ21.1.2.2) (Nat.le_refl _)) eκ23
  replace F := F Wκ23
  have g24 : zT κ23 (zn κ21) = 46 := by rw [eκ23]; exact if_pos rfl
  refine y_dup dX0_init_49 rfl ?_
  refine y_si dX0_init_50 zs_1000 ?_
  refine y_bi1 dX0_init_53 zb_35 ?_
  refine y_si dX0_init_55 zs_2048 ?_
  replace F := F g24
  refine k_X0_30 Wκ23 dX0_init_58 rfl (Nat.le_of_ble_eq_true rfl) (Nat.le_of_ble_eq_true rfl)  F (fun  κ25 Wκ25 Mκ25 F => ?_) (fun _ _ h9 => False.elim h9)
  replace F := F Wκ25 Mκ25
  have h29 := (ztm Wκ23 Mκ25 g24)
  have Rκ28 := h29
  refine y_flip (ci := 6) Rκ28 (by decide) (Nat.le_trans Wκ21.1.2.2 (Nat.le_refl _)) (fun κ28 eκ28 => ?_)
  have Wκ28 : zW C n0 κ28 := zW_nf Wκ25 eκ28 Rκ28 (by decide) (by decide) F.1
  replace F := F.2 κ28 eκ28 Wκ28
  have Gκ28 : zT κ28 (zn κ21) = 6 := zth eκ28 Rκ28 (by decide)
  have h31 := (ztg eκ28 (Wκ21.nw (ztm Wκ19 Mκ21 h22)) (ztm Wκ23 Mκ25 (ztm Wκ21 Mκ23 (ztm Wκ19 Mκ21 h22))))
  refine pf_X0_37 Wκ28 dX0_init_61 rfl rfl (Or.inr h31) Gκ28 (fun κ30 eκ30 => ?_)
  replace F := F κ30 eκ30
  have Wκ30 : zW C n0 κ30 := zW_ur Wκ28 eκ30 (fun t ht => by cases ht; exact ⟨by decide, Gκ28⟩)
  have Mκ30 : zM (zn κ28) κ28 κ30 := by rw [eκ30]; exact zM.of rfl rfl rfl
  replace F := F Wκ30
  refine y_aln dX0_init_64 rfl ?_
  refine y_ic dX0_init_65 zi_1 ?_
  have b33 := F.1
  refine y_newa (t := 0) Wκ30 dX0_init_66 (by decide) b33 (fun κ32 eκ32 => ?_)
  replace F := F.2 κ32 eκ32
  have Wκ32 : zW C n0 κ32 := zW_na Wκ30 eκ32 (by decide) (by decide) b33.2
  have Mκ32 : zM (zn κ30) κ30 κ32 := zM_na (Wκ30.lo (Nat.le_trans Wκ30.1.2.1 Wκ30.1.2.2) (Nat.le_refl _)) eκ32
  replace F := F Wκ32
  have g34 : zT κ32 (zn κ30) = 20 := by rw [eκ32]; exact if_pos rfl
  have b36 := F.1
  replace F := F.2
  have h37 := (ztm Wκ30 Mκ32 (ztm Wκ28 Mκ30 h31))
  refine pf_X0_40 Wκ32 dX0_init_68 rfl (Or.inr h37) g34 (fun κ35 eκ35 => ?_)
  replace F := F κ35 eκ35
  have Wκ35 : zW C n0 κ35 := zW_uo Wκ32 eκ35 (fun t ht => by cases ht; exact g34) b36
  have Mκ35 : zM (zn κ32) κ32 κ35 := by rw [eκ35]; exact zM.of rfl rfl rfl
  replace F := F Wκ35
  refine y_aln dX0_init_71 rfl ?_
  refine y_ic dX0_init_72 zi_0 ?_
  have b39 := F.1
  refine y_newa (t := 0) Wκ35 dX0_init_73 (by decide) b39 (fun κ38 eκ38 => ?_)
  replace F := F.2 κ38 eκ38
  have Wκ38 : zW C n0 κ38 := zW_na Wκ35 eκ38 (by decide) (by decide) b39.2
  have Mκ38 : zM (zn κ35) κ35 κ38 := zM_na (Wκ35.lo (Nat.le_trans Wκ35.1.2.1 Wκ35.1.2.2) (Nat.le_refl _)) eκ38
  replace F := F Wκ38
  have g40 : zT κ38 (zn κ35) = 20 := by rw [eκ38]; exact if_pos rfl
  have b42 := F.1
  replace F := F.2
  have h43 := (ztm Wκ35 Mκ38 (ztm Wκ32 Mκ35 h37))
  refine pf_X0_44 Wκ38 dX0_init_75 rfl (Or.inr h43) g40 (fun κ41 eκ41 => ?_)
  replace F := F κ41 eκ41
  have Wκ41 : zW C n0 κ41 := zW_uo Wκ38 eκ41 (fun t ht => by cases ht; exact g40) b42
  have Mκ41 : zM (zn κ38) κ38 κ41 := by rw [eκ41]; exact zM.of rfl rfl rfl
  replace F := F Wκ41
  refine y_aln dX0_init_78 rfl ?_
  refine y_ic dX0_init_79 zi_0 ?_
  have b45 := F.1
  refine y_newa (t := 0) Wκ41 dX0_init_80 (by decide) b45 (fun κ44 eκ44 => ?_)
  replace F := F.2 κ44 eκ44
  have Wκ44 : zW C n0 κ44 := zW_na Wκ41 eκ44 (by decide) (by decide) b45.2
  have Mκ44 : zM (zn κ41) κ41 κ44 := zM_na (Wκ41.lo (Nat.le_trans Wκ41.1.2.1 Wκ41.1.2.2) (Nat.le_refl _)) eκ44
  replace F := F Wκ44
  have g46 : zT κ44 (zn κ41) = 20 := by rw [eκ44]; exact if_pos rfl
  have b48 := F.1
  replace F := F.2
  have h49 := (ztm Wκ41 Mκ44 (ztm Wκ38 Mκ41 h43))
  refine pf_X0_47 Wκ44 dX0_init_82 rfl (Or.inr h49) g46 (fun κ47 eκ47 => ?_)
  replace F := F κ47 eκ47
  have Wκ47 : zW C n0 κ47 := zW_uo Wκ44 eκ47 (fun t ht => by cases ht; exact g46) b48
  have Mκ47 : zM (zn κ44) κ44 κ47 := by rw [eκ47]; exact zM.of rfl rfl rfl
  replace F := F Wκ47
  refine y_aln dX0_init_85 rfl ?_
  refine y_ic dX0_init_86 zi_0 ?_
  have b51 := F.1
  refine y_newa (t := 0) Wκ47 dX0_init_87 (by decide) b51 (fun κ50 eκ50 => ?_)
  replace F := F.2 κ50 eκ50
  have Wκ50 : zW C n0 κ50 := zW_na Wκ47 eκ50 (by decide) (by decide) b51.2
  have Mκ50 : zM (zn κ47) κ47 κ50 := zM_na (Wκ47.lo (Nat.le_trans Wκ47.1.2.1 Wκ47.1.2.2) (Nat.le_refl _)) eκ50
  replace F := F Wκ50
  have g52 : zT κ50 (zn κ47) = 20 := by rw [eκ50]; exact if_pos rfl
  have b54 := F.1
  replace F := F.2
  have h55 := (ztm Wκ47 Mκ50 (ztm Wκ44 Mκ47 h49))
  refine pf_X0_50 Wκ50 dX0_init_89 rfl (Or.inr h55) g52 (fun κ53 eκ53 => ?_)
  replace F := F κ53 eκ53
  have Wκ53 : zW C n0 κ53 := zW_uo Wκ50 eκ53 (fun t ht => by cases ht; exact g52) b54
  have Mκ53 : zM (zn κ50) κ50 κ53 := by rw [eκ53]; exact zM.of rfl rfl rfl
  replace F := F Wκ53
  refine y_aln dX0_init_92 rfl ?_
  refine y_ic dX0_init_93 zi_0 ?_
  have b57 := F.1
  refine y_newa (t := 3) Wκ53 dX0_init_94 (by decide) b57 (fun κ56 eκ56 => ?_)
  replace F := F.2 κ56 eκ56
  have Wκ56 : zW C n0 κ56 := zW_na Wκ53 eκ56 (by decide) (by decide) b57.2
  have Mκ56 : zM (zn κ53) κ53 κ56 := zM_na (Wκ53.lo (Nat.le_trans Wκ53.1.2.1 Wκ53.1.2.2) (Nat.le_refl _)) eκ56
  replace F := F Wκ56
  have g58 : zT κ56 (zn κ53) = 23 := by rw [eκ56]; exact if_pos rfl
  have b60 := F.1
  replace F := F.2
  have h61 := (ztm Wκ53 Mκ56 (ztm Wκ50 Mκ53 h55))
  refine pf_X0_53 Wκ56 dX0_init_96 rfl (Or.inr h61) g58 (fun κ59 eκ59 => ?_)
  replace F := F κ59 eκ59
  have Wκ59 : zW C n0 κ59 := zW_uo Wκ56 eκ59 (fun t ht => by cases ht; exact g58) b60
  have Mκ59 : zM (zn κ56) κ56 κ59 := by rw [eκ59]; exact zM.of rfl rfl rfl
  replace F := F Wκ59
  refine y_aln dX0_init_99 rfl ?_
  refine y_ic dX0_init_100 zi_0 ?_
  have b63 := F.1
  refine y_newa (t := 3) Wκ59 dX0_init_101 (by decide) b63 (fun κ62 eκ62 => ?_)
  replace F := F.2 κ62 eκ62
  have Wκ62 : zW C n0 κ62 := zW_na Wκ59 eκ62 (by decide) (by decide) b63.2
  have Mκ62 : zM (zn κ59) κ59 κ62 := zM_na (Wκ59.lo (Nat.le_trans Wκ59.1.2.1 Wκ59.1.2.2) (Nat.le_refl _)) eκ62
  replace F := F Wκ62
  have g64 : zT κ62 (zn κ59) = 23 := by rw [eκ62]; exact if_pos rfl
  have b66 := F.1
  replace F := F.2
  have h67 := (ztm Wκ59 Mκ62 (ztm Wκ56 Mκ59 h61))
  refine pf_X0_57 Wκ62 dX0_init_103 rfl (Or.inr h67) g64 (fun κ65 eκ65 => ?_)
  replace F := F κ65 eκ65
  have Wκ65 : zW C n0 κ65 := zW_uo Wκ62 eκ65 (fun t ht => by cases ht; exact g64) b66
  have Mκ65 : zM (zn κ62) κ62 κ65 := by rw [eκ65]; exact zM.of rfl rfl rfl
  replace F := F Wκ65
  refine y_aln dX0_init_106 rfl ?_
  refine y_bi1 dX0_init_107 zb_64 ?_
  have b69 := F.1
  refine y_newa (t := 0) Wκ65 dX0_init_109 (by decide) b69 (fun κ68 eκ68 => ?_)
  replace F := F.2 κ68 eκ68
  have Wκ68 : zW C n0 κ68 := zW_na Wκ65 eκ68 (by decide) (by decide) b69.2
  have Mκ68 : zM (zn κ65) κ65 κ68 := zM_na (Wκ65.lo (Nat.le_trans Wκ65.1.2.1 Wκ65.1.2.2) (Nat.le_refl _)) eκ68
  replace F := F Wκ68
  have g70 : zT κ68 (zn κ65) = 20 := by rw [eκ68]; exact if_pos rfl
  have b72 := F.1
  replace F := F.2
  have h73 := (ztm Wκ65 Mκ68 (ztm Wκ62 Mκ65 h67))
  refine pf_X0_60 Wκ68 dX0_init_111 rfl (Or.inr h73) g70 (fun κ71 eκ71 => ?_)
  replace F := F κ71 eκ71
  have Wκ71 : zW C n0 κ71 := zW_uo Wκ68 eκ71 (fun t ht => by cases ht; exact g70) b72
  have Mκ71 : zM (zn κ68) κ68 κ71 := by rw [eκ71]; exact zM.of rfl rfl rfl
  replace F := F Wκ71
  refine y_aln dX0_init_114 rfl ?_
  refine y_bi1 dX0_init_115 zb_64 ?_
  have b75 := F.1
  refine y_newa (t := 0) Wκ71 dX0_init_117 (by decide) b75 (fun κ74 eκ74 => ?_)
  replace F := F.2 κ74 eκ74
  have Wκ74 : zW C n0 κ74 := zW_na Wκ71 eκ74 (by decide) (by decide) b75.2
  have Mκ74 : zM (zn κ71) κ71 κ74 := zM_na (Wκ71.lo (Nat.le_trans Wκ71.1.2.1 Wκ71.1.2.2) (Nat.le_refl _)) eκ74
  replace F := F Wκ74
  have g76 : zT κ74 (zn κ71) = 20 := by rw [eκ74]; exact if_pos rfl
  have b78 := F.1
  replace F := F.2
  have h79 := (ztm Wκ71 Mκ74 (ztm Wκ68 Mκ71 h73))
  refine pf_X0_63 Wκ74 dX0_init_119 rfl (Or.inr h79) g76 (fun κ77 eκ77 => ?_)
  replace F := F κ77 eκ77
  have Wκ77 : zW C n0 κ77 := zW_uo Wκ74 eκ77 (fun t ht => by cases ht; exact g76) b78
  have Mκ77 : zM (zn κ74) κ74 κ77 := by rw [eκ77]; exact zM.of rfl rfl rfl
  replace F := F Wκ77
  refine y_aln dX0_init_122 rfl ?_
  refine y_bi1 dX0_init_123 zb_64 ?_
  have b81 := F.1
  refine y_newa (t := 0) Wκ77 dX0_init_125 (by decide) b81 (fun κ80 eκ80 => ?_)
  replace F := F.2 κ80 eκ80
  have Wκ80 : zW C n0 κ80 := zW_na Wκ77 eκ80 (by decide) (by decide) b81.2
  have Mκ80 : zM (zn κ77) κ77 κ80 := zM_na (Wκ77.lo (Nat.le_trans Wκ77.1.2.1 Wκ77.1.2.2) (Nat.le_refl _)) eκ80
  replace F := F Wκ80
  have g82 : zT κ80 (zn κ77) = 20 := by rw [eκ80]; exact if_pos rfl
  have b84 := F.1
  replace F := F.2
  have h85 := (ztm Wκ77 Mκ80 (ztm Wκ74 Mκ77 h79))
  refine pf_X0_66 Wκ80 dX0_init_127 rfl (Or.inr h85) g82 (fun κ83 eκ83 => ?_)
  replace F := F κ83 eκ83
  have Wκ83 : zW C n0 κ83 := zW_uo Wκ80 eκ83 (fun t ht => by cases ht; exact g82) b84
  have Mκ83 : zM (zn κ80) κ80 κ83 := by rw [eκ83]; exact zM.of rfl rfl rfl
  replace F := F Wκ83
  exact y_rv Wκ83 dX0_init_130 rfl F

theorem At_init_run {C : zC} {n0 : Nat} {Q : zS → Prop} {a0 : Nat} {a1 : Nat} {a2 : Nat} {κ : zS} (W : zW C n0 κ) (Ta0 : zT κ a0 = 43) (Ta1 : zT κ a1 = 7) (Ta2 : zT κ a2 = 5) (F : w_At_init_0 C (zn κ) Q a0 a1 a2 κ) : zRun C 2 mAt_init [.ref a0, .ref a1, .ref a2] κ (oV Q noX) := z_run (m_ent _ 0) (t_At_init_0 (W.lo (Nat.le_trans W.1.2.1 W.1.2.2) (Nat.le_refl _)) Ta0 Ta1 Ta2 F)

theorem dJ7_fill_53178_0 : decode cJ7_fill_53178 0 = .ok (.iconst 0, 1) := by decide +kernel
theorem dJ7_fill_53178_1 : decode cJ7_fill_53178 1 = .ok (.istore_n 2, 1) := by decide +kernel
theorem dJ7_fill_53178_2 : decode cJ7_fill_53178 2 = .ok (.aload_n 0, 1) := by decide +kernel
theorem dJ7_fill_53178_3 : decode cJ7_fill_53178 3 = .ok (.arraylength, 1) := by decide +kernel
theorem dJ7_fill_53178_4 : decode cJ7_fill_53178 4 = .ok (.istore_n 3, 1) := by decide +kernel
theorem dJ7_fill_53178_5 : decode cJ7_fill_53178 5 = .ok (.iload_n 2, 1) := by decide +kernel
theorem dJ7_fill_53178_6 : decode cJ7_fill_53178 6 = .ok (.iload_n 3, 1) := by decide +kernel
theorem dJ7_fill_53178_7 : decode cJ7_fill_53178 7 = .ok (.if_icmp .ge 13, 3) := by decide +kernel
theorem dJ7_fill_53178_10 : decode cJ7_fill_53178 10 = .ok (.aload_n 0, 1) := by decide +kernel
theorem dJ7_fill_53178_11 : decode cJ7_fill_53178 11 = .ok (.iload_n 2, 1) := by decide +kernel
theorem dJ7_fill_53178_12 : decode cJ7_fill_53178 12 = .ok (.iload_n 1, 1) := by decide +kernel
theorem dJ7_fill_53178_13 : decode cJ7_fill_53178 13 = .ok (.iastore, 1) := by decide +kernel
theorem dJ7_fill_53178_14 : decode cJ7_fill_53178 14 = .ok (.iinc 2 1, 3) := by decide +kernel
theorem dJ7_fill_53178_17 : decode cJ7_fill_53178 17 = .ok (.goto (-12), 3) := by decide +kernel
theorem dJ7_fill_53178_20 : decode cJ7_fill_53178 20 = .ok (.return_, 1) := by decide +kernel
def w_Ar_fill_5 (C : zC) (n0 : Nat) (Q : zS → Prop)  (a0 : Nat) (a1 : Int32) (a2 : Int32) (a3 : Int32) (κ : zS) : Prop :=
  ∃ I : Nat → Nat → Int32 → Int32 → Int32 → zS → Prop, (∃ n, I n a0 a1 a2 a3 κ) ∧ ∀ n a0 a1 a2 a3 κ, zW C n0 κ → zT κ a0 = 20 → I n a0 a1 a2 a3 κ →
    (a3 ≤ a2 →
      Q κ) ∧
    (¬ a3 ≤ a2 →
      inb a2 (zN κ a0) ∧
      ∀ κ1, κ1 = ua κ a0 (a2).toNatClampNeg a1 →
      ∀ _ : zW C n0 κ1,
      ∀ v2_2 : Int32, v2_2 = a2 + (1 : Int32) →
      ∃ k < n, I k a0 a1 v2_2 a3 κ1)
theorem t_Ar_fill_5 {C : zC} {n0 : Nat} {Q : zS → Prop}   {a0 : Nat} {a1 : Int32} {a2 : Int32} {a3 : Int32} {κ : zS} (W : zW C n0 κ) (Ta0 : zT κ a0 = 20) (F : w_Ar_fill_5 C n0 Q  a0 a1 a2 a3 κ) : zG C n0 0 mAr_fill 5 [some (.ref a0), some (.int a1), some (.int a2), some (.int a3)] [] κ (oV Q noX) := by
  obtain ⟨I, ⟨m0, hI0⟩, F0⟩ := F
  have key : ∀ n a0 a1 a2 a3 κ, zW C n0 κ → zT κ a0 = 20 → I n a0 a1 a2 a3 κ → zG C n0 0 mAr_fill 5 [some (.ref a0), some (.int a1), some (.int a2), some (.int a3)] [] κ (oV Q noX) := by
    intro n
    induction n using Nat.strongRecOn with
    | _ n ih =>
      intro a0 a1 a2 a3 κ W Ta0 hI
      have F := F0 n a0 a1 a2 a3 κ W Ta0 hI
      clear hI hI0
      refine y_iln dJ7_fill_53178_5 rfl ?_
      refine y_iln dJ7_fill_53178_6 rfl ?_
      refine y_ii (a3 ≤ a2) dJ7_fill_53178_7 (t := 20) rfl rfl (fun c9 => ?_) (fun c9 => ?_)
      · replace F := F.1 c9
        exact y_rv W dJ7_fill_53178_20 rfl F
      · replace F := F.2 c9
        refine y_aln dJ7_fill_53178_10 rfl ?_
        refine y_iln dJ7_fill_53178_11 rfl ?_
        refine y_iln dJ7_fill_53178_12 rfl ?_
        refine y_ast W dJ7_fill_53178_13 Ta0 F.1 (fun κ1 eκ1 => ?_)
        replace F := F.2 κ1 eκ1
        have Wκ1 : zW C n0 κ1 := zW_ua W eκ1 (fun h => absurd (h.symm.trans Ta0) (by decide)) (fun h => absurd (h.symm.trans Ta0) (by decide))
        have Mκ1 : zM (zn κ) κ κ1 := by rw [eκ1]; exact zM.of rfl rfl rfl
        replace F := F Wκ1
        refine y_incb dJ7_fill_53178_14 zi_1 rfl (Nat.le_of_ble_eq_true rfl) (fun v2_2 ev2_2 => ?_)
        replace F := F v2_2 ev2_2
        refine y_goto dJ7_fill_53178_17 (t := 5) rfl ?_
        have h3 := (ztm W Mκ1 Ta0)
        obtain ⟨k, hk, hI⟩ := F
        exact y_k (ih k hk _ _ _ _ _ Wκ1 h3 hI) ⟨rfl, rfl, rfl, rfl, trivial⟩
  exact key m0 a0 a1 a2 a3 κ W Ta0 hI0

def w_Ar_fill_0 (C : zC) (n0 : Nat) (Q : zS → Prop)  (a0 : Nat) (a1 : Int32) (κ : zS) : Prop :=
  ∀ v3_1 : Int32, v3_1 = (Int32.ofNat (zN κ a0)) →
  w_Ar_fill_5 C n0 Q  a0 a1 (0 : Int32) v3_1 κ
theorem t_Ar_fill_0 {C : zC} {n0 : Nat} {Q : zS → Prop}   {a0 : Nat} {a1 : Int32} {κ : zS} (W : zW C n0 κ) (Ta0 : zT κ a0 = 20) (F : w_Ar_fill_0 C n0 Q  a0 a1 κ) : zG C n0 0 mAr_fill 0 [some (.ref a0), some (.int a1), none, none] [] κ (oV Q noX) := by
  unfold w_Ar_fill_0 at F
  refine y_ic dJ7_fill_53178_0 zi_0 ?_
  refine y_isn dJ7_fill_53178_1 (Nat.le_of_ble_eq_true rfl) rfl ?_
  refine y_aln dJ7_fill_53178_2 rfl ?_
  refine y_alen (t := 0) dJ7_fill_53178_3 Ta0 (by decide) ?_
  refine y_isnb dJ7_fill_53178_4 (Nat.le_of_ble_eq_true rfl) (fun v3_1 ev3_1 => ?_)
  replace F := F v3_1 ev3_1
  exact y_k (t_Ar_fill_5  W Ta0 F) ⟨rfl, rfl, rfl, rfl, trivial⟩

theorem Ar_fill_run {C : zC} {n0 : Nat} {Q : zS → Prop} {a0 : Nat} {a1 : Int32} {κ : zS} (W : zW C n0 κ) (Ta0 : zT κ a0 = 20) (F : w_Ar_fill_0 C (zn κ) Q a0 a1 κ) : zRun C 0 mAr_fill [.ref a0, .int a1] κ (oV Q noX) := z_run (m_ent _ 2) (t_Ar_fill_0 (W.lo (Nat.le_trans W.1.2.1 W.1.2.2) (Nat.le_refl _)) Ta0 F)

theorem dX3_clear_0 : decode cX3_clear 0 = .ok (.aload_n 0, 1) := by decide +kernel
theorem dX3_clear_1 : decode cX3_clear 1 = .ok (.getfield 25, 3) := by decide +kernel
theorem dX3_clear_4 : decode cX3_clear 4 = .ok (.arraylength, 1) := by decide +kernel
theorem dX3_clear_5 : decode cX3_clear 5 = .ok (.ifCond .ne 25, 3) := by decide +kernel
theorem dX3_clear_8 : decode cX3_clear 8 = .ok (.aload_n 0, 1) := by decide +kernel
theorem dX3_clear_9 : decode cX3_clear 9 = .ok (.aload_n 0, 1) := by decide +kernel
theorem dX3_clear_10 : decode cX3_clear 10 = .ok (.getfield 18, 3) := by decide +kernel
theorem dX3_clear_13 : decode cX3_clear 13 = .ok (.newarray .int, 2) := by decide +kernel
theorem dX3_clear_15 : decode cX3_clear 15 = .ok (.putfield 25, 3) := by decide +kernel
theorem dX3_clear_18 : decode cX3_clear 18 = .ok (.aload_n 0, 1) := by decide +kernel
theorem dX3_clear_19 : decode cX3_clear 19 = .ok (.aload_n 0, 1) := by decide +kernel
theorem dX3_clear_20 : decode cX3_clear 20 = .ok (.getfield 9, 3) := by decide +kernel
theorem dX3_clear_23 : decode cX3_clear 23 = .ok (.iconst 1, 1) := by decide +kernel
theorem dX3_clear_24 : decode cX3_clear 24 = .ok (.iadd, 1) := by decide +kernel
theorem dX3_clear_25 : decode cX3_clear 25 = .ok (.newarray .int, 2) := by decide +kernel
theorem dX3_clear_27 : decode cX3_clear 27 = .ok (.putfield 21, 3) := by decide +kernel
theorem dX3_clear_30 : decode cX3_clear 30 = .ok (.aload_n 0, 1) := by decide +kernel
theorem dX3_clear_31 : decode cX3_clear 31 = .ok (.getfield 25, 3) := by decide +kernel
theorem dX3_clear_34 : decode cX3_clear 34 = .ok (.iconst 0, 1) := by decide +kernel
theorem dX3_clear_35 : decode cX3_clear 35 = .ok (.invokestatic 31, 3) := by decide +kernel
theorem dX3_clear_38 : decode cX3_clear 38 = .ok (.aload_n 0, 1) := by decide +kernel
theorem dX3_clear_39 : decode cX3_clear 39 = .ok (.iconst 0, 1) := by decide +kernel
theorem dX3_clear_40 : decode cX3_clear 40 = .ok (.putfield 37, 3) := by decide +kernel
theorem dX3_clear_43 : decode cX3_clear 43 = .ok (.return_, 1) := by decide +kernel
def w_Ho_clear_30 (C : zC) (n0 : Nat) (Q : zS → Prop)  (a0 : Nat) (κ : zS) : Prop :=
  ∀ _ : zT κ (zR κ hoTable a0) = 20,
  zRun C 0 mAr_fill [.ref (zR κ hoTable a0), .int (0 : Int32)] κ (oV (fun κ1 =>
    ∀ _ : zW C n0 κ1,
    ∀ _ : zM (zn κ) κ κ1,
    ∀ κ4, κ4 = ui κ1 hoTotal a0 (0 : Int32) →
    ∀ _ : zW C n0 κ4,
    Q κ4) noX)
theorem t_Ho_clear_30 {C : zC} {n0 : Nat} {Q : zS → Prop}   {a0 : Nat} {κ : zS} (W : zW C n0 κ) (Ta0 : zT κ a0 = 6) (F : w_Ho_clear_30 C n0 Q  a0 κ) : zG C n0 1 mHo_clear 30 [some (.ref a0)] [] κ (oV Q noX) := by
  unfold w_Ho_clear_30 at F
  refine y_aln dX3_clear_30 rfl ?_
  refine gf_X3_25 W dX3_clear_31 rfl Ta0 ?_
  refine y_ic dX3_clear_34 zi_0 ?_
  replace F := F (ty_hoTable W Ta0)
  refine k_X3_31 W dX3_clear_35 rfl (Nat.le_of_ble_eq_true rfl) (Nat.le_of_ble_eq_true rfl)  F (fun  κ1 Wκ1 Mκ1 F => ?_) (fun _ _ h9 => False.elim h9)
  replace F := F Wκ1 Mκ1
  refine y_aln dX3_clear_38 rfl ?_
  refine y_ic dX3_clear_39 zi_0 ?_
  have h5 := (ztm W Mκ1 Ta0)
  refine pf_X3_37 Wκ1 dX3_clear_40 rfl (Or.inl h5) (fun κ4 eκ4 => ?_)
  replace F := F κ4 eκ4
  have Wκ4 : zW C n0 κ4 := zW_ui Wκ1 eκ4 (fun h => absurd h (by decide))
  have Mκ4 : zM (zn κ1) κ1 κ4 := by rw [eκ4]; exact zM.of rfl rfl rfl
  replace F := F Wκ4
  exact y_rv Wκ4 dX3_clear_43 rfl F

def w_Ho_clear_0 (C : zC) (n0 : Nat) (Q : zS → Prop)  (a0 : Nat) (κ : zS) : Prop :=
  (¬ (Int32.ofNat (zN κ (zR κ hoTable a0))) = (0 : Int32) →
    w_Ho_clear_30 C n0 Q  a0 κ) ∧
  ((Int32.ofNat (zN κ (zR κ hoTable a0))) = (0 : Int32) →
    nsz (zI κ hoSlots a0) ∧
    ∀ κ1, κ1 = na κ 20 ((zI κ hoSlots a0)).toNatClampNeg →
    ∀ _ : zW C n0 κ1,
    zO κ1 (zn κ) = (0, 0) ∧
    ∀ κ4, κ4 = uo κ1 hoTable a0 (zn κ) →
    ∀ _ : zW C n0 κ4,
    nsz ((zI κ4 hoMost a0) + (1 : Int32)) ∧
    ∀ κ8, κ8 = na κ4 20 (((zI κ4 hoMost a0) + (1 : Int32))).toNatClampNeg →
    ∀ _ : zW C n0 κ8,
    zO κ8 (zn κ4) = (0, 0) ∧
    ∀ κ11, κ11 = uo κ8 hoStarts a0 (zn κ4) →
    ∀ _ : zW C n0 κ11,
    w_Ho_clear_30 C n0 Q  a0 κ11)
theorem t_Ho_clear_0 {C : zC} {n0 : Nat} {Q : zS → Prop}   {a0 : Nat} {κ : zS} (W : zW C n0 κ) (Ta0 : zT κ a0 = 6) (F : w_Ho_clear_0 C n0 Q  a0 κ) : zG C n0 1 mHo_clear 0 [some (.ref a0)] [] κ (oV Q noX) := by
  unfold w_Ho_clear_0 at F
  refine y_aln dX3_clear_0 rfl ?_
  refine gf_X3_25 W dX3_clear_1 rfl Ta0 ?_
  refine y_alen (t := 0) dX3_clear_4 (ty_hoTable W Ta0) (by decide) ?_
  refine y_in ((Int32.ofNat (zN κ (zR κ hoTable a0))) = (0 : Int32)) dX3_clear_5 (t := 30) rfl rfl (fun c9 => ?_) (fun c9 => ?_)
  · replace F := F.1 c9
    exact y_k (t_Ho_clear_30  W Ta0 F) ⟨rfl, trivial⟩
  · replace F := F.2 c9
    refine y_aln dX3_clear_8 rfl ?_
    refine y_aln dX3_clear_9 rfl ?_
    refine gf_X3_18 dX3_clear_10 rfl (Or.inl Ta0) ?_
    have b2 := F.1
    refine y_newa (t := 0) W dX3_clear_13 (by decide) b2 (fun κ1 eκ1 => ?_)
    replace F := F.2 κ1 eκ1
    have Wκ1 : zW C n0 κ1 := zW_na W eκ1 (by decide) (by decide) b2.2
    have Mκ1 : zM (zn κ) κ κ1 := zM_na (W.lo (Nat.le_trans W.1.2.1 W.1.2.2) (Nat.le_refl _)) eκ1
    replace F := F Wκ1
    have g3 : zT κ1 (zn κ) = 20 := by rw [eκ1]; exact if_pos rfl
    have b5 := F.1
    replace F := F.2
    have h6 := (ztm W Mκ1 Ta0)
    refine pf_X3_25 Wκ1 dX3_clear_15 rfl (Or.inl h6) g3 (fun κ4 eκ4 => ?_)
    replace F := F κ4 eκ4
    have Wκ4 : zW C n0 κ4 := zW_uo Wκ1 eκ4 (fun t ht => by cases ht; exact g3) b5
    have Mκ4 : zM (zn κ1) κ1 κ4 := by rw [eκ4]; exact zM.of rfl rfl rfl
    replace F := F Wκ4
    refine y_aln dX3_clear_18 rfl ?_
    refine y_aln dX3_clear_19 rfl ?_
    have h7 := (ztm Wκ1 Mκ4 h6)
    refine gf_X3_9 dX3_clear_20 rfl (Or.inl h7) ?_
    refine y_ic dX3_clear_23 zi_1 ?_
    refine y_iadd dX3_clear_24 ?_
    have b9 := F.1
    refine y_newa (t := 0) Wκ4 dX3_clear_25 (by decide) b9 (fun κ8 eκ8 => ?_)
    replace F := F.2 κ8 eκ8
    have Wκ8 : zW C n0 κ8 := zW_na Wκ4 eκ8 (by decide) (by decide) b9.2
    have Mκ8 : zM (zn κ4) κ4 κ8 := zM_na (Wκ4.lo (Nat.le_trans Wκ4.1.2.1 Wκ4.1.2.2) (Nat.le_refl _)) eκ8
    replace F := F Wκ8
    have g10 : zT κ8 (zn κ4) = 20 := by rw [eκ8]; exact if_pos rfl
    have b12 := F.1
    replace F := F.2
    have h13 := (ztm Wκ4 Mκ8 h7)
    refine pf_X3_21 Wκ8 dX3_clear_27 rfl (Or.inl h13) g10 (fun κ11 eκ11 => ?_)
    replace F := F κ11 eκ11
    have Wκ11 : zW C n0 κ11 := zW_uo Wκ8 eκ11 (fun t ht => by cases ht; exact g10) b12
    have Mκ11 : zM (zn κ8) κ8 κ11 := by rw [eκ11]; exact zM.of rfl rfl rfl
    replace F := F Wκ11
    have h14 := (ztm Wκ8 Mκ11 h13)
    exact y_k (t_Ho_clear_30  Wκ11 h14 F) ⟨rfl, trivial⟩

theorem Ho_clear_run {C : zC} {n0 : Nat} {Q : zS → Prop} {a0 : Nat} {κ : zS} (W : zW C n0 κ) (Ta0 : zT κ a0 = 6) (F : w_Ho_clear_0 C (zn κ) Q a0 κ) : zRun C 1 mHo_clear [.ref a0] κ (oV Q noX) := z_run (m_ent _ 0) (t_Ho_clear_0 (W.lo (Nat.le_trans W.1.2.1 W.1.2.2) (Nat.le_refl _)) Ta0 F)

theorem dX0_clear_0 : decode cX0_clear 0 = .ok (.aload_n 0, 1) := by decide +kernel
theorem dX0_clear_1 : decode cX0_clear 1 = .ok (.getfield 50, 3) := by decide +kernel
theorem dX0_clear_4 : decode cX0_clear 4 = .ok (.arraylength, 1) := by decide +kernel
theorem dX0_clear_5 : decode cX0_clear 5 = .ok (.ifCond .ne 57, 3) := by decide +kernel
theorem dX0_clear_8 : decode cX0_clear 8 = .ok (.aload_n 0, 1) := by decide +kernel
theorem dX0_clear_9 : decode cX0_clear 9 = .ok (.sipush 1001, 3) := by decide +kernel
theorem dX0_clear_12 : decode cX0_clear 12 = .ok (.newarray .int, 2) := by decide +kernel
theorem dX0_clear_14 : decode cX0_clear 14 = .ok (.putfield 40, 3) := by decide +kernel
theorem dX0_clear_17 : decode cX0_clear 17 = .ok (.aload_n 0, 1) := by decide +kernel
theorem dX0_clear_18 : decode cX0_clear 18 = .ok (.sipush 1000, 3) := by decide +kernel
theorem dX0_clear_21 : decode cX0_clear 21 = .ok (.newarray .int, 2) := by decide +kernel
theorem dX0_clear_23 : decode cX0_clear 23 = .ok (.putfield 44, 3) := by decide +kernel
theorem dX0_clear_26 : decode cX0_clear 26 = .ok (.aload_n 0, 1) := by decide +kernel
theorem dX0_clear_27 : decode cX0_clear 27 = .ok (.sipush 1000, 3) := by decide +kernel
theorem dX0_clear_30 : decode cX0_clear 30 = .ok (.newarray .int, 2) := by decide +kernel
theorem dX0_clear_32 : decode cX0_clear 32 = .ok (.putfield 47, 3) := by decide +kernel
theorem dX0_clear_35 : decode cX0_clear 35 = .ok (.aload_n 0, 1) := by decide +kernel
theorem dX0_clear_36 : decode cX0_clear 36 = .ok (.sipush 1000, 3) := by decide +kernel
theorem dX0_clear_39 : decode cX0_clear 39 = .ok (.newarray .int, 2) := by decide +kernel
theorem dX0_clear_41 : decode cX0_clear 41 = .ok (.putfield 50, 3) := by decide +kernel
theorem dX0_clear_44 : decode cX0_clear 44 = .ok (.aload_n 0, 1) := by decide +kernel
theorem dX0_clear_45 : decode cX0_clear 45 = .ok (.sipush 1000, 3) := by decide +kernel
theorem dX0_clear_48 : decode cX0_clear 48 = .ok (.newarray .boolean, 2) := by decide +kernel
theorem dX0_clear_50 : decode cX0_clear 50 = .ok (.putfield 53, 3) := by decide +kernel
theorem dX0_clear_53 : decode cX0_clear 53 = .ok (.aload_n 0, 1) := by decide +kernel
theorem dX0_clear_54 : decode cX0_clear 54 = .ok (.sipush 1000, 3) := by decide +kernel
theorem dX0_clear_57 : decode cX0_clear 57 = .ok (.newarray .boolean, 2) := by decide +kernel
theorem dX0_clear_59 : decode cX0_clear 59 = .ok (.putfield 57, 3) := by decide +kernel
theorem dX0_clear_62 : decode cX0_clear 62 = .ok (.aload_n 0, 1) := by decide +kernel
theorem dX0_clear_63 : decode cX0_clear 63 = .ok (.getfield 33, 3) := by decide +kernel
theorem dX0_clear_66 : decode cX0_clear 66 = .ok (.invokevirtual 69, 3) := by decide +kernel
theorem dX0_clear_69 : decode cX0_clear 69 = .ok (.aload_n 0, 1) := by decide +kernel
theorem dX0_clear_70 : decode cX0_clear 70 = .ok (.getfield 37, 3) := by decide +kernel
theorem dX0_clear_73 : decode cX0_clear 73 = .ok (.invokevirtual 69, 3) := by decide +kernel
theorem dX0_clear_76 : decode cX0_clear 76 = .ok (.aload_n 0, 1) := by decide +kernel
theorem dX0_clear_77 : decode cX0_clear 77 = .ok (.getfield 50, 3) := by decide +kernel
theorem dX0_clear_80 : decode cX0_clear 80 = .ok (.iconst 0, 1) := by decide +kernel
theorem dX0_clear_81 : decode cX0_clear 81 = .ok (.invokestatic 72, 3) := by decide +kernel
theorem dX0_clear_84 : decode cX0_clear 84 = .ok (.aload_n 0, 1) := by decide +kernel
theorem dX0_clear_85 : decode cX0_clear 85 = .ok (.iconst 0, 1) := by decide +kernel
theorem dX0_clear_86 : decode cX0_clear 86 = .ok (.putfield 78, 3) := by decide +kernel
theorem dX0_clear_89 : decode cX0_clear 89 = .ok (.aload_n 0, 1) := by decide +kernel
theorem dX0_clear_90 : decode cX0_clear 90 = .ok (.iconst 0, 1) := by decide +kernel
theorem dX0_clear_91 : decode cX0_clear 91 = .ok (.putfield 82, 3) := by decide +kernel
theorem dX0_clear_94 : decode cX0_clear 94 = .ok (.aload_n 0, 1) := by decide +kernel
theorem dX0_clear_95 : decode cX0_clear 95 = .ok (.iconst 0, 1) := by decide +kernel
theorem dX0_clear_96 : decode cX0_clear 96 = .ok (.putfield 85, 3) := by decide +kernel
theorem dX0_clear_99 : decode cX0_clear 99 = .ok (.return_, 1) := by decide +kernel
def w_At_clear_62 (C : zC) (n0 : Nat) (Q : zS → Prop)  (a0 : Nat) (κ : zS) : Prop :=
  ∀ _ : zT κ (zR κ atStates a0) = 6,
  zRun C 1 mHo_clear [.ref (zR κ atStates a0)] κ (oV (fun κ1 =>
    ∀ _ : zW C n0 κ1,
    ∀ _ : zM (zn κ) κ κ1,
    ∀ _ : zT κ1 (zR κ1 atEndings a0) = 6,
    zRun C 1 mHo_clear [.ref (zR κ1 atEndings a0)] κ1 (oV (fun κ5 =>
      ∀ _ : zW C n0 κ5,
      ∀ _ : zM (zn κ1) κ1 κ5,
      ∀ _ : zT κ5 (zR κ5 atPlan a0) = 20,
      zRun C 0 mAr_fill [.ref (zR κ5 atPlan a0), .int (0 : Int32)] κ5 (oV (fun κ9 =>
        ∀ _ : zW C n0 κ9,
        ∀ _ : zM (zn κ5) κ5 κ9,
        ∀ κ12, κ12 = ui κ9 atNexts a0 (0 : Int32) →
        ∀ _ : zW C n0 κ12,
        ∀ κ14, κ14 = ui κ12 atRings a0 (0 : Int32) →
        ∀ _ : zW C n0 κ14,
        ∀ κ16, κ16 = ui κ14 atGreatest a0 (0 : Int32) →
        ∀ _ : zW C n0 κ16,
        Q κ16) noX)) noX)) noX)
theorem t_At_clear_62 {C : zC} {n0 : Nat} {Q : zS → Prop}   {a0 : Nat} {κ : zS} (W : zW C n0 κ) (Ta0 : zT κ a0 = 3) (F : w_At_clear_62 C n0 Q  a0 κ) : zG C n0 2 mAt_clear 62 [some (.ref a0)] [] κ (oV Q noX) := by
  unfold w_At_clear_62 at F
  refine y_aln dX0_clear_62 rfl ?_
  refine gf_X0_33 W dX0_clear_63 rfl Ta0 ?_
  replace F := F (ty_atStates W Ta0)
  refine k_X0_69 W dX0_clear_66 rfl (Nat.le_of_ble_eq_true rfl) (Nat.le_of_ble_eq_true rfl) (Or.inl (ty_atStates W Ta0)) F (fun  κ1 Wκ1 Mκ1 F => ?_) (fun _ _ h9 => False.elim h9)
  replace F := F Wκ1 Mκ1
  refine y_aln dX0_clear_69 rfl ?_
  have h4 := (ztm W Mκ1 Ta0)
  refine gf_X0_37 Wκ1 dX0_clear_70 rfl h4 ?_
  replace F := F (ty_atEndings Wκ1 h4)
  refine k_X0_69 Wκ1 dX0_clear_73 rfl (Nat.le_of_ble_eq_true rfl) (Nat.le_of_ble_eq_true rfl) (Or.inl (ty_atEndings Wκ1 h4)) F (fun  κ5 Wκ5 Mκ5 F => ?_) (fun _ _ h9 => False.elim h9)
  replace F := F Wκ5 Mκ5
  refine y_aln dX0_clear_76 rfl ?_
  have h8 := (ztm Wκ1 Mκ5 h4)
  refine gf_X0_50 Wκ5 dX0_clear_77 rfl h8 ?_
  refine y_ic dX0_clear_80 zi_0 ?_
  replace F := F (ty_atPlan Wκ5 h8)
  refine k_X0_72 Wκ5 dX0_clear_81 rfl (Nat.le_of_ble_eq_true rfl) (Nat.le_of_ble_eq_true rfl)  F (fun  κ9 Wκ9 Mκ9 F => ?_) (fun _ _ h9 => False.elim h9)
  replace F := F Wκ9 Mκ9
  refine y_aln dX0_clear_84 rfl ?_
  refine y_ic dX0_clear_85 zi_0 ?_
  have h13 := (ztm Wκ5 Mκ9 h8)
  refine pf_X0_78 Wκ9 dX0_clear_86 rfl (Or.inl h13) (fun κ12 eκ12 => ?_)
  replace F := F κ12 eκ12
  have Wκ12 : zW C n0 κ12 := zW_ui Wκ9 eκ12 (fun h => absurd h (by decide))
  have Mκ12 : zM (zn κ9) κ9 κ12 := by rw [eκ12]; exact zM.of rfl rfl rfl
  replace F := F Wκ12
  refine y_aln dX0_clear_89 rfl ?_
  refine y_ic dX0_clear_90 zi_0 ?_
  have h15 := (ztm Wκ9 Mκ12 h13)
  refine pf_X0_82 Wκ12 dX0_clear_91 rfl (Or.inl h15) (fun κ14 eκ14 => ?_)
  replace F := F κ14 eκ14
  have Wκ14 : zW C n0 κ14 := zW_ui Wκ12 eκ14 (fun h => absurd h (by decide))
  have Mκ14 : zM (zn κ12) κ12 κ14 := by rw [eκ14]; exact zM.of rfl rfl rfl
  replace F := F Wκ14
  refine y_aln dX0_clear_94 rfl ?_
  refine y_ic dX0_clear_95 zi_0 ?_
  have h17 := (ztm Wκ12 Mκ14 h15)
  refine pf_X0_85 Wκ14 dX0_clear_96 rfl (Or.inl h17) (fun κ16 eκ16 => ?_)
  replace F := F κ16 eκ16
  have Wκ16 : zW C n0 κ16 := zW_ui Wκ14 eκ16 (fun h => absurd h (by decide))
  have Mκ16 : zM (zn κ14) κ14 κ16 := by rw [eκ16]; exact zM.of rfl rfl rfl
  replace F := F Wκ16
  exact y_rv Wκ16 dX0_clear_99 rfl F

def w_At_clear_0 (C : zC) (n0 : Nat) (Q : zS → Prop)  (a0 : Nat) (κ : zS) : Prop :=
  (¬ (Int32.ofNat (zN κ (zR κ atPlan a0))) = (0 : Int32) →
    w_At_clear_62 C n0 Q  a0 κ) ∧
  ((Int32.ofNat (zN κ (zR κ atPlan a0))) = (0 : Int32) →
    nsz (1001 : Int32) ∧
    ∀ κ1, κ1 = na κ 20 ((1001 : Int32)).toNatClampNeg →
    ∀ _ : zW C n0 κ1,
    zO κ1 (zn κ) = (0, 0) ∧
    ∀ κ4, κ4 = uo κ1 atFirsts a0 (zn κ) →
    ∀ _ : zW C n0 κ4,
    nsz (1000 : Int32) ∧
    ∀ κ7, κ7 = na κ4 20 ((1000 : Int32)).toNatClampNeg →
    ∀ _ : zW C n0 κ7,
    zO κ7 (zn κ4) = (0, 0) ∧
    ∀ κ10, κ10 = uo κ7 atTotals a0 (zn κ4) →
    ∀ _ : zW C n0 κ10,
    nsz (1000 : Int32) ∧
    ∀ κ13, κ13 = na κ10 20 ((1000 : Int32)).toNatClampNeg →
    ∀ _ : zW C n0 κ13,
    zO κ13 (zn κ10) = (0, 0) ∧
    ∀ κ16, κ16 = uo κ13 atGains a0 (zn κ10) →
    ∀ _ : zW C n0 κ16,
    nsz (1000 : Int32) ∧
    ∀ κ19, κ19 = na κ16 20 ((1000 : Int32)).toNatClampNeg →
    ∀ _ : zW C n0 κ19,
    zO κ19 (zn κ16) = (0, 0) ∧
    ∀ κ22, κ22 = uo κ19 atPlan a0 (zn κ16) →
    ∀ _ : zW C n0 κ22,
    nsz (1000 : Int32) ∧
    ∀ κ25, κ25 = na κ22 23 ((1000 : Int32)).toNatClampNeg →
    ∀ _ : zW C n0 κ25,
    zO κ25 (zn κ22) = (0, 0) ∧
    ∀ κ28, κ28 = uo κ25 atChooses a0 (zn κ22) →
    ∀ _ : zW C n0 κ28,
    nsz (1000 : Int32) ∧
    ∀ κ31, κ31 = na κ28 23 ((1000 : Int32)).toNatClampNeg →
    ∀ _ : zW C n0 κ31,
    zO κ31 (zn κ28) = (0, 0) ∧
    ∀ κ34, κ34 = uo κ31 atHopeless a0 (zn κ28) →
    ∀ _ : zW C n0 κ34,
    w_At_clear_62 C n0 Q  a0 κ34)
theorem t_At_clear_0 {C : zC} {n0 : Nat} {Q : zS → Prop}   {a0 : Nat} {κ : zS} (W : zW C n0 κ) (Ta0 : zT κ a0 = 3) (F : w_At_clear_0 C n0 Q  a0 κ) : zG C n0 2 mAt_clear 0 [some (.ref a0)] [] κ (oV Q noX) := by
  unfold w_At_clear_0 at F
  refine y_aln dX0_clear_0 rfl ?_
  refine gf_X0_50 W dX0_clear_1 rfl Ta0 ?_
  refine y_alen (t := 0) dX0_clear_4 (ty_atPlan W Ta0) (by decide) ?_
  refine y_in ((Int32.ofNat (zN κ (zR κ atPlan a0))) = (0 : Int32)) dX0_clear_5 (t := 62) rfl rfl (fun c9 => ?_) (fun c9 => ?_)
  · replace F := F.1 c9
    exact y_k (t_At_clear_62  W Ta0 F) ⟨rfl, trivial⟩
  · replace F := F.2 c9
    refine y_aln dX0_clear_8 rfl ?_
    refine y_si dX0_clear_9 zs_1001 ?_
    have b2 := F.1
    refine y_newa (t := 0) W dX0_clear_12 (by decide) b2 (fun κ1 eκ1 => ?_)
    replace F := F.2 κ1 eκ1
    have Wκ1 : zW C n0 κ1 := zW_na W eκ1 (by decide) (by decide) b2.2
    have Mκ1 : zM (zn κ) κ κ1 := zM_na (W.lo (Nat.le_trans W.1.2.1 W.1.2.2) (Nat.le_refl _)) eκ1
    replace F := F Wκ1
    have g3 : zT κ1 (zn κ) = 20 := by rw [eκ1]; exact if_pos rfl
    have b5 := F.1
    replace F := F.2
    have h6 := (ztm W Mκ1 Ta0)
    refine pf_X0_40 Wκ1 dX0_clear_14 rfl (Or.inl h6) g3 (fun κ4 eκ4 => ?_)
    replace F := F κ4 eκ4
    have Wκ4 : zW C n0 κ4 := zW_uo Wκ1 eκ4 (fun t ht => by cases ht; exact g3) b5
    have Mκ4 : zM (zn κ1) κ1 κ4 := by rw [eκ4]; exact zM.of rfl rfl rfl
    replace F := F Wκ4
    refine y_aln dX0_clear_17 rfl ?_
    refine y_si dX0_clear_18 zs_1000 ?_
    have b8 := F.1
    refine y_newa (t := 0) Wκ4 dX0_clear_21 (by decide) b8 (fun κ7 eκ7 => ?_)
    replace F := F.2 κ7 eκ7
    have Wκ7 : zW C n0 κ7 := zW_na Wκ4 eκ7 (by decide) (by decide) b8.2
    have Mκ7 : zM (zn κ4) κ4 κ7 := zM_na (Wκ4.lo (Nat.le_trans Wκ4.1.2.1 Wκ4.1.2.2) (Nat.le_refl _)) eκ7
    replace F := F Wκ7
    have g9 : zT κ7 (zn κ4) = 20 := by rw [eκ7]; exact if_pos rfl
    have b11 := F.1
    replace F := F.2
    have h12 := (ztm Wκ4 Mκ7 (ztm Wκ1 Mκ4 h6))
    refine pf_X0_44 Wκ7 dX0_clear_23 rfl (Or.inl h12) g9 (fun κ10 eκ10 => ?_)
    replace F := F κ10 eκ10
    have Wκ10 : zW C n0 κ10 := zW_uo Wκ7 eκ10 (fun t ht => by cases ht; exact g9) b11
    have Mκ10 : zM (zn κ7) κ7 κ10 := by rw [eκ10]; exact zM.of rfl rfl rfl
    replace F := F Wκ10
    refine y_aln dX0_clear_26 rfl ?_
    refine y_si dX0_clear_27 zs_1000 ?_
    have b14 := F.1
    refine y_newa (t := 0) Wκ10 dX0_clear_30 (by decide) b14 (fun κ13 eκ13 => ?_)
    replace F := F.2 κ13 eκ13
    have Wκ13 : zW C n0 κ13 := zW_na Wκ10 eκ13 (by decide) (by decide) b14.2
    have Mκ13 : zM (zn κ10) κ10 κ13 := zM_na (Wκ10.lo (Nat.le_trans Wκ10.1.2.1 Wκ10.1.2.2) (Nat.le_refl _)) eκ13
    replace F := F Wκ13
    have g15 : zT κ13 (zn κ10) = 20 := by rw [eκ13]; exact if_pos rfl
    have b17 := F.1
    replace F := F.2
    have h18 := (ztm Wκ10 Mκ13 (ztm Wκ7 Mκ10 h12))
    refine pf_X0_47 Wκ13 dX0_clear_32 rfl (Or.inl h18) g15 (fun κ16 eκ16 => ?_)
    replace F := F κ16 eκ16
    have Wκ16 : zW C n0 κ16 := zW_uo Wκ13 eκ16 (fun t ht => by cases ht; exact g15) b17
    have Mκ16 : zM (zn κ13) κ13 κ16 := by rw [eκ16]; exact zM.of rfl rfl rfl
    replace F := F Wκ16
    refine y_aln dX0_clear_35 rfl ?_
    refine y_si dX0_clear_36 zs_1000 ?_
    have b20 := F.1
    refine y_newa (t := 0) Wκ16 dX0_clear_39 (by decide) b20 (fun κ19 eκ19 => ?_)
    replace F := F.2 κ19 eκ19
    have Wκ19 : zW C n0 κ19 := zW_na Wκ16 eκ19 (by decide) (by decide) b20.2
    have Mκ19 : zM (zn κ16) κ16 κ19 := zM_na (Wκ16.lo (Nat.le_trans Wκ16.1.2.1 Wκ16.1.2.2) (Nat.le_refl _)) eκ19
    replace F := F Wκ19
    have g21 : zT κ19 (zn κ16) = 20 := by rw [eκ19]; exact if_pos rfl
    have b23 := F.1
    replace F := F.2
    have h24 := (ztm Wκ16 Mκ19 (ztm Wκ13 Mκ16 h18))
    refine pf_X0_50 Wκ19 dX0_clear_41 rfl (Or.inl h24) g21 (fun κ22 eκ22 => ?_)
    replace F := F κ22 eκ22
    have Wκ22 : zW C n0 κ22 := zW_uo Wκ19 eκ22 (fun t ht => by cases ht; exact g21) b23
    have Mκ22 : zM (zn κ19) κ19 κ22 := by rw [eκ22]; exact zM.of rfl rfl rfl
    replace F := F Wκ22
    refine y_aln dX0_clear_44 rfl ?_
    refine y_si dX0_clear_45 zs_1000 ?_
    have b26 := F.1
    refine y_newa (t := 3) Wκ22 dX0_clear_48 (by decide) b26 (fun κ25 eκ25 => ?_)
    replace F := F.2 κ25 eκ25
    have Wκ25 : zW C n0 κ25 := zW_na Wκ22 eκ25 (by decide) (by decide) b26.2
    have Mκ25 : zM (zn κ22) κ22 κ25 := zM_na (Wκ22.lo (Nat.le_trans Wκ22.1.2.1 Wκ22.1.2.2) (Nat.le_refl _)) eκ25
    replace F := F Wκ25
    have g27 : zT κ25 (zn κ22) = 23 := by rw [eκ25]; exact if_pos rfl
    have b29 := F.1
    replace F := F.2
    have h30 := (ztm Wκ22 Mκ25 (ztm Wκ19 Mκ22 h24))
    refine pf_X0_53 Wκ25 dX0_clear_50 rfl (Or.inl h30) g27 (fun κ28 eκ28 => ?_)
    replace F := F κ28 eκ28
    have Wκ28 : zW C n0 κ28 := zW_uo Wκ25 eκ28 (fun t ht => by cases ht; exact g27) b29
    have Mκ28 : zM (zn κ25) κ25 κ28 := by rw [eκ28]; exact zM.of rfl rfl rfl
    replace F := F Wκ28
    refine y_aln dX0_clear_53 rfl ?_
    refine y_si dX0_clear_54 zs_1000 ?_
    have b32 := F.1
    refine y_newa (t := 3) Wκ28 dX0_clear_57 (by decide) b32 (fun κ31 eκ31 => ?_)
    replace F := F.2 κ31 eκ31
    have Wκ31 : zW C n0 κ31 := zW_na Wκ28 eκ31 (by decide) (by decide) b32.2
    have Mκ31 : zM (zn κ28) κ28 κ31 := zM_na (Wκ28.lo (Nat.le_trans Wκ28.1.2.1 Wκ28.1.2.2) (Nat.le_refl _)) eκ31
    replace F := F Wκ31
    have g33 : zT κ31 (zn κ28) = 23 := by rw [eκ31]; exact if_pos rfl
    have b35 := F.1
    replace F := F.2
    have h36 := (ztm Wκ28 Mκ31 (ztm Wκ25 Mκ28 h30))
    refine pf_X0_57 Wκ31 dX0_clear_59 rfl (Or.inl h36) g33 (fun κ34 eκ34 => ?_)
    replace F := F κ34 eκ34
    have Wκ34 : zW C n0 κ34 := zW_uo Wκ31 eκ34 (fun t ht => by cases ht; exact g33) b35
    have Mκ34 : zM (zn κ31) κ31 κ34 := by rw [eκ34]; exact zM.of rfl rfl rfl
    replace F := F Wκ34
    have h37 := (ztm Wκ31 Mκ34 h36)
    exact y_k (t_At_clear_62  Wκ34 h37 F) ⟨rfl, trivial⟩

theorem At_clear_run {C : zC} {n0 : Nat} {Q : zS → Prop} {a0 : Nat} {κ : zS} (W : zW C n0 κ) (Ta0 : zT κ a0 = 3) (F : w_At_clear_0 C (zn κ) Q a0 κ) : zRun C 2 mAt_clear [.ref a0] κ (oV Q noX) := z_run (m_ent _ 0) (t_At_clear_0 (W.lo (Nat.le_trans W.1.2.1 W.1.2.2) (Nat.le_refl _)) Ta0 F)

theorem dX0_holds_0 : decode cX0_holds 0 = .ok (.aload_n 0, 1) := by decide +kernel
theorem dX0_holds_1 : decode cX0_holds 1 = .ok (.getfield 88, 3) := by decide +kernel
theorem dX0_holds_4 : decode cX0_holds 4 = .ok (.ifCond .eq 22, 3) := by decide +kernel
theorem dX0_holds_7 : decode cX0_holds 7 = .ok (.iload_n 1, 1) := by decide +kernel
theorem dX0_holds_8 : decode cX0_holds 8 = .ok (.ifCond .lt 18, 3) := by decide +kernel
theorem dX0_holds_11 : decode cX0_holds 11 = .ok (.iload_n 1, 1) := by decide +kernel
theorem dX0_holds_12 : decode cX0_holds 12 = .ok (.aload_n 0, 1) := by decide +kernel
theorem dX0_holds_13 : decode cX0_holds 13 = .ok (.getfield 33, 3) := by decide +kernel
theorem dX0_holds_16 : decode cX0_holds 16 = .ok (.getfield 92, 3) := by decide +kernel
theorem dX0_holds_19 : decode cX0_holds 19 = .ok (.if_icmp .ge 7, 3) := by decide +kernel
theorem dX0_holds_22 : decode cX0_holds 22 = .ok (.iconst 1, 1) := by decide +kernel
theorem dX0_holds_23 : decode cX0_holds 23 = .ok (.goto 4, 3) := by decide +kernel
theorem dX0_holds_26 : decode cX0_holds 26 = .ok (.iconst 0, 1) := by decide +kernel
theorem dX0_holds_27 : decode cX0_holds 27 = .ok (.ireturn, 1) := by decide +kernel
def w_At_holds_0 (C : zC) (n0 : Nat) (Q : Int32 → zS → Prop)  (a0 : Nat) (a1 : Int32) (κ : zS) : Prop :=
  ((zI κ atExplored a0) = (0 : Int32) →
    Q (0 : Int32) κ) ∧
  (¬ (zI κ atExplored a0) = (0 : Int32) →
    (a1 < (0 : Int32) →
      Q (0 : Int32) κ) ∧
    (¬ a1 < (0 : Int32) →
      ((zI κ hoTotal (zR κ atStates a0)) ≤ a1 →
        Q (0 : Int32) κ) ∧
      (¬ (zI κ hoTotal (zR κ atStates a0)) ≤ a1 →
        Q (1 : Int32) κ)))
theorem t_At_holds_0 {C : zC} {n0 : Nat} {Q : Int32 → zS → Prop}   {a0 : Nat} {a1 : Int32} {κ : zS} (W : zW C n0 κ) (Ta0 : zT κ a0 = 3) (F : w_At_holds_0 C n0 Q  a0 a1 κ) : zG C n0 0 mAt_holds 0 [some (.ref a0), some (.int a1)] [] κ (oI Q noX) := by
  unfold w_At_holds_0 at F
  refine y_aln dX0_holds_0 rfl ?_
  refine gf_X0_88 dX0_holds_1 rfl (Or.inl Ta0) ?_
  refine y_i ((zI κ atExplored a0) = (0 : Int32)) dX0_holds_4 (t := 26) rfl rfl (fun c9 => ?_) (fun c9 => ?_)
  · replace F := F.1 c9
    refine y_ic dX0_holds_26 zi_0 ?_
    exact y_ri W dX0_holds_27 rfl (nb_nar nb_0) F
  · replace F := F.2 c9
    refine y_iln dX0_holds_7 rfl ?_
    refine y_i (a1 < (0 : Int32)) dX0_holds_8 (t := 26) rfl rfl (fun c9 => ?_) (fun c9 => ?_)
    · replace F := F.1 c9
      refine y_ic dX0_holds_26 zi_0 ?_
      exact y_ri W dX0_holds_27 rfl (nb_nar nb_0) F
    · replace F := F.2 c9
      refine y_iln dX0_holds_11 rfl ?_
      refine y_aln dX0_holds_12 rfl ?_
      refine gf_X0_33 W dX0_holds_13 rfl Ta0 ?_
      refine gf_X0_92 dX0_holds_16 rfl (Or.inl (ty_atStates W Ta0)) ?_
      refine y_ii ((zI κ hoTotal (zR κ atStates a0)) ≤ a1) dX0_holds_19 (t := 26) rfl rfl (fun c9 => ?_) (fun c9 => ?_)
      · replace F := F.1 c9
        refine y_ic dX0_holds_26 zi_0 ?_
        exact y_ri W dX0_holds_27 rfl (nb_nar nb_0) F
      · replace F := F.2 c9
        refine y_ic dX0_holds_22 zi_1 ?_
        refine y_goto dX0_holds_23 (t := 27) rfl ?_
        exact y_ri W dX0_holds_27 rfl (nb_nar nb_1) F

theorem At_holds_run {C : zC} {n0 : Nat} {Q : Int32 → zS → Prop} {a0 : Nat} {a1 : Int32} {κ : zS} (W : zW C n0 κ) (Ta0 : zT κ a0 = 3) (F : w_At_holds_0 C (zn κ) Q a0 a1 κ) : zRun C 0 mAt_holds [.ref a0, .int a1] κ (oI Q noX) := z_run (m_ent _ 0) (t_At_holds_0 (W.lo (Nat.le_trans W.1.2.1 W.1.2.2) (Nat.le_refl _)) Ta0 F)

theorem dX0_holdsEnding_0 : decode cX0_holdsEnding 0 = .ok (.aload_n 0, 1) := by decide +kernel
theorem dX0_holdsEnding_1 : decode cX0_holdsEnding 1 = .ok (.getfield 88, 3) := by decide +kernel
theorem dX0_holdsEnding_4 : decode cX0_holdsEnding 4 = .ok (.ifCond .eq 22, 3) := by decide +kernel
theorem dX0_holdsEnding_7 : decode cX0_holdsEnding 7 = .ok (.iload_n 1, 1) := by decide +kernel
theorem dX0_holdsEnding_8 : decode cX0_holdsEnding 8 = .ok (.ifCond .lt 18, 3) := by decide +kernel
theorem dX0_holdsEnding_11 : decode cX0_holdsEnding 11 = .ok (.iload_n 1, 1) := by decide +kernel
theorem dX0_holdsEnding_12 : decode cX0_holdsEnding 12 = .ok (.aload_n 0, 1) := by decide +kernel
theorem dX0_holdsEnding_13 : decode cX0_holdsEnding 13 = .ok (.getfield 37, 3) := by decide +kernel
theorem dX0_holdsEnding_16 : decode cX0_holdsEnding 16 = .ok (.getfield 92, 3) := by decide +kernel
theorem dX0_holdsEnding_19 : decode cX0_holdsEnding 19 = .ok (.if_icmp .ge 7, 3) := by decide +kernel
theorem dX0_holdsEnding_22 : decode cX0_holdsEnding 22 = .ok (.iconst 1, 1) := by decide +kernel
theorem dX0_holdsEnding_23 : decode cX0_holdsEnding 23 = .ok (.goto 4, 3) := by decide +kernel
theorem dX0_holdsEnding_26 : decode cX0_holdsEnding 26 = .ok (.iconst 0, 1) := by decide +kernel
theorem dX0_holdsEnding_27 : decode cX0_holdsEnding 27 = .ok (.ireturn, 1) := by decide +kernel
def w_At_holdsEnding_0 (C : zC) (n0 : Nat) (Q : Int32 → zS → Prop)  (a0 : Nat) (a1 : Int32) (κ : zS) : Prop :=
  ((zI κ atExplored a0) = (0 : Int32) →
    Q (0 : Int32) κ) ∧
  (¬ (zI κ atExplored a0) = (0 : Int32) →
    (a1 < (0 : Int32) →
      Q (0 : Int32) κ) ∧
    (¬ a1 < (0 : Int32) →
      ((zI κ hoTotal (zR κ atEndings a0)) ≤ a1 →
        Q (0 : Int32) κ) ∧
      (¬ (zI κ hoTotal (zR κ atEndings a0)) ≤ a1 →
        Q (1 : Int32) κ)))
theorem t_At_holdsEnding_0 {C : zC} {n0 : Nat} {Q : Int32 → zS → Prop}   {a0 : Nat} {a1 : Int32} {κ : zS} (W : zW C n0 κ) (Ta0 : zT κ a0 = 3) (F : w_At_holdsEnding_0 C n0 Q  a0 a1 κ) : zG C n0 0 mAt_holdsEnding 0 [some (.ref a0), some (.int a1)] [] κ (oI Q noX) := by
  unfold w_At_holdsEnding_0 at F
  refine y_aln dX0_holdsEnding_0 rfl ?_
  refine gf_X0_88 dX0_holdsEnding_1 rfl (Or.inl Ta0) ?_
  refine y_i ((zI κ atExplored a0) = (0 : Int32)) dX0_holdsEnding_4 (t := 26) rfl rfl (fun c9 => ?_) (fun c9 => ?_)
  · replace F := F.1 c9
    refine y_ic dX0_holdsEnding_26 zi_0 ?_
    exact y_ri W dX0_holdsEnding_27 rfl (nb_nar nb_0) F
  · replace F := F.2 c9
    refine y_iln dX0_holdsEnding_7 rfl ?_
    refine y_i (a1 < (0 : Int32)) dX0_holdsEnding_8 (t := 26) rfl rfl (fun c9 => ?_) (fun c9 => ?_)
    · replace F := F.1 c9
      refine y_ic dX0_holdsEnding_26 zi_0 ?_
      exact y_ri W dX0_holdsEnding_27 rfl (nb_nar nb_0) F
    · replace F := F.2 c9
      refine y_iln dX0_holdsEnding_11 rfl ?_
      refine y_aln dX0_holdsEnding_12 rfl ?_
      refine gf_X0_37 W dX0_holdsEnding_13 rfl Ta0 ?_
      refine gf_X0_92 dX0_holdsEnding_16 rfl (Or.inl (ty_atEndings W Ta0)) ?_
      refine y_ii ((zI κ hoTotal (zR κ atEndings a0)) ≤ a1) dX0_holdsEnding_19 (t := 26) rfl rfl (fun c9 => ?_) (fun c9 => ?_)
      · replace F := F.1 c9
        refine y_ic dX0_holdsEnding_26 zi_0 ?_
        exact y_ri W dX0_holdsEnding_27 rfl (nb_nar nb_0) F
      · replace F := F.2 c9
        refine y_ic dX0_holdsEnding_22 zi_1 ?_
        refine y_goto dX0_holdsEnding_23 (t := 27) rfl ?_
        exact y_ri W dX0_holdsEnding_27 rfl (nb_nar nb_1) F

theorem At_holdsEnding_run {C : zC} {n0 : Nat} {Q : Int32 → zS → Prop} {a0 : Nat} {a1 : Int32} {κ : zS} (W : zW C n0 κ) (Ta0 : zT κ a0 = 3) (F : w_At_holdsEnding_0 C (zn κ) Q a0 a1 κ) : zRun C 0 mAt_holdsEnding [.ref a0, .int a1] κ (oI Q noX) := z_run (m_ent _ 0) (t_At_holdsEnding_0 (W.lo (Nat.le_trans W.1.2.1 W.1.2.2) (Nat.le_refl _)) Ta0 F)

theorem dX0_waysOf_0 : decode cX0_waysOf 0 = .ok (.aload_n 0, 1) := by decide +kernel
theorem dX0_waysOf_1 : decode cX0_waysOf 1 = .ok (.getfield 40, 3) := by decide +kernel
theorem dX0_waysOf_4 : decode cX0_waysOf 4 = .ok (.iload_n 1, 1) := by decide +kernel
theorem dX0_waysOf_5 : decode cX0_waysOf 5 = .ok (.iconst 1, 1) := by decide +kernel
theorem dX0_waysOf_6 : decode cX0_waysOf 6 = .ok (.iadd, 1) := by decide +kernel
theorem dX0_waysOf_7 : decode cX0_waysOf 7 = .ok (.iaload, 1) := by decide +kernel
theorem dX0_waysOf_8 : decode cX0_waysOf 8 = .ok (.aload_n 0, 1) := by decide +kernel
theorem dX0_waysOf_9 : decode cX0_waysOf 9 = .ok (.getfield 40, 3) := by decide +kernel
theorem dX0_waysOf_12 : decode cX0_waysOf 12 = .ok (.iload_n 1, 1) := by decide +kernel
theorem dX0_waysOf_13 : decode cX0_waysOf 13 = .ok (.iaload, 1) := by decide +kernel
theorem dX0_waysOf_14 : decode cX0_waysOf 14 = .ok (.isub, 1) := by decide +kernel
theorem dX0_waysOf_15 : decode cX0_waysOf 15 = .ok (.ireturn, 1) := by decide +kernel
def w_At_waysOf_0 (C : zC) (n0 : Nat) (Q : Int32 → zS → Prop)  (a0 : Nat) (a1 : Int32) (κ : zS) : Prop :=
  inb (a1 + (1 : Int32)) (zN κ (zR κ atFirsts a0)) ∧
  inb a1 (zN κ (zR κ atFirsts a0)) ∧
  Q ((zA κ (zR κ atFirsts a0) ((a1 + (1 : Int32))).toNatClampNeg) - (zA κ (zR κ atFirsts a0) (a1).toNatClampNeg)) κ
theorem t_At_waysOf_0 {C : zC} {n0 : Nat} {Q : Int32 → zS → Prop}   {a0 : Nat} {a1 : Int32} {κ : zS} (W : zW C n0 κ) (Ta0 : zT κ a0 = 3) (F : w_At_waysOf_0 C n0 Q  a0 a1 κ) : zG C n0 0 mAt_waysOf 0 [some (.ref a0), some (.int a1)] [] κ (oI Q noX) := by
  unfold w_At_waysOf_0 at F
  refine y_aln dX0_waysOf_0 rfl ?_
  refine gf_X0_40 W dX0_waysOf_1 rfl Ta0 ?_
  refine y_iln dX0_waysOf_4 rfl ?_
  refine y_ic dX0_waysOf_5 zi_1 ?_
  refine y_iadd dX0_waysOf_6 ?_
  refine y_ald dX0_waysOf_7 (ty_atFirsts W Ta0) F.1 ?_
  replace F := F.2
  refine y_aln dX0_waysOf_8 rfl ?_
  refine gf_X0_40 W dX0_waysOf_9 rfl Ta0 ?_
  refine y_iln dX0_waysOf_12 rfl ?_
  refine y_ald dX0_waysOf_13 (ty_atFirsts W Ta0) F.1 ?_
  replace F := F.2
  refine y_isub dX0_waysOf_14 ?_
  exact y_ri W dX0_waysOf_15 rfl in_nar F

theorem At_waysOf_run {C : zC} {n0 : Nat} {Q : Int32 → zS → Prop} {a0 : Nat} {a1 : Int32} {κ : zS} (W : zW C n0 κ) (Ta0 : zT κ a0 = 3) (F : w_At_waysOf_0 C (zn κ) Q a0 a1 κ) : zRun C 0 mAt_waysOf [.ref a0, .int a1] κ (oI Q noX) := z_run (m_ent _ 0) (t_At_waysOf_0 (W.lo (Nat.le_trans W.1.2.1 W.1.2.2) (Nat.le_refl _)) Ta0 F)

theorem dX0_divisorOf_0 : decode cX0_divisorOf 0 = .ok (.aload_n 0, 1) := by decide +kernel
theorem dX0_divisorOf_1 : decode cX0_divisorOf 1 = .ok (.getfield 53, 3) := by decide +kernel
theorem dX0_divisorOf_4 : decode cX0_divisorOf 4 = .ok (.iload_n 1, 1) := by decide +kernel
theorem dX0_divisorOf_5 : decode cX0_divisorOf 5 = .ok (.baload, 1) := by decide +kernel
theorem dX0_divisorOf_6 : decode cX0_divisorOf 6 = .ok (.ifCond .eq 7, 3) := by decide +kernel
theorem dX0_divisorOf_9 : decode cX0_divisorOf 9 = .ok (.iconst 1, 1) := by decide +kernel
theorem dX0_divisorOf_10 : decode cX0_divisorOf 10 = .ok (.goto 9, 3) := by decide +kernel
theorem dX0_divisorOf_13 : decode cX0_divisorOf 13 = .ok (.aload_n 0, 1) := by decide +kernel
theorem dX0_divisorOf_14 : decode cX0_divisorOf 14 = .ok (.getfield 44, 3) := by decide +kernel
theorem dX0_divisorOf_17 : decode cX0_divisorOf 17 = .ok (.iload_n 1, 1) := by decide +kernel
theorem dX0_divisorOf_18 : decode cX0_divisorOf 18 = .ok (.iaload, 1) := by decide +kernel
theorem dX0_divisorOf_19 : decode cX0_divisorOf 19 = .ok (.ireturn, 1) := by decide +kernel
def w_At_divisorOf_0 (C : zC) (n0 : Nat) (Q : Int32 → zS → Prop)  (a0 : Nat) (a1 : Int32) (κ : zS) : Prop :=
  inb a1 (zN κ (zR κ atChooses a0)) ∧
  ((zA κ (zR κ atChooses a0) (a1).toNatClampNeg) = (0 : Int32) →
    inb a1 (zN κ (zR κ atTotals a0)) ∧
    Q (zA κ (zR κ atTotals a0) (a1).toNatClampNeg) κ) ∧
  (¬ (zA κ (zR κ atChooses a0) (a1).toNatClampNeg) = (0 : Int32) →
    Q (1 : Int32) κ)
theorem t_At_divisorOf_0 {C : zC} {n0 : Nat} {Q : Int32 → zS → Prop}   {a0 : Nat} {a1 : Int32} {κ : zS} (W : zW C n0 κ) (Ta0 : zT κ a0 = 3) (F : w_At_divisorOf_0 C n0 Q  a0 a1 κ) : zG C n0 0 mAt_divisorOf 0 [some (.ref a0), some (.int a1)] [] κ (oI Q noX) := by
  unfold w_At_divisorOf_0 at F
  refine y_aln dX0_divisorOf_0 rfl ?_
  refine gf_X0_53 W dX0_divisorOf_1 rfl Ta0 ?_
  refine y_iln dX0_divisorOf_4 rfl ?_
  refine y_zld dX0_divisorOf_5 (ty_atChooses W Ta0) F.1 ?_
  replace F := F.2
  refine y_i ((zA κ (zR κ atChooses a0) (a1).toNatClampNeg) = (0 : Int32)) dX0_divisorOf_6 (t := 13) rfl rfl (fun c9 => ?_) (fun c9 => ?_)
  · replace F := F.1 c9
    refine y_aln dX0_divisorOf_13 rfl ?_
    refine gf_X0_44 W dX0_divisorOf_14 rfl Ta0 ?_
    refine y_iln dX0_divisorOf_17 rfl ?_
    refine y_ald dX0_divisorOf_18 (ty_atTotals W Ta0) F.1 ?_
    replace F := F.2
    exact y_ri W dX0_divisorOf_19 rfl in_nar F
  · replace F := F.2 c9
    refine y_ic dX0_divisorOf_9 zi_1 ?_
    refine y_goto dX0_divisorOf_10 (t := 19) rfl ?_
    exact y_ri W dX0_divisorOf_19 rfl in_nar F

theorem At_divisorOf_run {C : zC} {n0 : Nat} {Q : Int32 → zS → Prop} {a0 : Nat} {a1 : Int32} {κ : zS} (W : zW C n0 κ) (Ta0 : zT κ a0 = 3) (F : w_At_divisorOf_0 C (zn κ) Q a0 a1 κ) : zRun C 0 mAt_divisorOf [.ref a0, .int a1] κ (oI Q noX) := z_run (m_ent _ 0) (t_At_divisorOf_0 (W.lo (Nat.le_trans W.1.2.1 W.1.2.2) (Nat.le_refl _)) Ta0 F)

theorem dX0_isTaken_0 : decode cX0_isTaken 0 = .ok (.aload_n 0, 1) := by decide +kernel
theorem dX0_isTaken_1 : decode cX0_isTaken 1 = .ok (.getfield 53, 3) := by decide +kernel
theorem dX0_isTaken_4 : decode cX0_isTaken 4 = .ok (.iload_n 1, 1) := by decide +kernel
theorem dX0_isTaken_5 : decode cX0_isTaken 5 = .ok (.baload, 1) := by decide +kernel
theorem dX0_isTaken_6 : decode cX0_isTaken 6 = .ok (.ifCond .eq 20, 3) := by decide +kernel
theorem dX0_isTaken_9 : decode cX0_isTaken 9 = .ok (.iload_n 2, 1) := by decide +kernel
theorem dX0_isTaken_10 : decode cX0_isTaken 10 = .ok (.aload_n 0, 1) := by decide +kernel
theorem dX0_isTaken_11 : decode cX0_isTaken 11 = .ok (.getfield 40, 3) := by decide +kernel
theorem dX0_isTaken_14 : decode cX0_isTaken 14 = .ok (.iload_n 1, 1) := by decide +kernel
theorem dX0_isTaken_15 : decode cX0_isTaken 15 = .ok (.iaload, 1) := by decide +kernel
theorem dX0_isTaken_16 : decode cX0_isTaken 16 = .ok (.aload_n 0, 1) := by decide +kernel
theorem dX0_isTaken_17 : decode cX0_isTaken 17 = .ok (.getfield 50, 3) := by decide +kernel
theorem dX0_isTaken_20 : decode cX0_isTaken 20 = .ok (.iload_n 1, 1) := by decide +kernel
theorem dX0_isTaken_21 : decode cX0_isTaken 21 = .ok (.iaload, 1) := by decide +kernel
theorem dX0_isTaken_22 : decode cX0_isTaken 22 = .ok (.iadd, 1) := by decide +kernel
theorem dX0_isTaken_23 : decode cX0_isTaken 23 = .ok (.if_icmp .ne 7, 3) := by decide +kernel
theorem dX0_isTaken_26 : decode cX0_isTaken 26 = .ok (.iconst 1, 1) := by decide +kernel
theorem dX0_isTaken_27 : decode cX0_isTaken 27 = .ok (.goto 4, 3) := by decide +kernel
theorem dX0_isTaken_30 : decode cX0_isTaken 30 = .ok (.iconst 0, 1) := by decide +kernel
theorem dX0_isTaken_31 : decode cX0_isTaken 31 = .ok (.ireturn, 1) := by decide +kernel
def w_At_isTaken_0 (C : zC) (n0 : Nat) (Q : Int32 → zS → Prop)  (a0 : Nat) (a1 : Int32) (a2 : Int32) (κ : zS) : Prop :=
  inb a1 (zN κ (zR κ atChooses a0)) ∧
  ((zA κ (zR κ atChooses a0) (a1).toNatClampNeg) = (0 : Int32) →
    Q (1 : Int32) κ) ∧
  (¬ (zA κ (zR κ atChooses a0) (a1).toNatClampNeg) = (0 : Int32) →
    inb a1 (zN κ (zR κ atFirsts a0)) ∧
    inb a1 (zN κ (zR κ atPlan a0)) ∧
    (¬ a2 = ((zA κ (zR κ atFirsts a0) (a1).toNatClampNeg) + (zA κ (zR κ atPlan a0) (a1).toNatClampNeg)) →
      Q (0 : Int32) κ) ∧
    (a2 = ((zA κ (zR κ atFirsts a0) (a1).toNatClampNeg) + (zA κ (zR κ atPlan a0) (a1).toNatClampNeg)) →
      Q (1 : Int32) κ))
theorem t_At_isTaken_0 {C : zC} {n0 : Nat} {Q : Int32 → zS → Prop}   {a0 : Nat} {a1 : Int32} {a2 : Int32} {κ : zS} (W : zW C n0 κ) (Ta0 : zT κ a0 = 3) (F : w_At_isTaken_0 C n0 Q  a0 a1 a2 κ) : zG C n0 0 mAt_isTaken 0 [some (.ref a0), some (.int a1), some (.int a2)] [] κ (oI Q noX) := by
  unfold w_At_isTaken_0 at F
  refine y_aln dX0_isTaken_0 rfl ?_
  refine gf_X0_53 W dX0_isTaken_1 rfl Ta0 ?_
  refine y_iln dX0_isTaken_4 rfl ?_
  refine y_zld dX0_isTaken_5 (ty_atChooses W Ta0) F.1 ?_
  replace F := F.2
  refine y_i ((zA κ (zR κ atChooses a0) (a1).toNatClampNeg) = (0 : Int32)) dX0_isTaken_6 (t := 26) rfl rfl (fun c9 => ?_) (fun c9 => ?_)
  · replace F := F.1 c9
    refine y_ic dX0_isTaken_26 zi_1 ?_
    refine y_goto dX0_isTaken_27 (t := 31) rfl ?_
    exact y_ri W dX0_isTaken_31 rfl (nb_nar nb_1) F
  · replace F := F.2 c9
    refine y_iln dX0_isTaken_9 rfl ?_
    refine y_aln dX0_isTaken_10 rfl ?_
    refine gf_X0_40 W dX0_isTaken_11 rfl Ta0 ?_
    refine y_iln dX0_isTaken_14 rfl ?_
    refine y_ald dX0_isTaken_15 (ty_atFirsts W Ta0) F.1 ?_
    replace F := F.2
    refine y_aln dX0_isTaken_16 rfl ?_
    refine gf_X0_50 W dX0_isTaken_17 rfl Ta0 ?_
    refine y_iln dX0_isTaken_20 rfl ?_
    refine y_ald dX0_isTaken_21 (ty_atPlan W Ta0) F.1 ?_
    replace F := F.2
    refine y_iadd dX0_isTaken_22 ?_
    refine y_iin (a2 = ((zA κ (zR κ atFirsts a0) (a1).toNatClampNeg) + (zA κ (zR κ atPlan a0) (a1).toNatClampNeg))) dX0_isTaken_23 (t := 30) rfl rfl (fun c9 => ?_) (fun c9 => ?_)
    · replace F := F.1 c9
      refine y_ic dX0_isTaken_30 zi_0 ?_
      exact y_ri W dX0_isTaken_31 rfl (nb_nar nb_0) F
    · replace F := F.2 c9
      refine y_ic dX0_isTaken_26 zi_1 ?_
      refine y_goto dX0_isTaken_27 (t := 31) rfl ?_
      exact y_ri W dX0_isTaken_31 rfl (nb_nar nb_1) F

theorem At_isTaken_run {C : zC} {n0 : Nat} {Q : Int32 → zS → Prop} {a0 : Nat} {a1 : Int32} {a2 : Int32} {κ : zS} (W : zW C n0 κ) (Ta0 : zT κ a0 = 3) (F : w_At_isTaken_0 C (zn κ) Q a0 a1 a2 κ) : zRun C 0 mAt_isTaken [.ref a0, .int a1, .int a2] κ (oI Q noX) := z_run (m_ent _ 0) (t_At_isTaken_0 (W.lo (Nat.le_trans W.1.2.1 W.1.2.2) (Nat.le_refl _)) Ta0 F)

theorem dX2_shared_0 : decode cX2_shared 0 = .ok (.aload_n 0, 1) := by decide +kernel
theorem dX2_shared_1 : decode cX2_shared 1 = .ok (.getfield 39, 3) := by decide +kernel
theorem dX2_shared_4 : decode cX2_shared 4 = .ok (.aload_n 0, 1) := by decide +kernel
theorem dX2_shared_5 : decode cX2_shared 5 = .ok (.getfield 46, 3) := by decide +kernel
theorem dX2_shared_8 : decode cX2_shared 8 = .ok (.iadd, 1) := by decide +kernel
theorem dX2_shared_9 : decode cX2_shared 9 = .ok (.ireturn, 1) := by decide +kernel
def w_Co_shared_0 (C : zC) (n0 : Nat) (Q : Int32 → zS → Prop)  (a0 : Nat) (κ : zS) : Prop :=
  Q ((zI κ coVars a0) + (zI κ coCells a0)) κ
theorem t_Co_shared_0 {C : zC} {n0 : Nat} {Q : Int32 → zS → Prop}   {a0 : Nat} {κ : zS} (W : zW C n0 κ) (Ta0 : zT κ a0 = 5) (F : w_Co_shared_0 C n0 Q  a0 κ) : zG C n0 0 mCo_shared 0 [some (.ref a0)] [] κ (oI Q noX) := by
  unfold w_Co_shared_0 at F
  refine y_aln dX2_shared_0 rfl ?_
  refine gf_X2_39 dX2_shared_1 rfl (Or.inl Ta0) ?_
  refine y_aln dX2_shared_4 rfl ?_
  refine gf_X2_46 dX2_shared_5 rfl (Or.inl Ta0) ?_
  refine y_iadd dX2_shared_8 ?_
  exact y_ri W dX2_shared_9 rfl in_nar F

theorem Co_shared_run {C : zC} {n0 : Nat} {Q : Int32 → zS → Prop} {a0 : Nat} {κ : zS} (W : zW C n0 κ) (Ta0 : zT κ a0 = 5) (F : w_Co_shared_0 C (zn κ) Q a0 κ) : zRun C 0 mCo_shared [.ref a0] κ (oI Q noX) := z_run (m_ent _ 0) (t_Co_shared_0 (W.lo (Nat.le_trans W.1.2.1 W.1.2.2) (Nat.le_refl _)) Ta0 F)

theorem dX3_lengthOf_0 : decode cX3_lengthOf 0 = .ok (.iload_n 1, 1) := by decide +kernel
theorem dX3_lengthOf_1 : decode cX3_lengthOf 1 = .ok (.ifCond .lt 29, 3) := by decide +kernel
theorem dX3_lengthOf_4 : decode cX3_lengthOf 4 = .ok (.iload_n 1, 1) := by decide +kernel
theorem dX3_lengthOf_5 : decode cX3_lengthOf 5 = .ok (.aload_n 0, 1) := by decide +kernel
theorem dX3_lengthOf_6 : decode cX3_lengthOf 6 = .ok (.getfield 37, 3) := by decide +kernel
theorem dX3_lengthOf_9 : decode cX3_lengthOf 9 = .ok (.if_icmp .ge 21, 3) := by decide +kernel
theorem dX3_lengthOf_12 : decode cX3_lengthOf 12 = .ok (.aload_n 0, 1) := by decide +kernel
theorem dX3_lengthOf_13 : decode cX3_lengthOf 13 = .ok (.getfield 21, 3) := by decide +kernel
theorem dX3_lengthOf_16 : decode cX3_lengthOf 16 = .ok (.iload_n 1, 1) := by decide +kernel
theorem dX3_lengthOf_17 : decode cX3_lengthOf 17 = .ok (.iconst 1, 1) := by decide +kernel
theorem dX3_lengthOf_18 : decode cX3_lengthOf 18 = .ok (.iadd, 1) := by decide +kernel
theorem dX3_lengthOf_19 : decode cX3_lengthOf 19 = .ok (.iaload, 1) := by decide +kernel
theorem dX3_lengthOf_20 : decode cX3_lengthOf 20 = .ok (.aload_n 0, 1) := by decide +kernel
theorem dX3_lengthOf_21 : decode cX3_lengthOf 21 = .ok (.getfield 21, 3) := by decide +kernel
theorem dX3_lengthOf_24 : decode cX3_lengthOf 24 = .ok (.iload_n 1, 1) := by decide +kernel
theorem dX3_lengthOf_25 : decode cX3_lengthOf 25 = .ok (.iaload, 1) := by decide +kernel
theorem dX3_lengthOf_26 : decode cX3_lengthOf 26 = .ok (.isub, 1) := by decide +kernel
theorem dX3_lengthOf_27 : decode cX3_lengthOf 27 = .ok (.goto 4, 3) := by decide +kernel
theorem dX3_lengthOf_30 : decode cX3_lengthOf 30 = .ok (.iconst 0, 1) := by decide +kernel
theorem dX3_lengthOf_31 : decode cX3_lengthOf 31 = .ok (.ireturn, 1) := by decide +kernel
def w_Ho_lengthOf_0 (C : zC) (n0 : Nat) (Q : Int32 → zS → Prop)  (a0 : Nat) (a1 : Int32) (κ : zS) : Prop :=
  (a1 < (0 : Int32) →
    Q (0 : Int32) κ) ∧
  (¬ a1 < (0 : Int32) →
    ((zI κ hoTotal a0) ≤ a1 →
      Q (0 : Int32) κ) ∧
    (¬ (zI κ hoTotal a0) ≤ a1 →
      inb (a1 + (1 : Int32)) (zN κ (zR κ hoStarts a0)) ∧
      inb a1 (zN κ (zR κ hoStarts a0)) ∧
      Q ((zA κ (zR κ hoStarts a0) ((a1 + (1 : Int32))).toNatClampNeg) - (zA κ (zR κ hoStarts a0) (a1).toNatClampNeg)) κ))
theorem t_Ho_lengthOf_0 {C : zC} {n0 : Nat} {Q : Int32 → zS → Prop}   {a0 : Nat} {a1 : Int32} {κ : zS} (W : zW C n0 κ) (Ta0 : zT κ a0 = 6) (F : w_Ho_lengthOf_0 C n0 Q  a0 a1 κ) : zG C n0 0 mHo_lengthOf 0 [some (.ref a0), some (.int a1)] [] κ (oI Q noX) := by
  unfold w_Ho_lengthOf_0 at F
  refine y_iln dX3_lengthOf_0 rfl ?_
  refine y_i (a1 < (0 : Int32)) dX3_lengthOf_1 (t := 30) rfl rfl (fun c9 => ?_) (fun c9 => ?_)
  · replace F := F.1 c9
    refine y_ic dX3_lengthOf_30 zi_0 ?_
    exact y_ri W dX3_lengthOf_31 rfl in_nar F
  · replace F := F.2 c9
    refine y_iln dX3_lengthOf_4 rfl ?_
    refine y_aln dX3_lengthOf_5 rfl ?_
    refine gf_X3_37 dX3_lengthOf_6 rfl (Or.inl Ta0) ?_
    refine y_ii ((zI κ hoTotal a0) ≤ a1) dX3_lengthOf_9 (t := 30) rfl rfl (fun c9 => ?_) (fun c9 => ?_)
    · replace F := F.1 c9
      refine y_ic dX3_lengthOf_30 zi_0 ?_
      exact y_ri W dX3_lengthOf_31 rfl in_nar F
    · replace F := F.2 c9
      refine y_aln dX3_lengthOf_12 rfl ?_
      refine gf_X3_21 W dX3_lengthOf_13 rfl Ta0 ?_
      refine y_iln dX3_lengthOf_16 rfl ?_
      refine y_ic dX3_lengthOf_17 zi_1 ?_
      refine y_iadd dX3_lengthOf_18 ?_
      refine y_ald dX3_lengthOf_19 (ty_hoStarts W Ta0) F.1 ?_
      replace F := F.2
      refine y_aln dX3_lengthOf_20 rfl ?_
      refine gf_X3_21 W dX3_lengthOf_21 rfl Ta0 ?_
      refine y_iln dX3_lengthOf_24 rfl ?_
      refine y_ald dX3_lengthOf_25 (ty_hoStarts W Ta0) F.1 ?_
      replace F := F.2
      refine y_isub dX3_lengthOf_26 ?_
      refine y_goto dX3_lengthOf_27 (t := 31) rfl ?_
      exact y_ri W dX3_lengthOf_31 rfl in_nar F

theorem Ho_lengthOf_run {C : zC} {n0 : Nat} {Q : Int32 → zS → Prop} {a0 : Nat} {a1 : Int32} {κ : zS} (W : zW C n0 κ) (Ta0 : zT κ a0 = 6) (F : w_Ho_lengthOf_0 C (zn κ) Q a0 a1 κ) : zRun C 0 mHo_lengthOf [.ref a0, .int a1] κ (oI Q noX) := z_run (m_ent _ 0) (t_Ho_lengthOf_0 (W.lo (Nat.le_trans W.1.2.1 W.1.2.2) (Nat.le_refl _)) Ta0 F)

theorem dX0_callsOf_0 : decode cX0_callsOf 0 = .ok (.aload_n 0, 1) := by decide +kernel
theorem dX0_callsOf_1 : decode cX0_callsOf 1 = .ok (.getfield 33, 3) := by decide +kernel
theorem dX0_callsOf_4 : decode cX0_callsOf 4 = .ok (.iload_n 1, 1) := by decide +kernel
theorem dX0_callsOf_5 : decode cX0_callsOf 5 = .ok (.invokevirtual 95, 3) := by decide +kernel
theorem dX0_callsOf_8 : decode cX0_callsOf 8 = .ok (.aload_n 0, 1) := by decide +kernel
theorem dX0_callsOf_9 : decode cX0_callsOf 9 = .ok (.getfield 15, 3) := by decide +kernel
theorem dX0_callsOf_12 : decode cX0_callsOf 12 = .ok (.invokevirtual 99, 3) := by decide +kernel
theorem dX0_callsOf_15 : decode cX0_callsOf 15 = .ok (.isub, 1) := by decide +kernel
theorem dX0_callsOf_16 : decode cX0_callsOf 16 = .ok (.bipush 9, 2) := by decide +kernel
theorem dX0_callsOf_18 : decode cX0_callsOf 18 = .ok (.idiv, 1) := by decide +kernel
theorem dX0_callsOf_19 : decode cX0_callsOf 19 = .ok (.ireturn, 1) := by decide +kernel
def w_At_callsOf_0 (C : zC) (n0 : Nat) (Q : Int32 → zS → Prop)  (a0 : Nat) (a1 : Int32) (κ : zS) : Prop :=
  ∀ _ : zT κ (zR κ atStates a0) = 6,
  zRun C 0 mHo_lengthOf [.ref (zR κ atStates a0), .int a1] κ (oI (fun r2 κ1 =>
    ∀ _ : zW C n0 κ1,
    ∀ _ : zM (zn κ) κ κ1,
    ∀ _ : zT κ1 (zR κ1 atCode a0) = 5,
    zRun C 0 mCo_shared [.ref (zR κ1 atCode a0)] κ1 (oI (fun r6 κ5 =>
      ∀ _ : zW C n0 κ5,
      ∀ _ : zM (zn κ1) κ1 κ5,
      ¬ (9 : Int32) = 0 ∧
      Q ((r2 - r6) / (9 : Int32)) κ5) noX)) noX)
theorem t_At_callsOf_0 {C : zC} {n0 : Nat} {Q : Int32 → zS → Prop}   {a0 : Nat} {a1 : Int32} {κ : zS} (W : zW C n0 κ) (Ta0 : zT κ a0 = 3) (F : w_At_callsOf_0 C n0 Q  a0 a1 κ) : zG C n0 1 mAt_callsOf 0 [some (.ref a0), some (.int a1)] [] κ (oI Q noX) := by
  unfold w_At_callsOf_0 at F
  refine y_aln dX0_callsOf_0 rfl ?_
  refine gf_X0_33 W dX0_callsOf_1 rfl Ta0 ?_
  refine y_iln dX0_callsOf_4 rfl ?_
  replace F := F (ty_atStates W Ta0)
  refine k_X0_95 W dX0_callsOf_5 rfl (Nat.le_of_ble_eq_true rfl) (Nat.le_of_ble_eq_true rfl) (Or.inl (ty_atStates W Ta0)) F (fun r2 κ1 Wκ1 Mκ1 F => ?_) (fun _ _ h9 => False.elim h9)
  replace F := F Wκ1 Mκ1
  refine y_aln dX0_callsOf_8 rfl ?_
  have h4 := (ztm W Mκ1 Ta0)
  refine gf_X0_15 Wκ1 dX0_callsOf_9 rfl h4 ?_
  replace F := F (ty_atCode Wκ1 h4)
  refine k_X0_99 Wκ1 dX0_callsOf_12 rfl (Nat.le_of_ble_eq_true rfl) (Nat.le_of_ble_eq_true rfl) (Or.inl (ty_atCode Wκ1 h4)) F (fun r6 κ5 Wκ5 Mκ5 F => ?_) (fun _ _ h9 => False.elim h9)
  replace F := F Wκ5 Mκ5
  refine y_isub dX0_callsOf_15 ?_
  refine y_bi1 dX0_callsOf_16 zb_9 ?_
  refine y_div dX0_callsOf_18 F.1 ?_
  replace F := F.2
  exact y_ri Wκ5 dX0_callsOf_19 rfl in_nar F

theorem At_callsOf_run {C : zC} {n0 : Nat} {Q : Int32 → zS → Prop} {a0 : Nat} {a1 : Int32} {κ : zS} (W : zW C n0 κ) (Ta0 : zT κ a0 = 3) (F : w_At_callsOf_0 C (zn κ) Q a0 a1 κ) : zRun C 1 mAt_callsOf [.ref a0, .int a1] κ (oI Q noX) := z_run (m_ent _ 0) (t_At_callsOf_0 (W.lo (Nat.le_trans W.1.2.1 W.1.2.2) (Nat.le_refl _)) Ta0 F)

theorem dX3_part_0 : decode cX3_part 0 = .ok (.iload_n 2, 1) := by decide +kernel
theorem dX3_part_1 : decode cX3_part 1 = .ok (.ifCond .lt 28, 3) := by decide +kernel
theorem dX3_part_4 : decode cX3_part 4 = .ok (.iload_n 2, 1) := by decide +kernel
theorem dX3_part_5 : decode cX3_part 5 = .ok (.aload_n 0, 1) := by decide +kernel
theorem dX3_part_6 : decode cX3_part 6 = .ok (.iload_n 1, 1) := by decide +kernel
theorem dX3_part_7 : decode cX3_part 7 = .ok (.invokevirtual 40, 3) := by decide +kernel
theorem dX3_part_10 : decode cX3_part 10 = .ok (.if_icmp .ge 19, 3) := by decide +kernel
theorem dX3_part_13 : decode cX3_part 13 = .ok (.aload_n 0, 1) := by decide +kernel
theorem dX3_part_14 : decode cX3_part 14 = .ok (.getfield 28, 3) := by decide +kernel
theorem dX3_part_17 : decode cX3_part 17 = .ok (.aload_n 0, 1) := by decide +kernel
theorem dX3_part_18 : decode cX3_part 18 = .ok (.getfield 21, 3) := by decide +kernel
theorem dX3_part_21 : decode cX3_part 21 = .ok (.iload_n 1, 1) := by decide +kernel
theorem dX3_part_22 : decode cX3_part 22 = .ok (.iaload, 1) := by decide +kernel
theorem dX3_part_23 : decode cX3_part 23 = .ok (.iload_n 2, 1) := by decide +kernel
theorem dX3_part_24 : decode cX3_part 24 = .ok (.iadd, 1) := by decide +kernel
theorem dX3_part_25 : decode cX3_part 25 = .ok (.iaload, 1) := by decide +kernel
theorem dX3_part_26 : decode cX3_part 26 = .ok (.goto 4, 3) := by decide +kernel
theorem dX3_part_29 : decode cX3_part 29 = .ok (.iconst 0, 1) := by decide +kernel
theorem dX3_part_30 : decode cX3_part 30 = .ok (.ireturn, 1) := by decide +kernel
def w_Ho_part_0 (C : zC) (n0 : Nat) (Q : Int32 → zS → Prop)  (a0 : Nat) (a1 : Int32) (a2 : Int32) (κ : zS) : Prop :=
  (a2 < (0 : Int32) →
    Q (0 : Int32) κ) ∧
  (¬ a2 < (0 : Int32) →
    ∀ _ : zT κ a0 = 6,
    zRun C 0 mHo_lengthOf [.ref a0, .int a1] κ (oI (fun r2 κ1 =>
      ∀ _ : zW C n0 κ1,
      ∀ _ : zM (zn κ) κ κ1,
      (r2 ≤ a2 →
        Q (0 : Int32) κ1) ∧
      (¬ r2 ≤ a2 →
        inb a1 (zN κ1 (zR κ1 hoStarts a0)) ∧
        inb ((zA κ1 (zR κ1 hoStarts a0) (a1).toNatClampNeg) + a2) (zN κ1 (zR κ1 hoPool a0)) ∧
        Q (zA κ1 (zR κ1 hoPool a0) (((zA κ1 (zR κ1 hoStarts a0) (a1).toNatClampNeg) + a2)).toNatClampNeg) κ1)) noX))
theorem t_Ho_part_0 {C : zC} {n0 : Nat} {Q : Int32 → zS → Prop}   {a0 : Nat} {a1 : Int32} {a2 : Int32} {κ : zS} (W : zW C n0 κ) (Ta0 : zT κ a0 = 6) (F : w_Ho_part_0 C n0 Q  a0 a1 a2 κ) : zG C n0 1 mHo_part 0 [some (.ref a0), some (.int a1), some (.int a2)] [] κ (oI Q noX) := by
  unfold w_Ho_part_0 at F
  refine y_iln dX3_part_0 rfl ?_
  refine y_i (a2 < (0 : Int32)) dX3_part_1 (t := 29) rfl rfl (fun c9 => ?_) (fun c9 => ?_)
  · replace F := F.1 c9
    refine y_ic dX3_part_29 zi_0 ?_
    exact y_ri W dX3_part_30 rfl in_nar F
  · replace F := F.2 c9
    refine y_iln dX3_part_4 rfl ?_
    refine y_aln dX3_part_5 rfl ?_
    refine y_iln dX3_part_6 rfl ?_
    replace F := F Ta0
    refine k_X3_40 W dX3_part_7 rfl (Nat.le_of_ble_eq_true rfl) (Nat.le_of_ble_eq_true rfl) (Or.inl Ta0) F (fun r2 κ1 Wκ1 Mκ1 F => ?_) (fun _ _ h9 => False.elim h9)
    replace F := F Wκ1 Mκ1
    refine y_ii (r2 ≤ a2) dX3_part_10 (t := 29) rfl rfl (fun c9 => ?_) (fun c9 => ?_)
    · replace F := F.1 c9
      refine y_ic dX3_part_29 zi_0 ?_
      exact y_ri Wκ1 dX3_part_30 rfl in_nar F
    · replace F := F.2 c9
      refine y_aln dX3_part_13 rfl ?_
      have h4 := (ztm W Mκ1 Ta0)
      refine gf_X3_28 Wκ1 dX3_part_14 rfl h4 ?_
      refine y_aln dX3_part_17 rfl ?_
      refine gf_X3_21 Wκ1 dX3_part_18 rfl h4 ?_
      refine y_iln dX3_part_21 rfl ?_
      refine y_ald dX3_part_22 (ty_hoStarts Wκ1 h4) F.1 ?_
      replace F := F.2
      refine y_iln dX3_part_23 rfl ?_
      refine y_iadd dX3_part_24 ?_
      refine y_ald dX3_part_25 (ty_hoPool Wκ1 h4) F.1 ?_
      replace F := F.2
      refine y_goto dX3_part_26 (t := 30) rfl ?_
      exact y_ri Wκ1 dX3_part_30 rfl in_nar F

theorem Ho_part_run {C : zC} {n0 : Nat} {Q : Int32 → zS → Prop} {a0 : Nat} {a1 : Int32} {a2 : Int32} {κ : zS} (W : zW C n0 κ) (Ta0 : zT κ a0 = 6) (F : w_Ho_part_0 C (zn κ) Q a0 a1 a2 κ) : zRun C 1 mHo_part [.ref a0, .int a1, .int a2] κ (oI Q noX) := z_run (m_ent _ 0) (t_Ho_part_0 (W.lo (Nat.le_trans W.1.2.1 W.1.2.2) (Nat.le_refl _)) Ta0 F)

theorem dX0_statementOf_0 : decode cX0_statementOf 0 = .ok (.aload_n 0, 1) := by decide +kernel
theorem dX0_statementOf_1 : decode cX0_statementOf 1 = .ok (.getfield 33, 3) := by decide +kernel
theorem dX0_statementOf_4 : decode cX0_statementOf 4 = .ok (.iload_n 1, 1) := by decide +kernel
theorem dX0_statementOf_5 : decode cX0_statementOf 5 = .ok (.aload_n 0, 1) := by decide +kernel
theorem dX0_statementOf_6 : decode cX0_statementOf 6 = .ok (.getfield 15, 3) := by decide +kernel
theorem dX0_statementOf_9 : decode cX0_statementOf 9 = .ok (.invokevirtual 99, 3) := by decide +kernel
theorem dX0_statementOf_12 : decode cX0_statementOf 12 = .ok (.iload_n 2, 1) := by decide +kernel
theorem dX0_statementOf_13 : decode cX0_statementOf 13 = .ok (.bipush 9, 2) := by decide +kernel
theorem dX0_statementOf_15 : decode cX0_statementOf 15 = .ok (.imul, 1) := by decide +kernel
theorem dX0_statementOf_16 : decode cX0_statementOf 16 = .ok (.iadd, 1) := by decide +kernel
theorem dX0_statementOf_17 : decode cX0_statementOf 17 = .ok (.invokevirtual 105, 3) := by decide +kernel
theorem dX0_statementOf_20 : decode cX0_statementOf 20 = .ok (.ireturn, 1) := by decide +kernel
def w_At_statementOf_0 (C : zC) (n0 : Nat) (Q : Int32 → zS → Prop)  (a0 : Nat) (a1 : Int32) (a2 : Int32) (κ : zS) : Prop :=
  ∀ _ : zT κ (zR κ atCode a0) = 5,
  zRun C 0 mCo_shared [.ref (zR κ atCode a0)] κ (oI (fun r2 κ1 =>
    ∀ _ : zW C n0 κ1,
    ∀ _ : zM (zn κ) κ κ1,
    ∀ _ : zT κ1 (zR κ atStates a0) = 6,
    zRun C 1 mHo_part [.ref (zR κ atStates a0), .int a1, .int (r2 + (a2 * (9 : Int32)))] κ1 (oI (fun r5 κ4 =>
      ∀ _ : zW C n0 κ4,
      ∀ _ : zM (zn κ1) κ1 κ4,
      Q r5 κ4) noX)) noX)
theorem t_At_statementOf_0 {C : zC} {n0 : Nat} {Q : Int32 → zS → Prop}   {a0 : Nat} {a1 : Int32} {a2 : Int32} {κ : zS} (W : zW C n0 κ) (Ta0 : zT κ a0 = 3) (F : w_At_statementOf_0 C n0 Q  a0 a1 a2 κ) : zG C n0 2 mAt_statementOf 0 [some (.ref a0), some (.int a1), some (.int a2)] [] κ (oI Q noX) := by
  unfold w_At_statementOf_0 at F
  refine y_aln dX0_statementOf_0 rfl ?_
  refine gf_X0_33 W dX0_statementOf_1 rfl Ta0 ?_
  refine y_iln dX0_statementOf_4 rfl ?_
  refine y_aln dX0_statementOf_5 rfl ?_
  refine gf_X0_15 W dX0_statementOf_6 rfl Ta0 ?_
  replace F := F (ty_atCode W Ta0)
  refine k_X0_99 W dX0_statementOf_9 rfl (Nat.le_of_ble_eq_true rfl) (Nat.le_of_ble_eq_true rfl) (Or.inl (ty_atCode W Ta0)) F (fun r2 κ1 Wκ1 Mκ1 F => ?_) (fun _ _ h9 => False.elim h9)
  replace F := F Wκ1 Mκ1
  refine y_iln dX0_statementOf_12 rfl ?_
  refine y_bi1 dX0_statementOf_13 zb_9 ?_
  refine y_imul dX0_statementOf_15 ?_
  refine y_iadd dX0_statementOf_16 ?_
  have h6 := (ztm W Mκ1 (ty_atStates W Ta0))
  replace F := F h6
  refine k_X0_105 Wκ1 dX0_statementOf_17 rfl (Nat.le_of_ble_eq_true rfl) (Nat.le_of_ble_eq_true rfl) (Or.inl h6) F (fun r5 κ4 Wκ4 Mκ4 F => ?_) (fun _ _ h9 => False.elim h9)
  replace F := F Wκ4 Mκ4
  exact y_ri Wκ4 dX0_statementOf_20 rfl in_nar F

theorem At_statementOf_run {C : zC} {n0 : Nat} {Q : Int32 → zS → Prop} {a0 : Nat} {a1 : Int32} {a2 : Int32} {κ : zS} (W : zW C n0 κ) (Ta0 : zT κ a0 = 3) (F : w_At_statementOf_0 C (zn κ) Q a0 a1 a2 κ) : zRun C 2 mAt_statementOf [.ref a0, .int a1, .int a2] κ (oI Q noX) := z_run (m_ent _ 0) (t_At_statementOf_0 (W.lo (Nat.le_trans W.1.2.1 W.1.2.2) (Nat.le_refl _)) Ta0 F)

theorem dX2_column_0 : decode cX2_column 0 = .ok (.iload_n 1, 1) := by decide +kernel
theorem dX2_column_1 : decode cX2_column 1 = .ok (.ifCond .lt 25, 3) := by decide +kernel
theorem dX2_column_4 : decode cX2_column 4 = .ok (.iload_n 1, 1) := by decide +kernel
theorem dX2_column_5 : decode cX2_column 5 = .ok (.aload_n 0, 1) := by decide +kernel
theorem dX2_column_6 : decode cX2_column 6 = .ok (.getfield 52, 3) := by decide +kernel
theorem dX2_column_9 : decode cX2_column 9 = .ok (.if_icmp .ge 17, 3) := by decide +kernel
theorem dX2_column_12 : decode cX2_column 12 = .ok (.aload_n 0, 1) := by decide +kernel
theorem dX2_column_13 : decode cX2_column 13 = .ok (.getfield 30, 3) := by decide +kernel
theorem dX2_column_16 : decode cX2_column 16 = .ok (.iload_n 1, 1) := by decide +kernel
theorem dX2_column_17 : decode cX2_column 17 = .ok (.bipush 11, 2) := by decide +kernel
theorem dX2_column_19 : decode cX2_column 19 = .ok (.imul, 1) := by decide +kernel
theorem dX2_column_20 : decode cX2_column 20 = .ok (.iload_n 2, 1) := by decide +kernel
theorem dX2_column_21 : decode cX2_column 21 = .ok (.iadd, 1) := by decide +kernel
theorem dX2_column_22 : decode cX2_column 22 = .ok (.iaload, 1) := by decide +kernel
theorem dX2_column_23 : decode cX2_column 23 = .ok (.goto 4, 3) := by decide +kernel
theorem dX2_column_26 : decode cX2_column 26 = .ok (.iconst (-1), 1) := by decide +kernel
theorem dX2_column_27 : decode cX2_column 27 = .ok (.ireturn, 1) := by decide +kernel
def w_Co_column_0 (C : zC) (n0 : Nat) (Q : Int32 → zS → Prop)  (a0 : Nat) (a1 : Int32) (a2 : Int32) (κ : zS) : Prop :=
  (a1 < (0 : Int32) →
    Q (-1 : Int32) κ) ∧
  (¬ a1 < (0 : Int32) →
    ((zI κ coStatements a0) ≤ a1 →
      Q (-1 : Int32) κ) ∧
    (¬ (zI κ coStatements a0) ≤ a1 →
      inb ((a1 * (11 : Int32)) + a2) (zN κ (zR κ coRows a0)) ∧
      Q (zA κ (zR κ coRows a0) (((a1 * (11 : Int32)) + a2)).toNatClampNeg) κ))
theorem t_Co_column_0 {C : zC} {n0 : Nat} {Q : Int32 → zS → Prop}   {a0 : Nat} {a1 : Int32} {a2 : Int32} {κ : zS} (W : zW C n0 κ) (Ta0 : zT κ a0 = 5) (F : w_Co_column_0 C n0 Q  a0 a1 a2 κ) : zG C n0 0 mCo_column 0 [some (.ref a0), some (.int a1), some (.int a2)] [] κ (oI Q noX) := by
  unfold w_Co_column_0 at F
  refine y_iln dX2_column_0 rfl ?_
  refine y_i (a1 < (0 : Int32)) dX2_column_1 (t := 26) rfl rfl (fun c9 => ?_) (fun c9 => ?_)
  · replace F := F.1 c9
    refine y_ic dX2_column_26 zi_m1 ?_
    exact y_ri W dX2_column_27 rfl in_nar F
  · replace F := F.2 c9
    refine y_iln dX2_column_4 rfl ?_
    refine y_aln dX2_column_5 rfl ?_
    refine gf_X2_52 dX2_column_6 rfl (Or.inl Ta0) ?_
    refine y_ii ((zI κ coStatements a0) ≤ a1) dX2_column_9 (t := 26) rfl rfl (fun c9 => ?_) (fun c9 => ?_)
    · replace F := F.1 c9
      refine y_ic dX2_column_26 zi_m1 ?_
      exact y_ri W dX2_column_27 rfl in_nar F
    · replace F := F.2 c9
      refine y_aln dX2_column_12 rfl ?_
      refine gf_X2_30 W dX2_column_13 rfl Ta0 ?_
      refine y_iln dX2_column_16 rfl ?_
      refine y_bi1 dX2_column_17 zb_11 ?_
      refine y_imul dX2_column_19 ?_
      refine y_iln dX2_column_20 rfl ?_
      refine y_iadd dX2_column_21 ?_
      refine y_ald dX2_column_22 (ty_coRows W Ta0) F.1 ?_
      replace F := F.2
      refine y_goto dX2_column_23 (t := 27) rfl ?_
      exact y_ri W dX2_column_27 rfl in_nar F

theorem Co_column_run {C : zC} {n0 : Nat} {Q : Int32 → zS → Prop} {a0 : Nat} {a1 : Int32} {a2 : Int32} {κ : zS} (W : zW C n0 κ) (Ta0 : zT κ a0 = 5) (F : w_Co_column_0 C (zn κ) Q a0 a1 a2 κ) : zRun C 0 mCo_column [.ref a0, .int a1, .int a2] κ (oI Q noX) := z_run (m_ent _ 0) (t_Co_column_0 (W.lo (Nat.le_trans W.1.2.1 W.1.2.2) (Nat.le_refl _)) Ta0 F)

theorem dX2_isShared_0 : decode cX2_isShared 0 = .ok (.iload_n 1, 1) := by decide +kernel
theorem dX2_isShared_1 : decode cX2_isShared 1 = .ok (.ifCond .lt 20, 3) := by decide +kernel
theorem dX2_isShared_4 : decode cX2_isShared 4 = .ok (.iload_n 1, 1) := by decide +kernel
theorem dX2_isShared_5 : decode cX2_isShared 5 = .ok (.aload_n 0, 1) := by decide +kernel
theorem dX2_isShared_6 : decode cX2_isShared 6 = .ok (.getfield 39, 3) := by decide +kernel
theorem dX2_isShared_9 : decode cX2_isShared 9 = .ok (.aload_n 0, 1) := by decide +kernel
theorem dX2_isShared_10 : decode cX2_isShared 10 = .ok (.getfield 46, 3) := by decide +kernel
theorem dX2_isShared_13 : decode cX2_isShared 13 = .ok (.iadd, 1) := by decide +kernel
theorem dX2_isShared_14 : decode cX2_isShared 14 = .ok (.if_icmp .ge 7, 3) := by decide +kernel
theorem dX2_isShared_17 : decode cX2_isShared 17 = .ok (.iconst 1, 1) := by decide +kernel
theorem dX2_isShared_18 : decode cX2_isShared 18 = .ok (.goto 4, 3) := by decide +kernel
theorem dX2_isShared_21 : decode cX2_isShared 21 = .ok (.iconst 0, 1) := by decide +kernel
theorem dX2_isShared_22 : decode cX2_isShared 22 = .ok (.ireturn, 1) := by decide +kernel
def w_Co_isShared_0 (C : zC) (n0 : Nat) (Q : Int32 → zS → Prop)  (a0 : Nat) (a1 : Int32) (κ : zS) : Prop :=
  (a1 < (0 : Int32) →
    Q (0 : Int32) κ) ∧
  (¬ a1 < (0 : Int32) →
    (((zI κ coVars a0) + (zI κ coCells a0)) ≤ a1 →
      Q (0 : Int32) κ) ∧
    (¬ ((zI κ coVars a0) + (zI κ coCells a0)) ≤ a1 →
      Q (1 : Int32) κ))
theorem t_Co_isShared_0 {C : zC} {n0 : Nat} {Q : Int32 → zS → Prop}   {a0 : Nat} {a1 : Int32} {κ : zS} (W : zW C n0 κ) (Ta0 : zT κ a0 = 5) (F : w_Co_isShared_0 C n0 Q  a0 a1 κ) : zG C n0 0 mCo_isShared 0 [some (.ref a0), some (.int a1)] [] κ (oI Q noX) := by
  unfold w_Co_isShared_0 at F
  refine y_iln dX2_isShared_0 rfl ?_
  refine y_i (a1 < (0 : Int32)) dX2_isShared_1 (t := 21) rfl rfl (fun c9 => ?_) (fun c9 => ?_)
  · replace F := F.1 c9
    refine y_ic dX2_isShared_21 zi_0 ?_
    exact y_ri W dX2_isShared_22 rfl (nb_nar nb_0) F
  · replace F := F.2 c9
    refine y_iln dX2_isShared_4 rfl ?_
    refine y_aln dX2_isShared_5 rfl ?_
    refine gf_X2_39 dX2_isShared_6 rfl (Or.inl Ta0) ?_
    refine y_aln dX2_isShared_9 rfl ?_
    refine gf_X2_46 dX2_isShared_10 rfl (Or.inl Ta0) ?_
    refine y_iadd dX2_isShared_13 ?_
    refine y_ii (((zI κ coVars a0) + (zI κ coCells a0)) ≤ a1) dX2_isShared_14 (t := 21) rfl rfl (fun c9 => ?_) (fun c9 => ?_)
    · replace F := F.1 c9
      refine y_ic dX2_isShared_21 zi_0 ?_
      exact y_ri W dX2_isShared_22 rfl (nb_nar nb_0) F
    · replace F := F.2 c9
      refine y_ic dX2_isShared_17 zi_1 ?_
      refine y_goto dX2_isShared_18 (t := 22) rfl ?_
      exact y_ri W dX2_isShared_22 rfl (nb_nar nb_1) F

theorem Co_isShared_run {C : zC} {n0 : Nat} {Q : Int32 → zS → Prop} {a0 : Nat} {a1 : Int32} {κ : zS} (W : zW C n0 κ) (Ta0 : zT κ a0 = 5) (F : w_Co_isShared_0 C (zn κ) Q a0 a1 κ) : zRun C 0 mCo_isShared [.ref a0, .int a1] κ (oI Q noX) := z_run (m_ent _ 0) (t_Co_isShared_0 (W.lo (Nat.le_trans W.1.2.1 W.1.2.2) (Nat.le_refl _)) Ta0 F)

theorem dX0_hasVariable_0 : decode cX0_hasVariable 0 = .ok (.iload_n 2, 1) := by decide +kernel
theorem dX0_hasVariable_1 : decode cX0_hasVariable 1 = .ok (.iconst (-1), 1) := by decide +kernel
theorem dX0_hasVariable_2 : decode cX0_hasVariable 2 = .ok (.if_icmp .ne 12, 3) := by decide +kernel
theorem dX0_hasVariable_5 : decode cX0_hasVariable 5 = .ok (.aload_n 0, 1) := by decide +kernel
theorem dX0_hasVariable_6 : decode cX0_hasVariable 6 = .ok (.getfield 15, 3) := by decide +kernel
theorem dX0_hasVariable_9 : decode cX0_hasVariable 9 = .ok (.iload_n 3, 1) := by decide +kernel
theorem dX0_hasVariable_10 : decode cX0_hasVariable 10 = .ok (.invokevirtual 109, 3) := by decide +kernel
theorem dX0_hasVariable_13 : decode cX0_hasVariable 13 = .ok (.ireturn, 1) := by decide +kernel
theorem dX0_hasVariable_14 : decode cX0_hasVariable 14 = .ok (.iload_n 2, 1) := by decide +kernel
theorem dX0_hasVariable_15 : decode cX0_hasVariable 15 = .ok (.ifCond .lt 16, 3) := by decide +kernel
theorem dX0_hasVariable_18 : decode cX0_hasVariable 18 = .ok (.iload_n 2, 1) := by decide +kernel
theorem dX0_hasVariable_19 : decode cX0_hasVariable 19 = .ok (.aload_n 0, 1) := by decide +kernel
theorem dX0_hasVariable_20 : decode cX0_hasVariable 20 = .ok (.iload_n 1, 1) := by decide +kernel
theorem dX0_hasVariable_21 : decode cX0_hasVariable 21 = .ok (.invokevirtual 113, 3) := by decide +kernel
theorem dX0_hasVariable_24 : decode cX0_hasVariable 24 = .ok (.if_icmp .ge 7, 3) := by decide +kernel
theorem dX0_hasVariable_27 : decode cX0_hasVariable 27 = .ok (.iload_n 3, 1) := by decide +kernel
theorem dX0_hasVariable_28 : decode cX0_hasVariable 28 = .ok (.ifCond .ge 5, 3) := by decide +kernel
theorem dX0_hasVariable_31 : decode cX0_hasVariable 31 = .ok (.iconst 0, 1) := by decide +kernel
theorem dX0_hasVariable_32 : decode cX0_hasVariable 32 = .ok (.ireturn, 1) := by decide +kernel
theorem dX0_hasVariable_33 : decode cX0_hasVariable 33 = .ok (.aload_n 0, 1) := by decide +kernel
theorem dX0_hasVariable_34 : decode cX0_hasVariable 34 = .ok (.getfield 15, 3) := by decide +kernel
theorem dX0_hasVariable_37 : decode cX0_hasVariable 37 = .ok (.aload_n 0, 1) := by decide +kernel
theorem dX0_hasVariable_38 : decode cX0_hasVariable 38 = .ok (.iload_n 1, 1) := by decide +kernel
theorem dX0_hasVariable_39 : decode cX0_hasVariable 39 = .ok (.iload_n 2, 1) := by decide +kernel
theorem dX0_hasVariable_40 : decode cX0_hasVariable 40 = .ok (.invokevirtual 116, 3) := by decide +kernel
theorem dX0_hasVariable_43 : decode cX0_hasVariable 43 = .ok (.bipush 10, 2) := by decide +kernel
theorem dX0_hasVariable_45 : decode cX0_hasVariable 45 = .ok (.invokevirtual 119, 3) := by decide +kernel
theorem dX0_hasVariable_48 : decode cX0_hasVariable 48 = .ok (.istore 4, 2) := by decide +kernel
theorem dX0_hasVariable_50 : decode cX0_hasVariable 50 = .ok (.iload 4, 2) := by decide +kernel
theorem dX0_hasVariable_52 : decode cX0_hasVariable 52 = .ok (.ifCond .lt 28, 3) := by decide +kernel
theorem dX0_hasVariable_55 : decode cX0_hasVariable 55 = .ok (.iload 4, 2) := by decide +kernel
theorem dX0_hasVariable_57 : decode cX0_hasVariable 57 = .ok (.bipush 10, 2) := by decide +kernel
theorem dX0_hasVariable_59 : decode cX0_hasVariable 59 = .ok (.if_icmp .ge 21, 3) := by decide +kernel
theorem dX0_hasVariable_62 : decode cX0_hasVariable 62 = .ok (.iload_n 3, 1) := by decide +kernel
theorem dX0_hasVariable_63 : decode cX0_hasVariable 63 = .ok (.aload_n 0, 1) := by decide +kernel
theorem dX0_hasVariable_64 : decode cX0_hasVariable 64 = .ok (.getfield 15, 3) := by decide +kernel
theorem dX0_hasVariable_67 : decode cX0_hasVariable 67 = .ok (.getfield 122, 3) := by decide +kernel
theorem dX0_hasVariable_70 : decode cX0_hasVariable 70 = .ok (.iload 4, 2) := by decide +kernel
theorem dX0_hasVariable_72 : decode cX0_hasVariable 72 = .ok (.iaload, 1) := by decide +kernel
theorem dX0_hasVariable_73 : decode cX0_hasVariable 73 = .ok (.if_icmp .ge 7, 3) := by decide +kernel
theorem dX0_hasVariable_76 : decode cX0_hasVariable 76 = .ok (.iconst 1, 1) := by decide +kernel
theorem dX0_hasVariable_77 : decode cX0_hasVariable 77 = .ok (.goto 4, 3) := by decide +kernel
theorem dX0_hasVariable_80 : decode cX0_hasVariable 80 = .ok (.iconst 0, 1) := by decide +kernel
theorem dX0_hasVariable_81 : decode cX0_hasVariable 81 = .ok (.ireturn, 1) := by decide +kernel
def w_At_hasVariable_0 (C : zC) (n0 : Nat) (Q : Int32 → zS → Prop)  (a0 : Nat) (a1 : Int32) (a2 : Int32) (a3 : Int32) (κ : zS) : Prop :=
  (¬ a2 = (-1 : Int32) →
    (a2 < (0 : Int32) →
      Q (0 : Int32) κ) ∧
    (¬ a2 < (0 : Int32) →
      ∀ _ : zT κ a0 = 3,
      zRun C 1 mAt_callsOf [.ref a0, .int a1] κ (oI (fun r2 κ1 =>
        ∀ _ : zW C n0 κ1,
        ∀ _ : zM (zn κ) κ κ1,
        (r2 ≤ a2 →
          Q (0 : Int32) κ1) ∧
        (¬ r2 ≤ a2 →
          ((0 : Int32) ≤ a3 →
            ∀ _ : zT κ1 a0 = 3,
            zRun C 2 mAt_statementOf [.ref a0, .int a1, .int a2] κ1 (oI (fun r6 κ5 =>
              ∀ _ : zW C n0 κ5,
              ∀ _ : zM (zn κ1) κ1 κ5,
              ∀ _ : zT κ5 (zR κ1 atCode a0) = 5,
              zRun C 0 mCo_column [.ref (zR κ1 atCode a0), .int r6, .int (10 : Int32)] κ5 (oI (fun r9 κ8 =>
                ∀ _ : zW C n0 κ8,
                ∀ _ : zM (zn κ5) κ5 κ8,
                (r9 < (0 : Int32) →
                  Q (0 : Int32) κ8) ∧
                (¬ r9 < (0 : Int32) →
                  ((10 : Int32) ≤ r9 →
                    Q (0 : Int32) κ8) ∧
                  (¬ (10 : Int32) ≤ r9 →
                    inb r9 (zN κ8 (zR κ8 coOwnCounts (zR κ8 atCode a0))) ∧
                    ((zA κ8 (zR κ8 coOwnCounts (zR κ8 atCode a0)) (r9).toNatClampNeg) ≤ a3 →
                      Q (0 : Int32) κ8) ∧
                    (¬ (zA κ8 (zR κ8 coOwnCounts (zR κ8 atCode a0)) (r9).toNatClampNeg) ≤ a3 →
                      Q (1 : Int32) κ8)))) noX)) noX)) ∧
          (¬ (0 : Int32) ≤ a3 →
            Q (0 : Int32) κ1))) noX))) ∧
  (a2 = (-1 : Int32) →
    ∀ _ : zT κ (zR κ atCode a0) = 5,
    zRun C 0 mCo_isShared [.ref (zR κ atCode a0), .int a3] κ (oI (fun r14 κ13 =>
      ∀ _ : zW C n0 κ13,
      ∀ _ : zM (zn κ) κ κ13,
      nb r14 ∧ Q r14 κ13) noX))
theorem t_At_hasVariable_0 {C : zC} {n0 : Nat} {Q : Int32 → zS → Prop}   {a0 : Nat} {a1 : Int32} {a2 : Int32} {a3 : Int32} {κ : zS} (W : zW C n0 κ) (Ta0 : zT κ a0 = 3) (F : w_At_hasVariable_0 C n0 Q  a0 a1 a2 a3 κ) : zG C n0 3 mAt_hasVariable 0 [some (.ref a0), some (.int a1), some (.int a2), some (.int a3), none] [] κ (oI Q noX) := by
  unfold w_At_hasVariable_0 at F
  refine y_iln dX0_hasVariable_0 rfl ?_
  refine y_ic dX0_hasVariable_1 zi_m1 ?_
  refine y_iin (a2 = (-1 : Int32)) dX0_hasVariable_2 (t := 14) rfl rfl (fun c9 => ?_) (fun c9 => ?_)
  · replace F := F.1 c9
    refine y_iln dX0_hasVariable_14 rfl ?_
    refine y_i (a2 < (0 : Int32)) dX0_hasVariable_15 (t := 31) rfl rfl (fun c9 => ?_) (fun c9 => ?_)
    · replace F := F.1 c9
      refine y_ic dX0_hasVariable_31 zi_0 ?_
      exact y_ri W dX0_hasVariable_32 rfl (nb_nar nb_0) F
    · replace F := F.2 c9
      refine y_iln dX0_hasVariable_18 rfl ?_
      refine y_aln dX0_hasVariable_19 rfl ?_
      refine y_iln dX0_hasVariable_20 rfl ?_
      replace F := F Ta0
      refine k_X0_113 W dX0_hasVariable_21 rfl (Nat.le_of_ble_eq_true rfl) (Nat.le_of_ble_eq_true rfl) (Or.inl Ta0) F (fun r2 κ1 Wκ1 Mκ1 F => ?_) (fun _ _ h9 => False.elim h9)
      replace F := F Wκ1 Mκ1
      refine y_ii (r2 ≤ a2) dX0_hasVariable_24 (t := 31) rfl rfl (fun c9 => ?_) (fun c9 => ?_)
      · replace F := F.1 c9
        refine y_ic dX0_hasVariable_31 zi_0 ?_
        exact y_ri Wκ1 dX0_hasVariable_32 rfl (nb_nar nb_0) F
      · replace F := F.2 c9
        refine y_iln dX0_hasVariable_27 rfl ?_
        refine y_i ((0 : Int32) ≤ a3) dX0_hasVariable_28 (t := 33) rfl rfl (fun c9 => ?_) (fun c9 => ?_)
        · replace F := F.1 c9
          refine y_aln dX0_hasVariable_33 rfl ?_
          have h4 := (ztm W Mκ1 Ta0)
          refine gf_X0_15 Wκ1 dX0_hasVariable_34 rfl h4 ?_
          refine y_aln dX0_hasVariable_37 rfl ?_
          refine y_iln dX0_hasVariable_38 rfl ?_
          refine y_iln dX0_hasVariable_39 rfl ?_
          replace F := F h4
          refine k_X0_116 Wκ1 dX0_hasVariable_40 rfl (Nat.le_of_ble_eq_true rfl) (Nat.le_of_ble_eq_true rfl) (Or.inl h4) F (fun r6 κ5 Wκ5 Mκ5 F => ?_) (fun _ _ h9 => False.elim h9)
          replace F := F Wκ5 Mκ5
          refine y_bi1 dX0_hasVariable_43 zb_10 ?_
          have h10 := (ztm Wκ1 Mκ5 (ty_atCode Wκ1 h4))
          replace F := F h10
          refine k_X0_119 Wκ5 dX0_hasVariable_45 rfl (Nat.le_of_ble_eq_true rfl) (Nat.le_of_ble_eq_true rfl) (Or.inl h10) F (fun r9 κ8 Wκ8 Mκ8 F => ?_) (fun _ _ h9 => False.elim h9)
          replace F := F Wκ8 Mκ8
          refine y_is dX0_hasVariable_48 (Nat.le_of_ble_eq_true rfl) rfl ?_
          refine y_il dX0_hasVariable_50 rfl ?_
          refine y_i (r9 < (0 : Int32)) dX0_hasVariable_52 (t := 80) rfl rfl (fun c9 => ?_) (fun c9 => ?_)
          · replace F := F.1 c9
            refine y_ic dX0_hasVariable_80 zi_0 ?_
            exact y_ri Wκ8 dX0_hasVariable_81 rfl (nb_nar nb_0) F
          · replace F := F.2 c9
            refine y_il dX0_hasVariable_55 rfl ?_
            refine y_bi1 dX0_hasVariable_57 zb_10 ?_
            refine y_ii ((10 : Int32) ≤ r9) dX0_hasVariable_59 (t := 80) rfl rfl (fun c9 => ?_) (fun c9 => ?_)
            · replace F := F.1 c9
              refine y_ic dX0_hasVariable_80 zi_0 ?_
              exact y_ri Wκ8 dX0_hasVariable_81 rfl (nb_nar nb_0) F
            · replace F := F.2 c9
              refine y_iln dX0_hasVariable_62 rfl ?_
              refine y_aln dX0_hasVariable_63 rfl ?_
              have h12 := (ztm Wκ5 Mκ8 (ztm Wκ1 Mκ5 h4))
              refine gf_X0_15 Wκ8 dX0_hasVariable_64 rfl h12 ?_
              refine gf_X0_122 Wκ8 dX0_hasVariable_67 rfl (ty_atCode Wκ8 h12) ?_
              refine y_il dX0_hasVariable_70 rfl ?_
              refine y_ald dX0_hasVariable_72 (ty_coOwnCounts Wκ8 (ty_atCode Wκ8 h12)) F.1 ?_
              replace F := F.2
              refine y_ii ((zA κ8 (zR κ8 coOwnCounts (zR κ8 atCode a0)) (r9).toNatClampNeg) ≤ a3) dX0_hasVariable_73 (t := 80) rfl rfl (fun c9 => ?_) (fun c9 => ?_)
              · replace F := F.1 c9
                refine y_ic dX0_hasVariable_80 zi_0 ?_
                exact y_ri Wκ8 dX0_hasVariable_81 rfl (nb_nar nb_0) F
              · replace F := F.2 c9
                refine y_ic dX0_hasVariable_76 zi_1 ?_
                refine y_goto dX0_hasVariable_77 (t := 81) rfl ?_
                exact y_ri Wκ8 dX0_hasVariable_81 rfl (nb_nar nb_1) F
        · replace F := F.2 c9
          refine y_ic dX0_hasVariable_31 zi_0 ?_
          exact y_ri Wκ1 dX0_hasVariable_32 rfl (nb_nar nb_0) F
  · replace F := F.2 c9
    refine y_aln dX0_hasVariable_5 rfl ?_
    refine gf_X0_15 W dX0_hasVariable_6 rfl Ta0 ?_
    refine y_iln dX0_hasVariable_9 rfl ?_
    replace F := F (ty_atCode W Ta0)
    refine k_X0_109 W dX0_hasVariable_10 rfl (Nat.le_of_ble_eq_true rfl) (Nat.le_of_ble_eq_true rfl) (Or.inl (ty_atCode W Ta0)) F (fun r14 κ13 Wκ13 Mκ13 F => ?_) (fun _ _ h9 => False.elim h9)
    replace F := F Wκ13 Mκ13
    exact y_ri Wκ13 dX0_hasVariable_13 rfl (nb_nar F.1) F.2

theorem At_hasVariable_run {C : zC} {n0 : Nat} {Q : Int32 → zS → Prop} {a0 : Nat} {a1 : Int32} {a2 : Int32} {a3 : Int32} {κ : zS} (W : zW C n0 κ) (Ta0 : zT κ a0 = 3) (F : w_At_hasVariable_0 C (zn κ) Q a0 a1 a2 a3 κ) : zRun C 3 mAt_hasVariable [.ref a0, .int a1, .int a2, .int a3] κ (oI Q noX) := z_run (m_ent _ 1) (t_At_hasVariable_0 (W.lo (Nat.le_trans W.1.2.1 W.1.2.2) (Nat.le_refl _)) Ta0 F)

theorem dX0_variableOf_0 : decode cX0_variableOf 0 = .ok (.aload_n 0, 1) := by decide +kernel
theorem dX0_variableOf_1 : decode cX0_variableOf 1 = .ok (.getfield 33, 3) := by decide +kernel
theorem dX0_variableOf_4 : decode cX0_variableOf 4 = .ok (.iload_n 1, 1) := by decide +kernel
theorem dX0_variableOf_5 : decode cX0_variableOf 5 = .ok (.iload_n 2, 1) := by decide +kernel
theorem dX0_variableOf_6 : decode cX0_variableOf 6 = .ok (.iconst (-1), 1) := by decide +kernel
theorem dX0_variableOf_7 : decode cX0_variableOf 7 = .ok (.if_icmp .ne 7, 3) := by decide +kernel
theorem dX0_variableOf_10 : decode cX0_variableOf 10 = .ok (.iload_n 3, 1) := by decide +kernel
theorem dX0_variableOf_11 : decode cX0_variableOf 11 = .ok (.goto 19, 3) := by decide +kernel
theorem dX0_variableOf_14 : decode cX0_variableOf 14 = .ok (.aload_n 0, 1) := by decide +kernel
theorem dX0_variableOf_15 : decode cX0_variableOf 15 = .ok (.getfield 15, 3) := by decide +kernel
theorem dX0_variableOf_18 : decode cX0_variableOf 18 = .ok (.invokevirtual 99, 3) := by decide +kernel
theorem dX0_variableOf_21 : decode cX0_variableOf 21 = .ok (.iload_n 2, 1) := by decide +kernel
theorem dX0_variableOf_22 : decode cX0_variableOf 22 = .ok (.bipush 9, 2) := by decide +kernel
theorem dX0_variableOf_24 : decode cX0_variableOf 24 = .ok (.imul, 1) := by decide +kernel
theorem dX0_variableOf_25 : decode cX0_variableOf 25 = .ok (.iadd, 1) := by decide +kernel
theorem dX0_variableOf_26 : decode cX0_variableOf 26 = .ok (.iconst 1, 1) := by decide +kernel
theorem dX0_variableOf_27 : decode cX0_variableOf 27 = .ok (.iadd, 1) := by decide +kernel
theorem dX0_variableOf_28 : decode cX0_variableOf 28 = .ok (.iload_n 3, 1) := by decide +kernel
theorem dX0_variableOf_29 : decode cX0_variableOf 29 = .ok (.iadd, 1) := by decide +kernel
theorem dX0_variableOf_30 : decode cX0_variableOf 30 = .ok (.invokevirtual 105, 3) := by decide +kernel
theorem dX0_variableOf_33 : decode cX0_variableOf 33 = .ok (.ireturn, 1) := by decide +kernel
def w_At_variableOf_0 (C : zC) (n0 : Nat) (Q : Int32 → zS → Prop)  (a0 : Nat) (a1 : Int32) (a2 : Int32) (a3 : Int32) (κ : zS) : Prop :=
  (¬ a2 = (-1 : Int32) →
    ∀ _ : zT κ (zR κ atCode a0) = 5,
    zRun C 0 mCo_shared [.ref (zR κ atCode a0)] κ (oI (fun r2 κ1 =>
      ∀ _ : zW C n0 κ1,
      ∀ _ : zM (zn κ) κ κ1,
      ∀ _ : zT κ1 (zR κ atStates a0) = 6,
      zRun C 1 mHo_part [.ref (zR κ atStates a0), .int a1, .int (((r2 + (a2 * (9 : Int32))) + (1 : Int32)) + a3)] κ1 (oI (fun r5 κ4 =>
        ∀ _ : zW C n0 κ4,
        ∀ _ : zM (zn κ1) κ1 κ4,
        Q r5 κ4) noX)) noX)) ∧
  (a2 = (-1 : Int32) →
    ∀ _ : zT κ (zR κ atStates a0) = 6,
    zRun C 1 mHo_part [.ref (zR κ atStates a0), .int a1, .int a3] κ (oI (fun r9 κ8 =>
      ∀ _ : zW C n0 κ8,
      ∀ _ : zM (zn κ) κ κ8,
      Q r9 κ8) noX))
theorem t_At_variableOf_0 {C : zC} {n0 : Nat} {Q : Int32 → zS → Prop}   {a0 : Nat} {a1 : Int32} {a2 : Int32} {a3 : Int32} {κ : zS} (W : zW C n0 κ) (Ta0 : zT κ a0 = 3) (F : w_At_variableOf_0 C n0 Q  a0 a1 a2 a3 κ) : zG C n0 2 mAt_variableOf 0 [some (.ref a0), some (.int a1), some (.int a2), some (.int a3)] [] κ (oI Q noX) := by
  unfold w_At_variableOf_0 at F
  refine y_aln dX0_variableOf_0 rfl ?_
  refine gf_X0_33 W dX0_variableOf_1 rfl Ta0 ?_
  refine y_iln dX0_variableOf_4 rfl ?_
  refine y_iln dX0_variableOf_5 rfl ?_
  refine y_ic dX0_variableOf_6 zi_m1 ?_
  refine y_iin (a2 = (-1 : Int32)) dX0_variableOf_7 (t := 14) rfl rfl (fun c9 => ?_) (fun c9 => ?_)
  · replace F := F.1 c9
    refine y_aln dX0_variableOf_14 rfl ?_
    refine gf_X0_15 W dX0_variableOf_15 rfl Ta0 ?_
    replace F := F (ty_atCode W Ta0)
    refine k_X0_99 W dX0_variableOf_18 rfl (Nat.le_of_ble_eq_true rfl) (Nat.le_of_ble_eq_true rfl) (Or.inl (ty_atCode W Ta0)) F (fun r2 κ1 Wκ1 Mκ1 F => ?_) (fun _ _ h9 => False.elim h9)
    replace F := F Wκ1 Mκ1
    refine y_iln dX0_variableOf_21 rfl ?_
    refine y_bi1 dX0_variableOf_22 zb_9 ?_
    refine y_imul dX0_variableOf_24 ?_
    refine y_iadd dX0_variableOf_25 ?_
    refine y_ic dX0_variableOf_26 zi_1 ?_
    refine y_iadd dX0_variableOf_27 ?_
    refine y_iln dX0_variableOf_28 rfl ?_
    refine y_iadd dX0_variableOf_29 ?_
    have h6 := (ztm W Mκ1 (ty_atStates W Ta0))
    replace F := F h6
    refine k_X0_105 Wκ1 dX0_variableOf_30 rfl (Nat.le_of_ble_eq_true rfl) (Nat.le_of_ble_eq_true rfl) (Or.inl h6) F (fun r5 κ4 Wκ4 Mκ4 F => ?_) (fun _ _ h9 => False.elim h9)
    replace F := F Wκ4 Mκ4
    exact y_ri Wκ4 dX0_variableOf_33 rfl in_nar F
  · replace F := F.2 c9
    refine y_iln dX0_variableOf_10 rfl ?_
    refine y_goto dX0_variableOf_11 (t := 30) rfl ?_
    replace F := F (ty_atStates W Ta0)
    refine k_X0_105 W dX0_variableOf_30 rfl (Nat.le_of_ble_eq_true rfl) (Nat.le_of_ble_eq_true rfl) (Or.inl (ty_atStates W Ta0)) F (fun r9 κ8 Wκ8 Mκ8 F => ?_) (fun _ _ h9 => False.elim h9)
    replace F := F Wκ8 Mκ8
    exact y_ri Wκ8 dX0_variableOf_33 rfl in_nar F

theorem At_variableOf_run {C : zC} {n0 : Nat} {Q : Int32 → zS → Prop} {a0 : Nat} {a1 : Int32} {a2 : Int32} {a3 : Int32} {κ : zS} (W : zW C n0 κ) (Ta0 : zT κ a0 = 3) (F : w_At_variableOf_0 C (zn κ) Q a0 a1 a2 a3 κ) : zRun C 2 mAt_variableOf [.ref a0, .int a1, .int a2, .int a3] κ (oI Q noX) := z_run (m_ent _ 0) (t_At_variableOf_0 (W.lo (Nat.le_trans W.1.2.1 W.1.2.2) (Nat.le_refl _)) Ta0 F)

