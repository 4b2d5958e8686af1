/-! methods of the class: Co_clear, Co_howMany, Co_addStatement, Co_setColumn, Co_emit, Co_linkFollows, Ma_init, Ma_wayAt, Nu_words, Nu_word, Nu_times, Nu_rest, Nu_plus, Nu_minus, Od_init -/
theorem dX2_clear_0 : decode cX2_clear 0 = .ok (.aload_n 0, 1) := by decide +kernel
theorem dX2_clear_1 : decode cX2_clear 1 = .ok (.iconst 0, 1) := by decide +kernel
theorem dX2_clear_2 : decode cX2_clear 2 = .ok (.putfield 39, 3) := by decide +kernel
theorem dX2_clear_5 : decode cX2_clear 5 = .ok (.aload_n 0, 1) := by decide +kernel
theorem dX2_clear_6 : decode cX2_clear 6 = .ok (.iconst 0, 1) := by decide +kernel
theorem dX2_clear_7 : decode cX2_clear 7 = .ok (.putfield 43, 3) := by decide +kernel
theorem dX2_clear_10 : decode cX2_clear 10 = .ok (.aload_n 0, 1) := by decide +kernel
theorem dX2_clear_11 : decode cX2_clear 11 = .ok (.iconst 0, 1) := by decide +kernel
theorem dX2_clear_12 : decode cX2_clear 12 = .ok (.putfield 46, 3) := by decide +kernel
theorem dX2_clear_15 : decode cX2_clear 15 = .ok (.aload_n 0, 1) := by decide +kernel
theorem dX2_clear_16 : decode cX2_clear 16 = .ok (.iconst 0, 1) := by decide +kernel
theorem dX2_clear_17 : decode cX2_clear 17 = .ok (.putfield 49, 3) := by decide +kernel
theorem dX2_clear_20 : decode cX2_clear 20 = .ok (.aload_n 0, 1) := by decide +kernel
theorem dX2_clear_21 : decode cX2_clear 21 = .ok (.iconst 0, 1) := by decide +kernel
theorem dX2_clear_22 : decode cX2_clear 22 = .ok (.putfield 52, 3) := by decide +kernel
theorem dX2_clear_25 : decode cX2_clear 25 = .ok (.aload_n 0, 1) := by decide +kernel
theorem dX2_clear_26 : decode cX2_clear 26 = .ok (.iconst (-1), 1) := by decide +kernel
theorem dX2_clear_27 : decode cX2_clear 27 = .ok (.putfield 55, 3) := by decide +kernel
theorem dX2_clear_30 : decode cX2_clear 30 = .ok (.aload_n 0, 1) := by decide +kernel
theorem dX2_clear_31 : decode cX2_clear 31 = .ok (.iconst 0, 1) := by decide +kernel
theorem dX2_clear_32 : decode cX2_clear 32 = .ok (.putfield 58, 3) := by decide +kernel
theorem dX2_clear_35 : decode cX2_clear 35 = .ok (.aload_n 0, 1) := by decide +kernel
theorem dX2_clear_36 : decode cX2_clear 36 = .ok (.getfield 21, 3) := by decide +kernel
theorem dX2_clear_39 : decode cX2_clear 39 = .ok (.iconst (-1), 1) := by decide +kernel
theorem dX2_clear_40 : decode cX2_clear 40 = .ok (.invokestatic 61, 3) := by decide +kernel
theorem dX2_clear_43 : decode cX2_clear 43 = .ok (.return_, 1) := by decide +kernel
def w_Co_clear_0 (C : zC) (n0 : Nat) (Q : zS → Prop)  (a0 : Nat) (κ : zS) : Prop :=
  ∀ κ1, κ1 = ui κ coVars a0 (0 : Int32) →
  ∀ _ : zW C n0 κ1,
  ∀ κ2, κ2 = ui κ1 coArrays a0 (0 : Int32) →
  ∀ _ : zW C n0 κ2,
  ∀ κ4, κ4 = ui κ2 coCells a0 (0 : Int32) →
  ∀ _ : zW C n0 κ4,
  ∀ κ6, κ6 = ui κ4 coFunctions a0 (0 : Int32) →
  ∀ _ : zW C n0 κ6,
  ∀ κ8, κ8 = ui κ6 coStatements a0 (0 : Int32) →
  ∀ _ : zW C n0 κ8,
  ∀ κ10, κ10 = ui κ8 coMain a0 (-1 : Int32) →
  ∀ _ : zW C n0 κ10,
  ∀ κ12, κ12 = ui κ10 coLength a0 (0 : Int32) →
  ∀ _ : zW C n0 κ12,
  ∀ _ : zT κ12 (zR κ12 coFirstStatements a0) = 20,
  zRun C 0 mAr_fill [.ref (zR κ12 coFirstStatements a0), .int (-1 : Int32)] κ12 (oV (fun κ15 =>
    ∀ _ : zW C n0 κ15,
    ∀ _ : zM (zn κ12) κ12 κ15,
    Q κ15) noX)
theorem t_Co_clear_0 {C : zC} {n0 : Nat} {Q : zS → Prop}   {a0 : Nat} {κ : zS} (W : zW C n0 κ) (Ta0 : zT κ a0 = 5) (F : w_Co_clear_0 C n0 Q  a0 κ) : zG C n0 1 mCo_clear 0 [some (.ref a0)] [] κ (oV Q noX) := by
  unfold w_Co_clear_0 at F
  refine y_aln dX2_clear_0 rfl ?_
  refine y_ic dX2_clear_1 zi_0 ?_
  refine pf_X2_39 W dX2_clear_2 rfl (Or.inl Ta0) (fun κ1 eκ1 => ?_)
  replace F := F κ1 eκ1
  have Wκ1 : zW C n0 κ1 := zW_ui W eκ1 (fun h => absurd h (by decide))
  have Mκ1 : zM (zn κ) κ κ1 := by rw [eκ1]; exact zM.of rfl rfl rfl
  replace F := F Wκ1
  refine y_aln dX2_clear_5 rfl ?_
  refine y_ic dX2_clear_6 zi_0 ?_
  have h3 := (ztm W Mκ1 Ta0)
  refine pf_X2_43 Wκ1 dX2_clear_7 rfl (Or.inl h3) (fun κ2 eκ2 => ?_)
  replace F := F κ2 eκ2
  have Wκ2 : zW C n0 κ2 := zW_ui Wκ1 eκ2 (fun h => absurd h (by decide))
  have Mκ2 : zM (zn κ1) κ1 κ2 := by rw [eκ2]; exact zM.of rfl rfl rfl
  replace F := F Wκ2
  refine y_aln dX2_clear_10 rfl ?_
  refine y_ic dX2_clear_11 zi_0 ?_
  have h5 := (ztm Wκ1 Mκ2 h3)
  refine pf_X2_46 Wκ2 dX2_clear_12 rfl (Or.inl h5) (fun κ4 eκ4 => ?_)
  replace F := F κ4 eκ4
  have Wκ4 : zW C n0 κ4 := zW_ui Wκ2 eκ4 (fun h => absurd h (by decide))
  have Mκ4 : zM (zn κ2) κ2 κ4 := by rw [eκ4]; exact zM.of rfl rfl rfl
  replace F := F Wκ4
  refine y_aln dX2_clear_15 rfl ?_
  refine y_ic dX2_clear_16 zi_0 ?_
  have h7 := (ztm Wκ2 Mκ4 h5)
  refine pf_X2_49 Wκ4 dX2_clear_17 rfl (Or.inl h7) (fun κ6 eκ6 => ?_)
  replace F := F κ6 eκ6
  have Wκ6 : zW C n0 κ6 := zW_ui Wκ4 eκ6 (fun h => absurd h (by decide))
  have Mκ6 : zM (zn κ4) κ4 κ6 := by rw [eκ6]; exact zM.of rfl rfl rfl
  replace F := F Wκ6
  refine y_aln dX2_clear_20 rfl ?_
  refine y_ic dX2_clear_21 zi_0 ?_
  have h9 := (ztm Wκ4 Mκ6 h7)
  refine pf_X2_52 Wκ6 dX2_clear_22 rfl (Or.inl h9) (fun κ8 eκ8 => ?_)
  replace F := F κ8 eκ8
  have Wκ8 : zW C n0 κ8 := zW_ui Wκ6 eκ8 (fun h => absurd h (by decide))
  have Mκ8 : zM (zn κ6) κ6 κ8 := by rw [eκ8]; exact zM.of rfl rfl rfl
  replace F := F Wκ8
  refine y_aln dX2_clear_25 rfl ?_
  refine y_ic dX2_clear_26 zi_m1 ?_
  have h11 := (ztm Wκ6 Mκ8 h9)
  refine pf_X2_55 Wκ8 dX2_clear_27 rfl (Or.inl h11) (fun κ10 eκ10 => ?_)
  replace F := F κ10 eκ10
  have Wκ10 : zW C n0 κ10 := zW_ui Wκ8 eκ10 (fun h => absurd h (by decide))
  have Mκ10 : zM (zn κ8) κ8 κ10 := by rw [eκ10]; exact zM.of rfl rfl rfl
  replace F := F Wκ10
  refine y_aln dX2_clear_30 rfl ?_
  refine y_ic dX2_clear_31 zi_0 ?_
  have h13 := (ztm Wκ8 Mκ10 h11)
  refine pf_X2_58 Wκ10 dX2_clear_32 rfl (Or.inl h13) (fun κ12 eκ12 => ?_)
  replace F := F κ12 eκ12
  have Wκ12 : zW C n0 κ12 := zW_ui Wκ10 eκ12 (fun h => absurd h (by decide))
  have Mκ12 : zM (zn κ10) κ10 κ12 := by rw [eκ12]; exact zM.of rfl rfl rfl
  replace F := F Wκ12
  refine y_aln dX2_clear_35 rfl ?_
  have h14 := (ztm Wκ10 Mκ12 h13)
  refine gf_X2_21 Wκ12 dX2_clear_36 rfl h14 ?_
  refine y_ic dX2_clear_39 zi_m1 ?_
  replace F := F (ty_coFirstStatements Wκ12 h14)
  refine k_X2_61 Wκ12 dX2_clear_40 rfl (Nat.le_of_ble_eq_true rfl) (Nat.le_of_ble_eq_true rfl)  F (fun  κ15 Wκ15 Mκ15 F => ?_) (fun _ _ h9 => False.elim h9)
  replace F := F Wκ15 Mκ15
  exact y_rv Wκ15 dX2_clear_43 rfl F

theorem Co_clear_run {C : zC} {n0 : Nat} {Q : zS → Prop} {a0 : Nat} {κ : zS} (W : zW C n0 κ) (Ta0 : zT κ a0 = 5) (F : w_Co_clear_0 C (zn κ) Q a0 κ) : zRun C 1 mCo_clear [.ref a0] κ (oV Q noX) := z_run (m_ent _ 0) (t_Co_clear_0 (W.lo (Nat.le_trans W.1.2.1 W.1.2.2) (Nat.le_refl _)) Ta0 F)

theorem dX2_howMany_0 : decode cX2_howMany 0 = .ok (.iload_n 1, 1) := by decide +kernel
theorem dX2_howMany_1 : decode cX2_howMany 1 = .ok (.tableswitch 42 0 2 #[27, 32, 37], 27) := by decide +kernel
theorem dX2_howMany_28 : decode cX2_howMany 28 = .ok (.aload_n 0, 1) := by decide +kernel
theorem dX2_howMany_29 : decode cX2_howMany 29 = .ok (.getfield 39, 3) := by decide +kernel
theorem dX2_howMany_32 : decode cX2_howMany 32 = .ok (.ireturn, 1) := by decide +kernel
theorem dX2_howMany_33 : decode cX2_howMany 33 = .ok (.aload_n 0, 1) := by decide +kernel
theorem dX2_howMany_34 : decode cX2_howMany 34 = .ok (.getfield 43, 3) := by decide +kernel
theorem dX2_howMany_37 : decode cX2_howMany 37 = .ok (.ireturn, 1) := by decide +kernel
theorem dX2_howMany_38 : decode cX2_howMany 38 = .ok (.aload_n 0, 1) := by decide +kernel
theorem dX2_howMany_39 : decode cX2_howMany 39 = .ok (.getfield 49, 3) := by decide +kernel
theorem dX2_howMany_42 : decode cX2_howMany 42 = .ok (.ireturn, 1) := by decide +kernel
theorem dX2_howMany_43 : decode cX2_howMany 43 = .ok (.aload_n 0, 1) := by decide +kernel
theorem dX2_howMany_44 : decode cX2_howMany 44 = .ok (.getfield 52, 3) := by decide +kernel
theorem dX2_howMany_47 : decode cX2_howMany 47 = .ok (.ireturn, 1) := by decide +kernel
def w_Co_howMany_0 (C : zC) (n0 : Nat) (Q : Int32 → zS → Prop)  (a0 : Nat) (a1 : Int32) (κ : zS) : Prop :=
  ((a1).toInt < 0 ∨ 2 < (a1).toInt →
    Q (zI κ coStatements a0) κ) ∧
  ((a1).toInt = 0 →
    Q (zI κ coVars a0) κ) ∧
  ((a1).toInt = 1 →
    Q (zI κ coArrays a0) κ) ∧
  ((a1).toInt = 2 →
    Q (zI κ coFunctions a0) κ)
theorem t_Co_howMany_0 {C : zC} {n0 : Nat} {Q : Int32 → zS → Prop}   {a0 : Nat} {a1 : Int32} {κ : zS} (W : zW C n0 κ) (Ta0 : zT κ a0 = 5) (F : w_Co_howMany_0 C n0 Q  a0 a1 κ) : zG C n0 0 mCo_howMany 0 [some (.ref a0), some (.int a1)] [] κ (oI Q noX) := by
  unfold w_Co_howMany_0 at F
  refine y_iln dX2_howMany_0 rfl ?_
  by_cases hsw : (a1).toInt < 0 ∨ 2 < (a1).toInt
  · refine y_swd (t := 43) dX2_howMany_1 hsw rfl ?_
    replace F := F.1 hsw
    refine y_aln dX2_howMany_43 rfl ?_
    refine gf_X2_52 dX2_howMany_44 rfl (Or.inl Ta0) ?_
    exact y_ri W dX2_howMany_47 rfl in_nar F
  replace F := F.2
  by_cases hs0 : (a1).toInt = 0
  · refine y_p (pc' := 28) dX2_howMany_1 rfl (fun lo => sw_at (k := 0) hs0 (eq_true (by decide)) rfl rfl) ?_
    replace F := F.1 hs0
    refine y_aln dX2_howMany_28 rfl ?_
    refine gf_X2_39 dX2_howMany_29 rfl (Or.inl Ta0) ?_
    exact y_ri W dX2_howMany_32 rfl in_nar F
  replace F := F.2
  by_cases hs1 : (a1).toInt = 1
  · refine y_p (pc' := 33) dX2_howMany_1 rfl (fun lo => sw_at (k := 0) hs1 (eq_true (by decide)) rfl rfl) ?_
    replace F := F.1 hs1
    refine y_aln dX2_howMany_33 rfl ?_
    refine gf_X2_43 dX2_howMany_34 rfl (Or.inl Ta0) ?_
    exact y_ri W dX2_howMany_37 rfl in_nar F
  replace F := F.2
  have hs2 : (a1).toInt = 2 := by omega
  refine y_p (pc' := 38) dX2_howMany_1 rfl (fun lo => sw_at (k := 0) hs2 (eq_true (by decide)) rfl rfl) ?_
  replace F := F hs2
  refine y_aln dX2_howMany_38 rfl ?_
  refine gf_X2_49 dX2_howMany_39 rfl (Or.inl Ta0) ?_
  exact y_ri W dX2_howMany_42 rfl in_nar F

theorem Co_howMany_run {C : zC} {n0 : Nat} {Q : Int32 → zS → Prop} {a0 : Nat} {a1 : Int32} {κ : zS} (W : zW C n0 κ) (Ta0 : zT κ a0 = 5) (F : w_Co_howMany_0 C (zn κ) Q a0 a1 κ) : zRun C 0 mCo_howMany [.ref a0, .int a1] κ (oI Q noX) := z_run (m_ent _ 0) (t_Co_howMany_0 (W.lo (Nat.le_trans W.1.2.1 W.1.2.2) (Nat.le_refl _)) Ta0 F)

theorem dX2_addStatement_0 : decode cX2_addStatement 0 = .ok (.aload_n 0, 1) := by decide +kernel
theorem dX2_addStatement_1 : decode cX2_addStatement 1 = .ok (.getfield 52, 3) := by decide +kernel
theorem dX2_addStatement_4 : decode cX2_addStatement 4 = .ok (.bipush 11, 2) := by decide +kernel
theorem dX2_addStatement_6 : decode cX2_addStatement 6 = .ok (.imul, 1) := by decide +kernel
theorem dX2_addStatement_7 : decode cX2_addStatement 7 = .ok (.istore_n 1, 1) := by decide +kernel
theorem dX2_addStatement_8 : decode cX2_addStatement 8 = .ok (.iload_n 1, 1) := by decide +kernel
theorem dX2_addStatement_9 : decode cX2_addStatement 9 = .ok (.bipush 11, 2) := by decide +kernel
theorem dX2_addStatement_11 : decode cX2_addStatement 11 = .ok (.iadd, 1) := by decide +kernel
theorem dX2_addStatement_12 : decode cX2_addStatement 12 = .ok (.aload_n 0, 1) := by decide +kernel
theorem dX2_addStatement_13 : decode cX2_addStatement 13 = .ok (.getfield 30, 3) := by decide +kernel
theorem dX2_addStatement_16 : decode cX2_addStatement 16 = .ok (.arraylength, 1) := by decide +kernel
theorem dX2_addStatement_17 : decode cX2_addStatement 17 = .ok (.if_icmp .le 20, 3) := by decide +kernel
theorem dX2_addStatement_20 : decode cX2_addStatement 20 = .ok (.aload_n 0, 1) := by decide +kernel
theorem dX2_addStatement_21 : decode cX2_addStatement 21 = .ok (.aload_n 0, 1) := by decide +kernel
theorem dX2_addStatement_22 : decode cX2_addStatement 22 = .ok (.getfield 30, 3) := by decide +kernel
theorem dX2_addStatement_25 : decode cX2_addStatement 25 = .ok (.iload_n 1, 1) := by decide +kernel
theorem dX2_addStatement_26 : decode cX2_addStatement 26 = .ok (.bipush 11, 2) := by decide +kernel
theorem dX2_addStatement_28 : decode cX2_addStatement 28 = .ok (.iadd, 1) := by decide +kernel
theorem dX2_addStatement_29 : decode cX2_addStatement 29 = .ok (.iconst 2, 1) := by decide +kernel
theorem dX2_addStatement_30 : decode cX2_addStatement 30 = .ok (.imul, 1) := by decide +kernel
theorem dX2_addStatement_31 : decode cX2_addStatement 31 = .ok (.invokestatic 67, 3) := by decide +kernel
theorem dX2_addStatement_34 : decode cX2_addStatement 34 = .ok (.putfield 30, 3) := by decide +kernel
theorem dX2_addStatement_37 : decode cX2_addStatement 37 = .ok (.aload_n 0, 1) := by decide +kernel
theorem dX2_addStatement_38 : decode cX2_addStatement 38 = .ok (.getfield 30, 3) := by decide +kernel
theorem dX2_addStatement_41 : decode cX2_addStatement 41 = .ok (.iload_n 1, 1) := by decide +kernel
theorem dX2_addStatement_42 : decode cX2_addStatement 42 = .ok (.iload_n 1, 1) := by decide +kernel
theorem dX2_addStatement_43 : decode cX2_addStatement 43 = .ok (.bipush 11, 2) := by decide +kernel
theorem dX2_addStatement_45 : decode cX2_addStatement 45 = .ok (.iadd, 1) := by decide +kernel
theorem dX2_addStatement_46 : decode cX2_addStatement 46 = .ok (.iconst (-1), 1) := by decide +kernel
theorem dX2_addStatement_47 : decode cX2_addStatement 47 = .ok (.invokestatic 71, 3) := by decide +kernel
theorem dX2_addStatement_50 : decode cX2_addStatement 50 = .ok (.aload_n 0, 1) := by decide +kernel
theorem dX2_addStatement_51 : decode cX2_addStatement 51 = .ok (.getfield 30, 3) := by decide +kernel
theorem dX2_addStatement_54 : decode cX2_addStatement 54 = .ok (.iload_n 1, 1) := by decide +kernel
theorem dX2_addStatement_55 : decode cX2_addStatement 55 = .ok (.iconst 1, 1) := by decide +kernel
theorem dX2_addStatement_56 : decode cX2_addStatement 56 = .ok (.iadd, 1) := by decide +kernel
theorem dX2_addStatement_57 : decode cX2_addStatement 57 = .ok (.iconst 0, 1) := by decide +kernel
theorem dX2_addStatement_58 : decode cX2_addStatement 58 = .ok (.iastore, 1) := by decide +kernel
theorem dX2_addStatement_59 : decode cX2_addStatement 59 = .ok (.aload_n 0, 1) := by decide +kernel
theorem dX2_addStatement_60 : decode cX2_addStatement 60 = .ok (.getfield 30, 3) := by decide +kernel
theorem dX2_addStatement_63 : decode cX2_addStatement 63 = .ok (.iload_n 1, 1) := by decide +kernel
theorem dX2_addStatement_64 : decode cX2_addStatement 64 = .ok (.iconst 3, 1) := by decide +kernel
theorem dX2_addStatement_65 : decode cX2_addStatement 65 = .ok (.iadd, 1) := by decide +kernel
theorem dX2_addStatement_66 : decode cX2_addStatement 66 = .ok (.aload_n 0, 1) := by decide +kernel
theorem dX2_addStatement_67 : decode cX2_addStatement 67 = .ok (.getfield 58, 3) := by decide +kernel
theorem dX2_addStatement_70 : decode cX2_addStatement 70 = .ok (.iastore, 1) := by decide +kernel
theorem dX2_addStatement_71 : decode cX2_addStatement 71 = .ok (.aload_n 0, 1) := by decide +kernel
theorem dX2_addStatement_72 : decode cX2_addStatement 72 = .ok (.getfield 30, 3) := by decide +kernel
theorem dX2_addStatement_75 : decode cX2_addStatement 75 = .ok (.iload_n 1, 1) := by decide +kernel
theorem dX2_addStatement_76 : decode cX2_addStatement 76 = .ok (.iconst 4, 1) := by decide +kernel
theorem dX2_addStatement_77 : decode cX2_addStatement 77 = .ok (.iadd, 1) := by decide +kernel
theorem dX2_addStatement_78 : decode cX2_addStatement 78 = .ok (.iconst 0, 1) := by decide +kernel
theorem dX2_addStatement_79 : decode cX2_addStatement 79 = .ok (.iastore, 1) := by decide +kernel
theorem dX2_addStatement_80 : decode cX2_addStatement 80 = .ok (.aload_n 0, 1) := by decide +kernel
theorem dX2_addStatement_81 : decode cX2_addStatement 81 = .ok (.dup, 1) := by decide +kernel
theorem dX2_addStatement_82 : decode cX2_addStatement 82 = .ok (.getfield 52, 3) := by decide +kernel
theorem dX2_addStatement_85 : decode cX2_addStatement 85 = .ok (.iconst 1, 1) := by decide +kernel
theorem dX2_addStatement_86 : decode cX2_addStatement 86 = .ok (.iadd, 1) := by decide +kernel
theorem dX2_addStatement_87 : decode cX2_addStatement 87 = .ok (.putfield 52, 3) := by decide +kernel
theorem dX2_addStatement_90 : decode cX2_addStatement 90 = .ok (.aload_n 0, 1) := by decide +kernel
theorem dX2_addStatement_91 : decode cX2_addStatement 91 = .ok (.getfield 52, 3) := by decide +kernel
theorem dX2_addStatement_94 : decode cX2_addStatement 94 = .ok (.iconst 1, 1) := by decide +kernel
theorem dX2_addStatement_95 : decode cX2_addStatement 95 = .ok (.isub, 1) := by decide +kernel
theorem dX2_addStatement_96 : decode cX2_addStatement 96 = .ok (.ireturn, 1) := by decide +kernel
def w_Co_addStatement_37 (C : zC) (n0 : Nat) (Q : Int32 → zS → Prop)  (a0 : Nat) (a1 : Int32) (κ : zS) : Prop :=
  ∀ _ : zT κ (zR κ coRows a0) = 20,
  zRun C 1 mAr_fill4 [.ref (zR κ coRows a0), .int a1, .int (a1 + (11 : Int32)), .int (-1 : Int32)] κ (oV (fun κ1 =>
    ∀ _ : zW C n0 κ1,
    ∀ _ : zM (zn κ) κ κ1,
    inb (a1 + (1 : Int32)) (zN κ1 (zR κ1 coRows a0)) ∧
    ∀ κ5, κ5 = ua κ1 (zR κ1 coRows a0) ((a1 + (1 : Int32))).toNatClampNeg (0 : Int32) →
    ∀ _ : zW C n0 κ5,
    inb (a1 + (3 : Int32)) (zN κ5 (zR κ5 coRows a0)) ∧
    ∀ κ7, κ7 = ua κ5 (zR κ5 coRows a0) ((a1 + (3 : Int32))).toNatClampNeg (zI κ5 coLength a0) →
    ∀ _ : zW C n0 κ7,
    inb (a1 + (4 : Int32)) (zN κ7 (zR κ7 coRows a0)) ∧
    ∀ κ9, κ9 = ua κ7 (zR κ7 coRows a0) ((a1 + (4 : Int32))).toNatClampNeg (0 : Int32) →
    ∀ _ : zW C n0 κ9,
    ∀ κ11, κ11 = ui κ9 coStatements a0 ((zI κ9 coStatements a0) + (1 : Int32)) →
    ∀ _ : zW C n0 κ11,
    Q ((zI κ11 coStatements a0) - (1 : Int32)) κ11) noX)
theorem t_Co_addStatement_37 {C : zC} {n0 : Nat} {Q : Int32 → zS → Prop}   {a0 : Nat} {a1 : Int32} {κ : zS} (W : zW C n0 κ) (Ta0 : zT κ a0 = 5) (F : w_Co_addStatement_37 C n0 Q  a0 a1 κ) : zG C n0 2 mCo_addStatement 37 [some (.ref a0), some (.int a1)] [] κ (oI Q noX) := by
  unfold w_Co_addStatement_37 at F
  refine y_aln dX2_addStatement_37 rfl ?_
  refine gf_X2_30 W dX2_addStatement_38 rfl Ta0 ?_
  refine y_iln dX2_addStatement_41 rfl ?_
  refine y_iln dX2_addStatement_42 rfl ?_
  refine y_bi1 dX2_addStatement_43 zb_11 ?_
  refine y_iadd dX2_addStatement_45 ?_
  refine y_ic dX2_addStatement_46 zi_m1 ?_
  replace F := F (ty_coRows W Ta0)
  refine k_X2_71 W dX2_addStatement_47 rfl (Nat.le_of_ble_eq_true rfl) (Nat.le_of_ble_eq_true rfl)  F (fun  κ1 Wκ1 Mκ1 F => ?_) (fun _ _ h9 => False.elim h9)
  replace F := F Wκ1 Mκ1
  refine y_aln dX2_addStatement_50 rfl ?_
  have h4 := (ztm W Mκ1 Ta0)
  refine gf_X2_30 Wκ1 dX2_addStatement_51 rfl h4 ?_
  refine y_iln dX2_addStatement_54 rfl ?_
  refine y_ic dX2_addStatement_55 zi_1 ?_
  refine y_iadd dX2_addStatement_56 ?_
  refine y_ic dX2_addStatement_57 zi_0 ?_
  refine y_ast Wκ1 dX2_addStatement_58 (ty_coRows Wκ1 h4) F.1 (fun κ5 eκ5 => ?_)
  replace F := F.2 κ5 eκ5
  have Wκ5 : zW C n0 κ5 := zW_ua Wκ1 eκ5 (fun h => absurd (h.symm.trans (ty_coRows Wκ1 h4)) (by decide)) (fun h => absurd (h.symm.trans (ty_coRows Wκ1 h4)) (by decide))
  have Mκ5 : zM (zn κ1) κ1 κ5 := by rw [eκ5]; exact zM.of rfl rfl rfl
  replace F := F Wκ5
  refine y_aln dX2_addStatement_59 rfl ?_
  have h6 := (ztm Wκ1 Mκ5 h4)
  refine gf_X2_30 Wκ5 dX2_addStatement_60 rfl h6 ?_
  refine y_iln dX2_addStatement_63 rfl ?_
  refine y_ic dX2_addStatement_64 zi_3 ?_
  refine y_iadd dX2_addStatement_65 ?_
  refine y_aln dX2_addStatement_66 rfl ?_
  refine gf_X2_58 dX2_addStatement_67 rfl (Or.inl h6) ?_
  refine y_ast Wκ5 dX2_addStatement_70 (ty_coRows Wκ5 h6) F.1 (fun κ7 eκ7 => ?_)
  replace F := F.2 κ7 eκ7
  have Wκ7 : zW C n0 κ7 := zW_ua Wκ5 eκ7 (fun h => absurd (h.symm.trans (ty_coRows Wκ5 h6)) (by decide)) (fun h => absurd (h.symm.trans (ty_coRows Wκ5 h6)) (by decide))
  have Mκ7 : zM (zn κ5) κ5 κ7 := by rw [eκ7]; exact zM.of rfl rfl rfl
  replace F := F Wκ7
  refine y_aln dX2_addStatement_71 rfl ?_
  have h8 := (ztm Wκ5 Mκ7 h6)
  refine gf_X2_30 Wκ7 dX2_addStatement_72 rfl h8 ?_
  refine y_iln dX2_addStatement_75 rfl ?_
  refine y_ic dX2_addStatement_76 zi_4 ?_
  refine y_iadd dX2_addStatement_77 ?_
  refine y_ic dX2_addStatement_78 zi_0 ?_
  refine y_ast Wκ7 dX2_addStatement_79 (ty_coRows Wκ7 h8) F.1 (fun κ9 eκ9 => ?_)
  replace F := F.2 κ9 eκ9
  have Wκ9 : zW C n0 κ9 := zW_ua Wκ7 eκ9 (fun h => absurd (h.symm.trans (ty_coRows Wκ7 h8)) (by decide)) (fun h => absurd (h.symm.trans (ty_coRows Wκ7 h8)) (by decide))
  have Mκ9 : zM (zn κ7) κ7 κ9 := by rw [eκ9]; exact zM.of rfl rfl rfl
  replace F := F Wκ9
  refine y_aln dX2_addStatement_80 rfl ?_
  refine y_dup dX2_addStatement_81 rfl ?_
  have h10 := (ztm Wκ7 Mκ9 h8)
  refine gf_X2_52 dX2_addStatement_82 rfl (Or.inl h10) ?_
  refine y_ic dX2_addStatement_85 zi_1 ?_
  refine y_iadd dX2_addStatement_86 ?_
  refine pf_X2_52 Wκ9 dX2_addStatement_87 rfl (Or.inl h10) (fun κ11 eκ11 => ?_)
  replace F := F κ11 eκ11
  have Wκ11 : zW C n0 κ11 := zW_ui Wκ9 eκ11 (fun h => absurd h (by decide))
  have Mκ11 : zM (zn κ9) κ9 κ11 := by rw [eκ11]; exact zM.of rfl rfl rfl
  replace F := F Wκ11
  refine y_aln dX2_addStatement_90 rfl ?_
  have h12 := (ztm Wκ9 Mκ11 h10)
  refine gf_X2_52 dX2_addStatement_91 rfl (Or.inl h12) ?_
  refine y_ic dX2_addStatement_94 zi_1 ?_
  refine y_isub dX2_addStatement_95 ?_
  exact y_ri Wκ11 dX2_addStatement_96 rfl in_nar F

def w_Co_addStatement_0 (C : zC) (n0 : Nat) (Q : Int32 → zS → Prop)  (a0 : Nat) (κ : zS) : Prop :=
  ∀ v1_1 : Int32, v1_1 = ((zI κ coStatements a0) * (11 : Int32)) →
  ((v1_1 + (11 : Int32)) ≤ (Int32.ofNat (zN κ (zR κ coRows a0))) →
    w_Co_addStatement_37 C n0 Q  a0 v1_1 κ) ∧
  (¬ (v1_1 + (11 : Int32)) ≤ (Int32.ofNat (zN κ (zR κ coRows a0))) →
    ∀ _ : zT κ (zR κ coRows a0) = 20,
    zRun C 1 mAr_copyOf [.ref (zR κ coRows a0), .int ((v1_1 + (11 : Int32)) * (2 : Int32))] κ (oR 20 (fun r3 κ2 =>
      ∀ _ : zW C n0 κ2,
      ∀ _ : zM (zn κ) κ κ2,
      ∀ _ : zT κ2 r3 = 20,
      zO κ2 r3 = (0, 0) ∧
      ∀ κ5, κ5 = uo κ2 coRows a0 r3 →
      ∀ _ : zW C n0 κ5,
      w_Co_addStatement_37 C n0 Q  a0 v1_1 κ5) noX))
theorem t_Co_addStatement_0 {C : zC} {n0 : Nat} {Q : Int32 → zS → Prop}   {a0 : Nat} {κ : zS} (W : zW C n0 κ) (Ta0 : zT κ a0 = 5) (F : w_Co_addStatement_0 C n0 Q  a0 κ) : zG C n0 2 mCo_addStatement 0 [some (.ref a0), none] [] κ (oI Q noX) := by
  unfold w_Co_addStatement_0 at F
  refine y_aln dX2_addStatement_0 rfl ?_
  refine gf_X2_52 dX2_addStatement_1 rfl (Or.inl Ta0) ?_
  refine y_bi1 dX2_addStatement_4 zb_11 ?_
  refine y_imul dX2_addStatement_6 ?_
  refine y_isnb dX2_addStatement_7 (Nat.le_of_ble_eq_true rfl) (fun v1_1 ev1_1 => ?_)
  replace F := F v1_1 ev1_1
  show zG _ _ _ _ _ [some (.ref a0), some (.int v1_1)] _ _ _
  refine y_iln dX2_addStatement_8 rfl ?_
  refine y_bi1 dX2_addStatement_9 zb_11 ?_
  refine y_iadd dX2_addStatement_11 ?_
  refine y_aln dX2_addStatement_12 rfl ?_
  refine gf_X2_30 W dX2_addStatement_13 rfl Ta0 ?_
  refine y_alen (t := 0) dX2_addStatement_16 (ty_coRows W Ta0) (by decide) ?_
  refine y_ii ((v1_1 + (11 : Int32)) ≤ (Int32.ofNat (zN κ (zR κ coRows a0)))) dX2_addStatement_17 (t := 37) rfl rfl (fun c9 => ?_) (fun c9 => ?_)
  · replace F := F.1 c9
    exact y_k (t_Co_addStatement_37  W Ta0 F) ⟨rfl, rfl, trivial⟩
  · replace F := F.2 c9
    refine y_aln dX2_addStatement_20 rfl ?_
    refine y_aln dX2_addStatement_21 rfl ?_
    refine gf_X2_30 W dX2_addStatement_22 rfl Ta0 ?_
    refine y_iln dX2_addStatement_25 rfl ?_
    refine y_bi1 dX2_addStatement_26 zb_11 ?_
    refine y_iadd dX2_addStatement_28 ?_
    refine y_ic dX2_addStatement_29 zi_2 ?_
    refine y_imul dX2_addStatement_30 ?_
    replace F := F (ty_coRows W Ta0)
    refine k_X2_67 W dX2_addStatement_31 rfl (Nat.le_of_ble_eq_true rfl) (Nat.le_of_ble_eq_true rfl)  F (fun r3 κ2 Wκ2 Mκ2 g4 F => ?_) (fun _ _ h9 => False.elim h9)
    replace F := F Wκ2 Mκ2 g4
    have b6 := F.1
    replace F := F.2
    have h7 := (ztm W Mκ2 Ta0)
    refine pf_X2_30 Wκ2 dX2_addStatement_34 rfl (Or.inl h7) g4 (fun κ5 eκ5 => ?_)
    replace F := F κ5 eκ5
    have Wκ5 : zW C n0 κ5 := zW_uo Wκ2 eκ5 (fun t ht => by cases ht; exact g4) b6
    have Mκ5 : zM (zn κ2) κ2 κ5 := by rw [eκ5]; exact zM.of rfl rfl rfl
    replace F := F Wκ5
    have h8 := (ztm Wκ2 Mκ5 h7)
    exact y_k (t_Co_addStatement_37  Wκ5 h8 F) ⟨rfl, rfl, trivial⟩

theorem Co_addStatement_run {C : zC} {n0 : Nat} {Q : Int32 → zS → Prop} {a0 : Nat} {κ : zS} (W : zW C n0 κ) (Ta0 : zT κ a0 = 5) (F : w_Co_addStatement_0 C (zn κ) Q a0 κ) : zRun C 2 mCo_addStatement [.ref a0] κ (oI Q noX) := z_run (m_ent _ 1) (t_Co_addStatement_0 (W.lo (Nat.le_trans W.1.2.1 W.1.2.2) (Nat.le_refl _)) Ta0 F)

theorem dX2_setColumn_0 : decode cX2_setColumn 0 = .ok (.iload_n 1, 1) := by decide +kernel
theorem dX2_setColumn_1 : decode cX2_setColumn 1 = .ok (.ifCond .lt 23, 3) := by decide +kernel
theorem dX2_setColumn_4 : decode cX2_setColumn 4 = .ok (.iload_n 1, 1) := by decide +kernel
theorem dX2_setColumn_5 : decode cX2_setColumn 5 = .ok (.aload_n 0, 1) := by decide +kernel
theorem dX2_setColumn_6 : decode cX2_setColumn 6 = .ok (.getfield 52, 3) := by decide +kernel
theorem dX2_setColumn_9 : decode cX2_setColumn 9 = .ok (.if_icmp .ge 15, 3) := by decide +kernel
theorem dX2_setColumn_12 : decode cX2_setColumn 12 = .ok (.aload_n 0, 1) := by decide +kernel
theorem dX2_setColumn_13 : decode cX2_setColumn 13 = .ok (.getfield 30, 3) := by decide +kernel
theorem dX2_setColumn_16 : decode cX2_setColumn 16 = .ok (.iload_n 1, 1) := by decide +kernel
theorem dX2_setColumn_17 : decode cX2_setColumn 17 = .ok (.bipush 11, 2) := by decide +kernel
theorem dX2_setColumn_19 : decode cX2_setColumn 19 = .ok (.imul, 1) := by decide +kernel
theorem dX2_setColumn_20 : decode cX2_setColumn 20 = .ok (.iload_n 2, 1) := by decide +kernel
theorem dX2_setColumn_21 : decode cX2_setColumn 21 = .ok (.iadd, 1) := by decide +kernel
theorem dX2_setColumn_22 : decode cX2_setColumn 22 = .ok (.iload_n 3, 1) := by decide +kernel
theorem dX2_setColumn_23 : decode cX2_setColumn 23 = .ok (.iastore, 1) := by decide +kernel
theorem dX2_setColumn_24 : decode cX2_setColumn 24 = .ok (.return_, 1) := by decide +kernel
def w_Co_setColumn_0 (C : zC) (n0 : Nat) (Q : zS → Prop)  (a0 : Nat) (a1 : Int32) (a2 : Int32) (a3 : Int32) (κ : zS) : Prop :=
  (a1 < (0 : Int32) →
    Q κ) ∧
  (¬ a1 < (0 : Int32) →
    ((zI κ coStatements a0) ≤ a1 →
      Q κ) ∧
    (¬ (zI κ coStatements a0) ≤ a1 →
      inb ((a1 * (11 : Int32)) + a2) (zN κ (zR κ coRows a0)) ∧
      ∀ κ1, κ1 = ua κ (zR κ coRows a0) (((a1 * (11 : Int32)) + a2)).toNatClampNeg a3 →
      ∀ _ : zW C n0 κ1,
      Q κ1))
theorem t_Co_setColumn_0 {C : zC} {n0 : Nat} {Q : zS → Prop}   {a0 : Nat} {a1 : Int32} {a2 : Int32} {a3 : Int32} {κ : zS} (W : zW C n0 κ) (Ta0 : zT κ a0 = 5) (F : w_Co_setColumn_0 C n0 Q  a0 a1 a2 a3 κ) : zG C n0 0 mCo_setColumn 0 [some (.ref a0), some (.int a1), some (.int a2), some (.int a3)] [] κ (oV Q noX) := by
  unfold w_Co_setColumn_0 at F
  refine y_iln dX2_setColumn_0 rfl ?_
  refine y_i (a1 < (0 : Int32)) dX2_setColumn_1 (t := 24) rfl rfl (fun c9 => ?_) (fun c9 => ?_)
  · replace F := F.1 c9
    exact y_rv W dX2_setColumn_24 rfl F
  · replace F := F.2 c9
    refine y_iln dX2_setColumn_4 rfl ?_
    refine y_aln dX2_setColumn_5 rfl ?_
    refine gf_X2_52 dX2_setColumn_6 rfl (Or.inl Ta0) ?_
    refine y_ii ((zI κ coStatements a0) ≤ a1) dX2_setColumn_9 (t := 24) rfl rfl (fun c9 => ?_) (fun c9 => ?_)
    · replace F := F.1 c9
      exact y_rv W dX2_setColumn_24 rfl F
    · replace F := F.2 c9
      refine y_aln dX2_setColumn_12 rfl ?_
      refine gf_X2_30 W dX2_setColumn_13 rfl Ta0 ?_
      refine y_iln dX2_setColumn_16 rfl ?_
      refine y_bi1 dX2_setColumn_17 zb_11 ?_
      refine y_imul dX2_setColumn_19 ?_
      refine y_iln dX2_setColumn_20 rfl ?_
      refine y_iadd dX2_setColumn_21 ?_
      refine y_iln dX2_setColumn_22 rfl ?_
      refine y_ast W dX2_setColumn_23 (ty_coRows W Ta0) F.1 (fun κ1 eκ1 => ?_)
      replace F := F.2 κ1 eκ1
      have Wκ1 : zW C n0 κ1 := zW_ua W eκ1 (fun h => absurd (h.symm.trans (ty_coRows W Ta0)) (by decide)) (fun h => absurd (h.symm.trans (ty_coRows W Ta0)) (by decide))
      have Mκ1 : zM (zn κ) κ κ1 := by rw [eκ1]; exact zM.of rfl rfl rfl
      replace F := F Wκ1
      exact y_rv Wκ1 dX2_setColumn_24 rfl F

theorem Co_setColumn_run {C : zC} {n0 : Nat} {Q : zS → Prop} {a0 : Nat} {a1 : Int32} {a2 : Int32} {a3 : Int32} {κ : zS} (W : zW C n0 κ) (Ta0 : zT κ a0 = 5) (F : w_Co_setColumn_0 C (zn κ) Q a0 a1 a2 a3 κ) : zRun C 0 mCo_setColumn [.ref a0, .int a1, .int a2, .int a3] κ (oV Q noX) := z_run (m_ent _ 0) (t_Co_setColumn_0 (W.lo (Nat.le_trans W.1.2.1 W.1.2.2) (Nat.le_refl _)) Ta0 F)

theorem dX2_emit_0 : decode cX2_emit 0 = .ok (.aload_n 0, 1) := by decide +kernel
theorem dX2_emit_1 : decode cX2_emit 1 = .ok (.getfield 58, 3) := by decide +kernel
theorem dX2_emit_4 : decode cX2_emit 4 = .ok (.aload_n 0, 1) := by decide +kernel
theorem dX2_emit_5 : decode cX2_emit 5 = .ok (.getfield 33, 3) := by decide +kernel
theorem dX2_emit_8 : decode cX2_emit 8 = .ok (.arraylength, 1) := by decide +kernel
theorem dX2_emit_9 : decode cX2_emit 9 = .ok (.if_icmp .lt 37, 3) := by decide +kernel
theorem dX2_emit_12 : decode cX2_emit 12 = .ok (.aload_n 0, 1) := by decide +kernel
theorem dX2_emit_13 : decode cX2_emit 13 = .ok (.aload_n 0, 1) := by decide +kernel
theorem dX2_emit_14 : decode cX2_emit 14 = .ok (.getfield 33, 3) := by decide +kernel
theorem dX2_emit_17 : decode cX2_emit 17 = .ok (.aload_n 0, 1) := by decide +kernel
theorem dX2_emit_18 : decode cX2_emit 18 = .ok (.getfield 58, 3) := by decide +kernel
theorem dX2_emit_21 : decode cX2_emit 21 = .ok (.iconst 2, 1) := by decide +kernel
theorem dX2_emit_22 : decode cX2_emit 22 = .ok (.imul, 1) := by decide +kernel
theorem dX2_emit_23 : decode cX2_emit 23 = .ok (.invokestatic 67, 3) := by decide +kernel
theorem dX2_emit_26 : decode cX2_emit 26 = .ok (.putfield 33, 3) := by decide +kernel
theorem dX2_emit_29 : decode cX2_emit 29 = .ok (.aload_n 0, 1) := by decide +kernel
theorem dX2_emit_30 : decode cX2_emit 30 = .ok (.aload_n 0, 1) := by decide +kernel
theorem dX2_emit_31 : decode cX2_emit 31 = .ok (.getfield 36, 3) := by decide +kernel
theorem dX2_emit_34 : decode cX2_emit 34 = .ok (.aload_n 0, 1) := by decide +kernel
theorem dX2_emit_35 : decode cX2_emit 35 = .ok (.getfield 58, 3) := by decide +kernel
theorem dX2_emit_38 : decode cX2_emit 38 = .ok (.iconst 2, 1) := by decide +kernel
theorem dX2_emit_39 : decode cX2_emit 39 = .ok (.imul, 1) := by decide +kernel
theorem dX2_emit_40 : decode cX2_emit 40 = .ok (.invokestatic 67, 3) := by decide +kernel
theorem dX2_emit_43 : decode cX2_emit 43 = .ok (.putfield 36, 3) := by decide +kernel
theorem dX2_emit_46 : decode cX2_emit 46 = .ok (.aload_n 0, 1) := by decide +kernel
theorem dX2_emit_47 : decode cX2_emit 47 = .ok (.getfield 33, 3) := by decide +kernel
theorem dX2_emit_50 : decode cX2_emit 50 = .ok (.aload_n 0, 1) := by decide +kernel
theorem dX2_emit_51 : decode cX2_emit 51 = .ok (.getfield 58, 3) := by decide +kernel
theorem dX2_emit_54 : decode cX2_emit 54 = .ok (.iload_n 1, 1) := by decide +kernel
theorem dX2_emit_55 : decode cX2_emit 55 = .ok (.iastore, 1) := by decide +kernel
theorem dX2_emit_56 : decode cX2_emit 56 = .ok (.aload_n 0, 1) := by decide +kernel
theorem dX2_emit_57 : decode cX2_emit 57 = .ok (.getfield 36, 3) := by decide +kernel
theorem dX2_emit_60 : decode cX2_emit 60 = .ok (.aload_n 0, 1) := by decide +kernel
theorem dX2_emit_61 : decode cX2_emit 61 = .ok (.getfield 58, 3) := by decide +kernel
theorem dX2_emit_64 : decode cX2_emit 64 = .ok (.iload_n 2, 1) := by decide +kernel
theorem dX2_emit_65 : decode cX2_emit 65 = .ok (.iastore, 1) := by decide +kernel
theorem dX2_emit_66 : decode cX2_emit 66 = .ok (.aload_n 0, 1) := by decide +kernel
theorem dX2_emit_67 : decode cX2_emit 67 = .ok (.dup, 1) := by decide +kernel
theorem dX2_emit_68 : decode cX2_emit 68 = .ok (.getfield 58, 3) := by decide +kernel
theorem dX2_emit_71 : decode cX2_emit 71 = .ok (.iconst 1, 1) := by decide +kernel
theorem dX2_emit_72 : decode cX2_emit 72 = .ok (.iadd, 1) := by decide +kernel
theorem dX2_emit_73 : decode cX2_emit 73 = .ok (.putfield 58, 3) := by decide +kernel
theorem dX2_emit_76 : decode cX2_emit 76 = .ok (.return_, 1) := by decide +kernel
def w_Co_emit_46 (C : zC) (n0 : Nat) (Q : zS → Prop)  (a0 : Nat) (a1 : Int32) (a2 : Int32) (κ : zS) : Prop :=
  inb (zI κ coLength a0) (zN κ (zR κ coOps a0)) ∧
  ∀ κ1, κ1 = ua κ (zR κ coOps a0) ((zI κ coLength a0)).toNatClampNeg a1 →
  ∀ _ : zW C n0 κ1,
  inb (zI κ1 coLength a0) (zN κ1 (zR κ1 coArgs a0)) ∧
  ∀ κ3, κ3 = ua κ1 (zR κ1 coArgs a0) ((zI κ1 coLength a0)).toNatClampNeg a2 →
  ∀ _ : zW C n0 κ3,
  ∀ κ5, κ5 = ui κ3 coLength a0 ((zI κ3 coLength a0) + (1 : Int32)) →
  ∀ _ : zW C n0 κ5,
  Q κ5
theorem t_Co_emit_46 {C : zC} {n0 : Nat} {Q : zS → Prop}   {a0 : Nat} {a1 : Int32} {a2 : Int32} {κ : zS} (W : zW C n0 κ) (Ta0 : zT κ a0 = 5) (F : w_Co_emit_46 C n0 Q  a0 a1 a2 κ) : zG C n0 2 mCo_emit 46 [some (.ref a0), some (.int a1), some (.int a2)] [] κ (oV Q noX) := by
  unfold w_Co_emit_46 at F
  refine y_aln dX2_emit_46 rfl ?_
  refine gf_X2_33 W dX2_emit_47 rfl Ta0 ?_
  refine y_aln dX2_emit_50 rfl ?_
  refine gf_X2_58 dX2_emit_51 rfl (Or.inl Ta0) ?_
  refine y_iln dX2_emit_54 rfl ?_
  refine y_ast W dX2_emit_55 (ty_coOps W Ta0) F.1 (fun κ1 eκ1 => ?_)
  replace F := F.2 κ1 eκ1
  have Wκ1 : zW C n0 κ1 := zW_ua W eκ1 (fun h => absurd (h.symm.trans (ty_coOps W Ta0)) (by decide)) (fun h => absurd (h.symm.trans (ty_coOps W Ta0)) (by decide))
  have Mκ1 : zM (zn κ) κ κ1 := by rw [eκ1]; exact zM.of rfl rfl rfl
  replace F := F Wκ1
  refine y_aln dX2_emit_56 rfl ?_
  have h2 := (ztm W Mκ1 Ta0)
  refine gf_X2_36 Wκ1 dX2_emit_57 rfl h2 ?_
  refine y_aln dX2_emit_60 rfl ?_
  refine gf_X2_58 dX2_emit_61 rfl (Or.inl h2) ?_
  refine y_iln dX2_emit_64 rfl ?_
  refine y_ast Wκ1 dX2_emit_65 (ty_coArgs Wκ1 h2) F.1 (fun κ3 eκ3 => ?_)
  replace F := F.2 κ3 eκ3
  have Wκ3 : zW C n0 κ3 := zW_ua Wκ1 eκ3 (fun h => absurd (h.symm.trans (ty_coArgs Wκ1 h2)) (by decide)) (fun h => absurd (h.symm.trans (ty_coArgs Wκ1 h2)) (by decide))
  have Mκ3 : zM (zn κ1) κ1 κ3 := by rw [eκ3]; exact zM.of rfl rfl rfl
  replace F := F Wκ3
  refine y_aln dX2_emit_66 rfl ?_
  refine y_dup dX2_emit_67 rfl ?_
  have h4 := (ztm Wκ1 Mκ3 h2)
  refine gf_X2_58 dX2_emit_68 rfl (Or.inl h4) ?_
  refine y_ic dX2_emit_71 zi_1 ?_
  refine y_iadd dX2_emit_72 ?_
  refine pf_X2_58 Wκ3 dX2_emit_73 rfl (Or.inl h4) (fun κ5 eκ5 => ?_)
  replace F := F κ5 eκ5
  have Wκ5 : zW C n0 κ5 := zW_ui Wκ3 eκ5 (fun h => absurd h (by decide))
  have Mκ5 : zM (zn κ3) κ3 κ5 := by rw [eκ5]; exact zM.of rfl rfl rfl
  replace F := F Wκ5
  exact y_rv Wκ5 dX2_emit_76 rfl F

def w_Co_emit_0 (C : zC) (n0 : Nat) (Q : zS → Prop)  (a0 : Nat) (a1 : Int32) (a2 : Int32) (κ : zS) : Prop :=
  ((zI κ coLength a0) < (Int32.ofNat (zN κ (zR κ coOps a0))) →
    w_Co_emit_46 C n0 Q  a0 a1 a2 κ) ∧
  (¬ (zI κ coLength a0) < (Int32.ofNat (zN κ (zR κ coOps a0))) →
    ∀ _ : zT κ (zR κ coOps a0) = 20,
    zRun C 1 mAr_copyOf [.ref (zR κ coOps a0), .int ((zI κ coLength a0) * (2 : Int32))] κ (oR 20 (fun r2 κ1 =>
      ∀ _ : zW C n0 κ1,
      ∀ _ : zM (zn κ) κ κ1,
      ∀ _ : zT κ1 r2 = 20,
      zO κ1 r2 = (0, 0) ∧
      ∀ κ4, κ4 = uo κ1 coOps a0 r2 →
      ∀ _ : zW C n0 κ4,
      ∀ _ : zT κ4 (zR κ4 coArgs a0) = 20,
      zRun C 1 mAr_copyOf [.ref (zR κ4 coArgs a0), .int ((zI κ4 coLength a0) * (2 : Int32))] κ4 (oR 20 (fun r9 κ8 =>
        ∀ _ : zW C n0 κ8,
        ∀ _ : zM (zn κ4) κ4 κ8,
        ∀ _ : zT κ8 r9 = 20,
        zO κ8 r9 = (0, 0) ∧
        ∀ κ11, κ11 = uo κ8 coArgs a0 r9 →
        ∀ _ : zW C n0 κ11,
        w_Co_emit_46 C n0 Q  a0 a1 a2 κ11) noX)) noX))
theorem t_Co_emit_0 {C : zC} {n0 : Nat} {Q : zS → Prop}   {a0 : Nat} {a1 : Int32} {a2 : Int32} {κ : zS} (W : zW C n0 κ) (Ta0 : zT κ a0 = 5) (F : w_Co_emit_0 C n0 Q  a0 a1 a2 κ) : zG C n0 2 mCo_emit 0 [some (.ref a0), some (.int a1), some (.int a2)] [] κ (oV Q noX) := by
  unfold w_Co_emit_0 at F
  refine y_aln dX2_emit_0 rfl ?_
  refine gf_X2_58 dX2_emit_1 rfl (Or.inl Ta0) ?_
  refine y_aln dX2_emit_4 rfl ?_
  refine gf_X2_33 W dX2_emit_5 rfl Ta0 ?_
  refine y_alen (t := 0) dX2_emit_8 (ty_coOps W Ta0) (by decide) ?_
  refine y_ii ((zI κ coLength a0) < (Int32.ofNat (zN κ (zR κ coOps a0)))) dX2_emit_9 (t := 46) rfl rfl (fun c9 => ?_) (fun c9 => ?_)
  · replace F := F.1 c9
    exact y_k (t_Co_emit_46  W Ta0 F) ⟨rfl, rfl, rfl, trivial⟩
  · replace F := F.2 c9
    refine y_aln dX2_emit_12 rfl ?_
    refine y_aln dX2_emit_13 rfl ?_
    refine gf_X2_33 W dX2_emit_14 rfl Ta0 ?_
    refine y_aln dX2_emit_17 rfl ?_
    refine gf_X2_58 dX2_emit_18 rfl (Or.inl Ta0) ?_
    refine y_ic dX2_emit_21 zi_2 ?_
    refine y_imul dX2_emit_22 ?_
    replace F := F (ty_coOps W Ta0)
    refine k_X2_67 W dX2_emit_23 rfl (Nat.le_of_ble_eq_true rfl) (Nat.le_of_ble_eq_true rfl)  F (fun r2 κ1 Wκ1 Mκ1 g3 F => ?_) (fun _ _ h9 => False.elim h9)
    replace F := F Wκ1 Mκ1 g3
    have b5 := F.1
    replace F := F.2
    have h6 := (ztm W Mκ1 Ta0)
    refine pf_X2_33 Wκ1 dX2_emit_26 rfl (Or.inl h6) g3 (fun κ4 eκ4 => ?_)
    replace F := F κ4 eκ4
    have Wκ4 : zW C n0 κ4 := zW_uo Wκ1 eκ4 (fun t ht => by cases ht; exact g3) b5
    have Mκ4 : zM (zn κ1) κ1 κ4 := by rw [eκ4]; exact zM.of rfl rfl rfl
    replace F := F Wκ4
    refine y_aln dX2_emit_29 rfl ?_
    refine y_aln dX2_emit_30 rfl ?_
    have h7 := (ztm Wκ1 Mκ4 h6)
    refine gf_X2_36 Wκ4 dX2_emit_31 rfl h7 ?_
    refine y_aln dX2_emit_34 rfl ?_
    refine gf_X2_58 dX2_emit_35 rfl (Or.inl h7) ?_
    refine y_ic dX2_emit_38 zi_2 ?_
    refine y_imul dX2_emit_39 ?_
    replace F := F (ty_coArgs Wκ4 h7)
    refine k_X2_67 Wκ4 dX2_emit_40 rfl (Nat.le_of_ble_eq_true rfl) (Nat.le_of_ble_eq_true rfl)  F (fun r9 κ8 Wκ8 Mκ8 g10 F => ?_) (fun _ _ h9 => False.elim h9)
    replace F := F Wκ8 Mκ8 g10
    have b12 := F.1
    replace F := F.2
    have h13 := (ztm Wκ4 Mκ8 h7)
    refine pf_X2_36 Wκ8 dX2_emit_43 rfl (Or.inl h13) g10 (fun κ11 eκ11 => ?_)
    replace F := F κ11 eκ11
    have Wκ11 : zW C n0 κ11 := zW_uo Wκ8 eκ11 (fun t ht => by cases ht; exact g10) b12
    have Mκ11 : zM (zn κ8) κ8 κ11 := by rw [eκ11]; exact zM.of rfl rfl rfl
    replace F := F Wκ11
    have h14 := (ztm Wκ8 Mκ11 h13)
    exact y_k (t_Co_emit_46  Wκ11 h14 F) ⟨rfl, rfl, rfl, trivial⟩

theorem Co_emit_run {C : zC} {n0 : Nat} {Q : zS → Prop} {a0 : Nat} {a1 : Int32} {a2 : Int32} {κ : zS} (W : zW C n0 κ) (Ta0 : zT κ a0 = 5) (F : w_Co_emit_0 C (zn κ) Q a0 a1 a2 κ) : zRun C 2 mCo_emit [.ref a0, .int a1, .int a2] κ (oV Q noX) := z_run (m_ent _ 0) (t_Co_emit_0 (W.lo (Nat.le_trans W.1.2.1 W.1.2.2) (Nat.le_refl _)) Ta0 F)

theorem dX2_linkFollows_0 : decode cX2_linkFollows 0 = .ok (.iconst 0, 1) := by decide +kernel
theorem dX2_linkFollows_1 : decode cX2_linkFollows 1 = .ok (.istore_n 1, 1) := by decide +kernel
theorem dX2_linkFollows_2 : decode cX2_linkFollows 2 = .ok (.iload_n 1, 1) := by decide +kernel
theorem dX2_linkFollows_3 : decode cX2_linkFollows 3 = .ok (.aload_n 0, 1) := by decide +kernel
theorem dX2_linkFollows_4 : decode cX2_linkFollows 4 = .ok (.getfield 52, 3) := by decide +kernel
theorem dX2_linkFollows_7 : decode cX2_linkFollows 7 = .ok (.if_icmp .ge 62, 3) := by decide +kernel
theorem dX2_linkFollows_10 : decode cX2_linkFollows 10 = .ok (.aload_n 0, 1) := by decide +kernel
theorem dX2_linkFollows_11 : decode cX2_linkFollows 11 = .ok (.iload_n 1, 1) := by decide +kernel
theorem dX2_linkFollows_12 : decode cX2_linkFollows 12 = .ok (.bipush 9, 2) := by decide +kernel
theorem dX2_linkFollows_14 : decode cX2_linkFollows 14 = .ok (.invokevirtual 74, 3) := by decide +kernel
theorem dX2_linkFollows_17 : decode cX2_linkFollows 17 = .ok (.istore_n 2, 1) := by decide +kernel
theorem dX2_linkFollows_18 : decode cX2_linkFollows 18 = .ok (.aload_n 0, 1) := by decide +kernel
theorem dX2_linkFollows_19 : decode cX2_linkFollows 19 = .ok (.iload_n 1, 1) := by decide +kernel
theorem dX2_linkFollows_20 : decode cX2_linkFollows 20 = .ok (.bipush 8, 2) := by decide +kernel
theorem dX2_linkFollows_22 : decode cX2_linkFollows 22 = .ok (.invokevirtual 74, 3) := by decide +kernel
theorem dX2_linkFollows_25 : decode cX2_linkFollows 25 = .ok (.iconst (-1), 1) := by decide +kernel
theorem dX2_linkFollows_26 : decode cX2_linkFollows 26 = .ok (.if_icmp .ne 37, 3) := by decide +kernel
theorem dX2_linkFollows_29 : decode cX2_linkFollows 29 = .ok (.iload_n 2, 1) := by decide +kernel
theorem dX2_linkFollows_30 : decode cX2_linkFollows 30 = .ok (.iconst (-1), 1) := by decide +kernel
theorem dX2_linkFollows_31 : decode cX2_linkFollows 31 = .ok (.if_icmp .eq 32, 3) := by decide +kernel
theorem dX2_linkFollows_34 : decode cX2_linkFollows 34 = .ok (.aload_n 0, 1) := by decide +kernel
theorem dX2_linkFollows_35 : decode cX2_linkFollows 35 = .ok (.iload_n 1, 1) := by decide +kernel
theorem dX2_linkFollows_36 : decode cX2_linkFollows 36 = .ok (.bipush 8, 2) := by decide +kernel
theorem dX2_linkFollows_38 : decode cX2_linkFollows 38 = .ok (.aload_n 0, 1) := by decide +kernel
theorem dX2_linkFollows_39 : decode cX2_linkFollows 39 = .ok (.iload_n 2, 1) := by decide +kernel
theorem dX2_linkFollows_40 : decode cX2_linkFollows 40 = .ok (.iconst 0, 1) := by decide +kernel
theorem dX2_linkFollows_41 : decode cX2_linkFollows 41 = .ok (.invokevirtual 74, 3) := by decide +kernel
theorem dX2_linkFollows_44 : decode cX2_linkFollows 44 = .ok (.bipush 7, 2) := by decide +kernel
theorem dX2_linkFollows_46 : decode cX2_linkFollows 46 = .ok (.if_icmp .ne 7, 3) := by decide +kernel
theorem dX2_linkFollows_49 : decode cX2_linkFollows 49 = .ok (.iload_n 2, 1) := by decide +kernel
theorem dX2_linkFollows_50 : decode cX2_linkFollows 50 = .ok (.goto 10, 3) := by decide +kernel
theorem dX2_linkFollows_53 : decode cX2_linkFollows 53 = .ok (.aload_n 0, 1) := by decide +kernel
theorem dX2_linkFollows_54 : decode cX2_linkFollows 54 = .ok (.iload_n 2, 1) := by decide +kernel
theorem dX2_linkFollows_55 : decode cX2_linkFollows 55 = .ok (.bipush 8, 2) := by decide +kernel
theorem dX2_linkFollows_57 : decode cX2_linkFollows 57 = .ok (.invokevirtual 74, 3) := by decide +kernel
theorem dX2_linkFollows_60 : decode cX2_linkFollows 60 = .ok (.invokevirtual 78, 3) := by decide +kernel
theorem dX2_linkFollows_63 : decode cX2_linkFollows 63 = .ok (.iinc 1 1, 3) := by decide +kernel
theorem dX2_linkFollows_66 : decode cX2_linkFollows 66 = .ok (.goto (-64), 3) := by decide +kernel
theorem dX2_linkFollows_69 : decode cX2_linkFollows 69 = .ok (.return_, 1) := by decide +kernel
def w_Co_linkFollows_2 (C : zC) (n0 : Nat) (Q : zS → Prop)  (a0 : Nat) (a1 : Int32) (κ : zS) : Prop :=
  ∃ I : Nat → Nat → Int32 → zS → Prop, (∃ n, I n a0 a1 κ) ∧ ∀ n a0 a1 κ, zW C n0 κ → zT κ a0 = 5 → I n a0 a1 κ →
    ((zI κ coStatements a0) ≤ a1 →
      Q κ) ∧
    (¬ (zI κ coStatements a0) ≤ a1 →
      ∀ _ : zT κ a0 = 5,
      zRun C 0 mCo_column [.ref a0, .int a1, .int (9 : Int32)] κ (oI (fun r2 κ1 =>
        ∀ _ : zW C n0 κ1,
        ∀ _ : zM (zn κ) κ κ1,
        ∀ _ : zT κ1 a0 = 5,
        zRun C 0 mCo_column [.ref a0, .int a1, .int (8 : Int32)] κ1 (oI (fun r5 κ4 =>
          ∀ _ : zW C n0 κ4,
          ∀ _ : zM (zn κ1) κ1 κ4,
          (¬ r5 = (-1 : Int32) →
            ∀ v1_8 : Int32, v1_8 = a1 + (1 : Int32) →
            ∃ k < n, I k a0 v1_8 κ4) ∧
          (r5 = (-1 : Int32) →
            (r2 = (-1 : Int32) →
              ∀ v1_10 : Int32, v1_10 = a1 + (1 : Int32) →
              ∃ k < n, I k a0 v1_10 κ4) ∧
            (¬ r2 = (-1 : Int32) →
              ∀ _ : zT κ4 a0 = 5,
              zRun C 0 mCo_column [.ref a0, .int r2, .int (0 : Int32)] κ4 (oI (fun r13 κ12 =>
                ∀ _ : zW C n0 κ12,
                ∀ _ : zM (zn κ4) κ4 κ12,
                (¬ r13 = (7 : Int32) →
                  ∀ _ : zT κ12 a0 = 5,
                  zRun C 0 mCo_column [.ref a0, .int r2, .int (8 : Int32)] κ12 (oI (fun r17 κ16 =>
                    ∀ _ : zW C n0 κ16,
                    ∀ _ : zM (zn κ12) κ12 κ16,
                    ∀ _ : zT κ16 a0 = 5,
                    zRun C 0 mCo_setColumn [.ref a0, .int a1, .int (8 : Int32), .int r17] κ16 (oV (fun κ20 =>
                      ∀ _ : zW C n0 κ20,
                      ∀ _ : zM (zn κ16) κ16 κ20,
                      ∀ v1_24 : Int32, v1_24 = a1 + (1 : Int32) →
                      ∃ k < n, I k a0 v1_24 κ20) noX)) noX)) ∧
                (r13 = (7 : Int32) →
                  ∀ _ : zT κ12 a0 = 5,
                  zRun C 0 mCo_setColumn [.ref a0, .int a1, .int (8 : Int32), .int r2] κ12 (oV (fun κ26 =>
                    ∀ _ : zW C n0 κ26,
                    ∀ _ : zM (zn κ12) κ12 κ26,
                    ∀ v1_30 : Int32, v1_30 = a1 + (1 : Int32) →
                    ∃ k < n, I k a0 v1_30 κ26) noX))) noX)))) noX)) noX))
theorem t_Co_linkFollows_2 {C : zC} {n0 : Nat} {Q : zS → Prop}   {a0 : Nat} {a1 : Int32} {κ : zS} (W : zW C n0 κ) (Ta0 : zT κ a0 = 5) (F : w_Co_linkFollows_2 C n0 Q  a0 a1 κ) : zG C n0 1 mCo_linkFollows 2 [some (.ref a0), some (.int a1), none] [] κ (oV Q noX) := by
  obtain ⟨I, ⟨m0, hI0⟩, F0⟩ := F
  have key : ∀ n a0 a1 κ, zW C n0 κ → zT κ a0 = 5 → I n a0 a1 κ → zG C n0 1 mCo_linkFollows 2 [some (.ref a0), some (.int a1), none] [] κ (oV Q noX) := by
    intro n
    induction n using Nat.strongRecOn with
    | _ n ih =>
      intro a0 a1 κ W Ta0 hI
      have F := F0 n a0 a1 κ W Ta0 hI
      clear hI hI0
      refine y_iln dX2_linkFollows_2 rfl ?_
      refine y_aln dX2_linkFollows_3 rfl ?_
      refine gf_X2_52 dX2_linkFollows_4 rfl (Or.inl Ta0) ?_
      refine y_ii ((zI κ coStatements a0) ≤ a1) dX2_linkFollows_7 (t := 69) rfl rfl (fun c9 => ?_) (fun c9 => ?_)
      · replace F := F.1 c9
        exact y_rv W dX2_linkFollows_69 rfl F
      · replace F := F.2 c9
        refine y_aln dX2_linkFollows_10 rfl ?_
        refine y_iln dX2_linkFollows_11 rfl ?_
        refine y_bi1 dX2_linkFollows_12 zb_9 ?_
        replace F := F Ta0
        refine k_X2_74 W dX2_linkFollows_14 rfl (Nat.le_of_ble_eq_true rfl) (Nat.le_of_ble_eq_true rfl) (Or.inl Ta0) F (fun r2 κ1 Wκ1 Mκ1 F => ?_) (fun _ _ h9 => False.elim h9)
        replace F := F Wκ1 Mκ1
        refine y_isn dX2_linkFollows_17 (Nat.le_of_ble_eq_true rfl) rfl ?_
        show zG _ _ _ _ _ [some (.ref a0), some (.int a1), some (.int r2)] _ _ _
        refine y_aln dX2_linkFollows_18 rfl ?_
        refine y_iln dX2_linkFollows_19 rfl ?_
        refine y_bi1 dX2_linkFollows_20 zb_8 ?_
        have h6 := (ztm W Mκ1 Ta0)
        replace F := F h6
        refine k_X2_74 Wκ1 dX2_linkFollows_22 rfl (Nat.le_of_ble_eq_true rfl) (Nat.le_of_ble_eq_true rfl) (Or.inl h6) F (fun r5 κ4 Wκ4 Mκ4 F => ?_) (fun _ _ h9 => False.elim h9)
        replace F := F Wκ4 Mκ4
        refine y_ic dX2_linkFollows_25 zi_m1 ?_
        refine y_iin (r5 = (-1 : Int32)) dX2_linkFollows_26 (t := 63) rfl rfl (fun c9 => ?_) (fun c9 => ?_)
        · replace F := F.1 c9
          refine y_incb dX2_linkFollows_63 zi_1 rfl (Nat.le_of_ble_eq_true rfl) (fun v1_8 ev1_8 => ?_)
          replace F := F v1_8 ev1_8
          show zG _ _ _ _ _ [some (.ref a0), some (.int v1_8), some (.int r2)] _ _ _
          refine y_goto dX2_linkFollows_66 (t := 2) rfl ?_
          have h9 := (ztm Wκ1 Mκ4 h6)
          obtain ⟨k, hk, hI⟩ := F
          exact y_k (ih k hk _ _ _ Wκ4 h9 hI) ⟨rfl, rfl, trivial⟩
        · replace F := F.2 c9
          refine y_iln dX2_linkFollows_29 rfl ?_
          refine y_ic dX2_linkFollows_30 zi_m1 ?_
          refine y_ii (r2 = (-1 : Int32)) dX2_linkFollows_31 (t := 63) rfl rfl (fun c9 => ?_) (fun c9 => ?_)
          · replace F := F.1 c9
            refine y_incb dX2_linkFollows_63 zi_1 rfl (Nat.le_of_ble_eq_true rfl) (fun v1_10 ev1_10 => ?_)
            replace F := F v1_10 ev1_10
            show zG _ _ _ _ _ [some (.ref a0), some (.int v1_10), some (.int r2)] _ _ _
            refine y_goto dX2_linkFollows_66 (t := 2) rfl ?_
            have h11 := (ztm Wκ1 Mκ4 h6)
            obtain ⟨k, hk, hI⟩ := F
            exact y_k (ih k hk _ _ _ Wκ4 h11 hI) ⟨rfl, rfl, trivial⟩
          · replace F := F.2 c9
            refine y_aln dX2_linkFollows_34 rfl ?_
            refine y_iln dX2_linkFollows_35 rfl ?_
            refine y_bi1 dX2_linkFollows_36 zb_8 ?_
            refine y_aln dX2_linkFollows_38 rfl ?_
            refine y_iln dX2_linkFollows_39 rfl ?_
            refine y_ic dX2_linkFollows_40 zi_0 ?_
            have h14 := (ztm Wκ1 Mκ4 h6)
            replace F := F h14
            refine k_X2_74 Wκ4 dX2_linkFollows_41 rfl (Nat.le_of_ble_eq_true rfl) (Nat.le_of_ble_eq_true rfl) (Or.inl h14) F (fun r13 κ12 Wκ12 Mκ12 F => ?_) (fun _ _ h9 => False.elim h9)
            replace F := F Wκ12 Mκ12
            refine y_bi1 dX2_linkFollows_44 zb_7 ?_
            refine y_iin (r13 = (7 : Int32)) dX2_linkFollows_46 (t := 53) rfl rfl (fun c9 => ?_) (fun c9 => ?_)
            · replace F := F.1 c9
              refine y_aln dX2_linkFollows_53 rfl ?_
              refine y_iln dX2_linkFollows_54 rfl ?_
              refine y_bi1 dX2_linkFollows_55 zb_8 ?_
              have h18 := (ztm Wκ4 Mκ12 h14)
              replace F := F h18
              refine k_X2_74 Wκ12 dX2_linkFollows_57 rfl (Nat.le_of_ble_eq_true rfl) (Nat.le_of_ble_eq_true rfl) (Or.inl h18) F (fun r17 κ16 Wκ16 Mκ16 F => ?_) (fun _ _ h9 => False.elim h9)
              replace F := F Wκ16 Mκ16
              have h22 := (ztm Wκ12 Mκ16 h18)
              replace F := F h22
              refine k_X2_78 Wκ16 dX2_linkFollows_60 rfl (Nat.le_of_ble_eq_true rfl) (Nat.le_of_ble_eq_true rfl) (Or.inl h22) F (fun  κ20 Wκ20 Mκ20 F => ?_) (fun _ _ h9 => False.elim h9)
              replace F := F Wκ20 Mκ20
              refine y_incb dX2_linkFollows_63 zi_1 rfl (Nat.le_of_ble_eq_true rfl) (fun v1_24 ev1_24 => ?_)
              replace F := F v1_24 ev1_24
              show zG _ _ _ _ _ [some (.ref a0), some (.int v1_24), some (.int r2)] _ _ _
              refine y_goto dX2_linkFollows_66 (t := 2) rfl ?_
              have h25 := (ztm Wκ16 Mκ20 h22)
              obtain ⟨k, hk, hI⟩ := F
              exact y_k (ih k hk _ _ _ Wκ20 h25 hI) ⟨rfl, rfl, trivial⟩
            · replace F := F.2 c9
              refine y_iln dX2_linkFollows_49 rfl ?_
              refine y_goto dX2_linkFollows_50 (t := 60) rfl ?_
              have h28 := (ztm Wκ4 Mκ12 h14)
              replace F := F h28
              refine k_X2_78 Wκ12 dX2_linkFollows_60 rfl (Nat.le_of_ble_eq_true rfl) (Nat.le_of_ble_eq_true rfl) (Or.inl h28) F (fun  κ26 Wκ26 Mκ26 F => ?_) (fun _ _ h9 => False.elim h9)
              replace F := F Wκ26 Mκ26
              refine y_incb dX2_linkFollows_63 zi_1 rfl (Nat.le_of_ble_eq_true rfl) (fun v1_30 ev1_30 => ?_)
              replace F := F v1_30 ev1_30
              show zG _ _ _ _ _ [some (.ref a0), some (.int v1_30), some (.int r2)] _ _ _
              refine y_goto dX2_linkFollows_66 (t := 2) rfl ?_
              have h31 := (ztm Wκ12 Mκ26 h28)
              obtain ⟨k, hk, hI⟩ := F
              exact y_k (ih k hk _ _ _ Wκ26 h31 hI) ⟨rfl, rfl, trivial⟩
  exact key m0 a0 a1 κ W Ta0 hI0

def w_Co_linkFollows_0 (C : zC) (n0 : Nat) (Q : zS → Prop)  (a0 : Nat) (κ : zS) : Prop :=
  w_Co_linkFollows_2 C n0 Q  a0 (0 : Int32) κ
theorem t_Co_linkFollows_0 {C : zC} {n0 : Nat} {Q : zS → Prop}   {a0 : Nat} {κ : zS} (W : zW C n0 κ) (Ta0 : zT κ a0 = 5) (F : w_Co_linkFollows_0 C n0 Q  a0 κ) : zG C n0 1 mCo_linkFollows 0 [some (.ref a0), none, none] [] κ (oV Q noX) := by
  unfold w_Co_linkFollows_0 at F
  refine y_ic dX2_linkFollows_0 zi_0 ?_
  refine y_isn dX2_linkFollows_1 (Nat.le_of_ble_eq_true rfl) rfl ?_
  show zG _ _ _ _ _ [some (.ref a0), some (.int (0 : Int32)), none] _ _ _
  exact y_k (t_Co_linkFollows_2  W Ta0 F) ⟨rfl, rfl, trivial⟩

theorem Co_linkFollows_run {C : zC} {n0 : Nat} {Q : zS → Prop} {a0 : Nat} {κ : zS} (W : zW C n0 κ) (Ta0 : zT κ a0 = 5) (F : w_Co_linkFollows_0 C (zn κ) Q a0 κ) : zRun C 1 mCo_linkFollows [.ref a0] κ (oV Q noX) := z_run (m_ent _ 2) (t_Co_linkFollows_0 (W.lo (Nat.le_trans W.1.2.1 W.1.2.2) (Nat.le_refl _)) Ta0 F)

theorem dX4_init_0 : decode cX4_init 0 = .ok (.aload_n 0, 1) := by decide +kernel
theorem dX4_init_1 : decode cX4_init 1 = .ok (.invokespecial 5, 3) := by decide +kernel
theorem dX4_init_4 : decode cX4_init 4 = .ok (.aload_n 0, 1) := by decide +kernel
theorem dX4_init_5 : decode cX4_init 5 = .ok (.aload_n 1, 1) := by decide +kernel
theorem dX4_init_6 : decode cX4_init 6 = .ok (.putfield 11, 3) := by decide +kernel
theorem dX4_init_9 : decode cX4_init 9 = .ok (.aload_n 0, 1) := by decide +kernel
theorem dX4_init_10 : decode cX4_init 10 = .ok (.sipush 142, 3) := by decide +kernel
theorem dX4_init_13 : decode cX4_init 13 = .ok (.newarray .int, 2) := by decide +kernel
theorem dX4_init_15 : decode cX4_init 15 = .ok (.putfield 15, 3) := by decide +kernel
theorem dX4_init_18 : decode cX4_init 18 = .ok (.aload_n 0, 1) := by decide +kernel
theorem dX4_init_19 : decode cX4_init 19 = .ok (.sipush 256, 3) := by decide +kernel
theorem dX4_init_22 : decode cX4_init 22 = .ok (.newarray .int, 2) := by decide +kernel
theorem dX4_init_24 : decode cX4_init 24 = .ok (.putfield 19, 3) := by decide +kernel
theorem dX4_init_27 : decode cX4_init 27 = .ok (.aload_n 0, 1) := by decide +kernel
theorem dX4_init_28 : decode cX4_init 28 = .ok (.bipush 16, 2) := by decide +kernel
theorem dX4_init_30 : decode cX4_init 30 = .ok (.newarray .int, 2) := by decide +kernel
theorem dX4_init_32 : decode cX4_init 32 = .ok (.putfield 22, 3) := by decide +kernel
theorem dX4_init_35 : decode cX4_init 35 = .ok (.aload_n 0, 1) := by decide +kernel
theorem dX4_init_36 : decode cX4_init 36 = .ok (.bipush 64, 2) := by decide +kernel
theorem dX4_init_38 : decode cX4_init 38 = .ok (.newarray .int, 2) := by decide +kernel
theorem dX4_init_40 : decode cX4_init 40 = .ok (.putfield 25, 3) := by decide +kernel
theorem dX4_init_43 : decode cX4_init 43 = .ok (.aload_n 0, 1) := by decide +kernel
theorem dX4_init_44 : decode cX4_init 44 = .ok (.bipush 64, 2) := by decide +kernel
theorem dX4_init_46 : decode cX4_init 46 = .ok (.newarray .int, 2) := by decide +kernel
theorem dX4_init_48 : decode cX4_init 48 = .ok (.putfield 28, 3) := by decide +kernel
theorem dX4_init_51 : decode cX4_init 51 = .ok (.return_, 1) := by decide +kernel
def w_Ma_init_0 (C : zC) (n0 : Nat) (Q : zS → Prop)  (a0 : Nat) (a1 : Nat) (κ : zS) : Prop :=
  ∀ κ1, κ1 = ur κ maCode a0 a1 →
  ∀ _ : zW C n0 κ1,
  nsz (142 : Int32) ∧
  ∀ κ2, κ2 = na κ1 20 ((142 : Int32)).toNatClampNeg →
  ∀ _ : zW C n0 κ2,
  zO κ2 (zn κ1) = (0, 0) ∧
  ∀ κ5, κ5 = uo κ2 maMemory a0 (zn κ1) →
  ∀ _ : zW C n0 κ5,
  nsz (256 : Int32) ∧
  ∀ κ8, κ8 = na κ5 20 ((256 : Int32)).toNatClampNeg →
  ∀ _ : zW C n0 κ8,
  zO κ8 (zn κ5) = (0, 0) ∧
  ∀ κ11, κ11 = uo κ8 maStack a0 (zn κ5) →
  ∀ _ : zW C n0 κ11,
  nsz (16 : Int32) ∧
  ∀ κ14, κ14 = na κ11 20 ((16 : Int32)).toNatClampNeg →
  ∀ _ : zW C n0 κ14,
  zO κ14 (zn κ11) = (0, 0) ∧
  ∀ κ17, κ17 = uo κ14 maWorked a0 (zn κ11) →
  ∀ _ : zW C n0 κ17,
  nsz (64 : Int32) ∧
  ∀ κ20, κ20 = na κ17 20 ((64 : Int32)).toNatClampNeg →
  ∀ _ : zW C n0 κ20,
  zO κ20 (zn κ17) = (0, 0) ∧
  ∀ κ23, κ23 = uo κ20 maValues a0 (zn κ17) →
  ∀ _ : zW C n0 κ23,
  nsz (64 : Int32) ∧
  ∀ κ26, κ26 = na κ23 20 ((64 : Int32)).toNatClampNeg →
  ∀ _ : zW C n0 κ26,
  zO κ26 (zn κ23) = (0, 0) ∧
  ∀ κ29, κ29 = uo κ26 maWeights a0 (zn κ23) →
  ∀ _ : zW C n0 κ29,
  Q κ29
theorem t_Ma_init_0 {C : zC} {n0 : Nat} {Q : zS → Prop}   {a0 : Nat} {a1 : Nat} {κ : zS} (W : zW C n0 κ) (Ta0 : zT κ a0 = 47) (Ta1 : zT κ a1 = 5) (F : w_Ma_init_0 C n0 Q  a0 a1 κ) : zG C n0 1 mMa_init 0 [some (.ref a0), some (.ref a1)] [] κ (oV Q noX) := by
  unfold w_Ma_init_0 at F
  refine y_aln dX4_init_0 rfl ?_
  refine y_oinit dX4_init_1 rfl zbi_X4_5 (Nat.le_of_ble_eq_true rfl) (Nat.le_of_ble_eq_true rfl) ?_
  refine y_aln dX4_init_4 rfl ?_
  refine y_aln dX4_init_5 rfl ?_
  refine pf_X4_11 W dX4_init_6 rfl (Or.inr Ta0) Ta1 (fun κ1 eκ1 => ?_)
  replace F := F κ1 eκ1
  have Wκ1 : zW C n0 κ1 := zW_ur W eκ1 (fun t ht => by cases ht; exact ⟨by decide, Ta1⟩)
  have Mκ1 : zM (zn κ) κ κ1 := by rw [eκ1]; exact zM.of rfl rfl rfl
  replace F := F Wκ1
  refine y_aln dX4_init_9 rfl ?_
  refine y_si dX4_init_10 zs_142 ?_
  have b3 := F.1
  refine y_newa (t := 0) Wκ1 dX4_init_13 (by decide) b3 (fun κ2 eκ2 => ?_)
  replace F := F.2 κ2 eκ2
  have Wκ2 : zW C n0 κ2 := zW_na Wκ1 eκ2 (by decide) (by decide) b3.2
  have Mκ2 : zM (zn κ1) κ1 κ2 := zM_na (Wκ1.lo (Nat.le_trans Wκ1.1.2.1 Wκ1.1.2.2) (Nat.le_refl _)) eκ2
  replace F := F Wκ2
  have g4 : zT κ2 (zn κ1) = 20 := by rw [eκ2]; exact if_pos rfl
  have b6 := F.1
  replace F := F.2
  have h7 := (ztm Wκ1 Mκ2 (ztm W Mκ1 Ta0))
  refine pf_X4_15 Wκ2 dX4_init_15 rfl rfl (Or.inr h7) g4 (fun κ5 eκ5 => ?_)
  replace F := F κ5 eκ5
  have Wκ5 : zW C n0 κ5 := zW_uo Wκ2 eκ5 (fun t ht => by cases ht; exact g4) b6
  have Mκ5 : zM (zn κ2) κ2 κ5 := by rw [eκ5]; exact zM.of rfl rfl rfl
  replace F := F Wκ5
  refine y_aln dX4_init_18 rfl ?_
  refine y_si dX4_init_19 zs_256 ?_
  have b9 := F.1
  refine y_newa (t := 0) Wκ5 dX4_init_22 (by decide) b9 (fun κ8 eκ8 => ?_)
  replace F := F.2 κ8 eκ8
  have Wκ8 : zW C n0 κ8 := zW_na Wκ5 eκ8 (by decide) (by decide) b9.2
  have Mκ8 : zM (zn κ5) κ5 κ8 := zM_na (Wκ5.lo (Nat.le_trans Wκ5.1.2.1 Wκ5.1.2.2) (Nat.le_refl _)) eκ8
  replace F := F Wκ8
  have g10 : zT κ8 (zn κ5) = 20 := by rw [eκ8]; exact if_pos rfl
  have b12 := F.1
  replace F := F.2
  have h13 := (ztm Wκ5 Mκ8 (ztm Wκ2 Mκ5 h7))
  refine pf_X4_19 Wκ8 dX4_init_24 rfl rfl (Or.inr h13) g10 (fun κ11 eκ11 => ?_)
  replace F := F κ11 eκ11
  have Wκ11 : zW C n0 κ11 := zW_uo Wκ8 eκ11 (fun t ht => by cases ht; exact g10) b12
  have Mκ11 : zM (zn κ8) κ8 κ11 := by rw [eκ11]; exact zM.of rfl rfl rfl
  replace F := F Wκ11
  refine y_aln dX4_init_27 rfl ?_
  refine y_bi1 dX4_init_28 zb_16 ?_
  have b15 := F.1
  refine y_newa (t := 0) Wκ11 dX4_init_30 (by decide) b15 (fun κ14 eκ14 => ?_)
  replace F := F.2 κ14 eκ14
  have Wκ14 : zW C n0 κ14 := zW_na Wκ11 eκ14 (by decide) (by decide) b15.2
  have Mκ14 : zM (zn κ11) κ11 κ14 := zM_na (Wκ11.lo (Nat.le_trans Wκ11.1.2.1 Wκ11.1.2.2) (Nat.le_refl _)) eκ14
  replace F := F Wκ14
  have g16 : zT κ14 (zn κ11) = 20 := by rw [eκ14]; exact if_pos rfl
  have b18 := F.1
  replace F := F.2
  have h19 := (ztm Wκ11 Mκ14 (ztm Wκ8 Mκ11 h13))
  refine pf_X4_22 Wκ14 dX4_init_32 rfl rfl (Or.inr h19) g16 (fun κ17 eκ17 => ?_)
  replace F := F κ17 eκ17
  have Wκ17 : zW C n0 κ17 := zW_uo Wκ14 eκ17 (fun t ht => by cases ht; exact g16) b18
  have Mκ17 : zM (zn κ14) κ14 κ17 := by rw [eκ17]; exact zM.of rfl rfl rfl
  replace F := F Wκ17
  refine y_aln dX4_init_35 rfl ?_
  refine y_bi1 dX4_init_36 zb_64 ?_
  have b21 := F.1
  refine y_newa (t := 0) Wκ17 dX4_init_38 (by decide) b21 (fun κ20 eκ20 => ?_)
  replace F := F.2 κ20 eκ20
  have Wκ20 : zW C n0 κ20 := zW_na Wκ17 eκ20 (by decide) (by decide) b21.2
  have Mκ20 : zM (zn κ17) κ17 κ20 := zM_na (Wκ17.lo (Nat.le_trans Wκ17.1.2.1 Wκ17.1.2.2) (Nat.le_refl _)) eκ20
  replace F := F Wκ20
  have g22 : zT κ20 (zn κ17) = 20 := by rw [eκ20]; exact if_pos rfl
  have b24 := F.1
  replace F := F.2
  have h25 := (ztm Wκ17 Mκ20 (ztm Wκ14 Mκ17 h19))
  refine pf_X4_25 Wκ20 dX4_init_40 rfl rfl (Or.inr h25) g22 (fun κ23 eκ23 => ?_)
  replace F := F κ23 eκ23
  have Wκ23 : zW C n0 κ23 := zW_uo Wκ20 eκ23 (fun t ht => by cases ht; exact g22) b24
  have Mκ23 : zM (zn κ20) κ20 κ23 := by rw [eκ23]; exact zM.of rfl rfl rfl
  replace F := F Wκ23
  refine y_aln dX4_init_43 rfl ?_
  refine y_bi1 dX4_init_44 zb_64 ?_
  have b27 := F.1
  refine y_newa (t := 0) Wκ23 dX4_init_46 (by decide) b27 (fun κ26 eκ26 => ?_)
  replace F := F.2 κ26 eκ26
  have Wκ26 : zW C n0 κ26 := zW_na Wκ23 eκ26 (by decide) (by decide) b27.2
  have Mκ26 : zM (zn κ23) κ23 κ26 := zM_na (Wκ23.lo (Nat.le_trans Wκ23.1.2.1 Wκ23.1.2.2) (Nat.le_refl _)) eκ26
  replace F := F Wκ26
  have g28 : zT κ26 (zn κ23) = 20 := by rw [eκ26]; exact if_pos rfl
  have b30 := F.1
  replace F := F.2
  have h31 := (ztm Wκ23 Mκ26 (ztm Wκ20 Mκ23 h25))
  refine pf_X4_28 Wκ26 dX4_init_48 rfl rfl (Or.inr h31) g28 (fun κ29 eκ29 => ?_)
  replace F := F κ29 eκ29
  have Wκ29 : zW C n0 κ29 := zW_uo Wκ26 eκ29 (fun t ht => by cases ht; exact g28) b30
  have Mκ29 : zM (zn κ26) κ26 κ29 := by rw [eκ29]; exact zM.of rfl rfl rfl
  replace F := F Wκ29
  exact y_rv Wκ29 dX4_init_51 rfl F

theorem Ma_init_run {C : zC} {n0 : Nat} {Q : zS → Prop} {a0 : Nat} {a1 : Nat} {κ : zS} (W : zW C n0 κ) (Ta0 : zT κ a0 = 47) (Ta1 : zT κ a1 = 5) (F : w_Ma_init_0 C (zn κ) Q a0 a1 κ) : zRun C 1 mMa_init [.ref a0, .ref a1] κ (oV Q noX) := z_run (m_ent _ 0) (t_Ma_init_0 (W.lo (Nat.le_trans W.1.2.1 W.1.2.2) (Nat.le_refl _)) Ta0 Ta1 F)

theorem dX4_wayAt_0 : decode cX4_wayAt 0 = .ok (.aload_n 0, 1) := by decide +kernel
theorem dX4_wayAt_1 : decode cX4_wayAt 1 = .ok (.getfield 166, 3) := by decide +kernel
theorem dX4_wayAt_4 : decode cX4_wayAt 4 = .ok (.ifCond .le 13, 3) := by decide +kernel
theorem dX4_wayAt_7 : decode cX4_wayAt 7 = .ok (.lload_n 1, 1) := by decide +kernel
theorem dX4_wayAt_8 : decode cX4_wayAt 8 = .ok (.aload_n 0, 1) := by decide +kernel
theorem dX4_wayAt_9 : decode cX4_wayAt 9 = .ok (.getfield 166, 3) := by decide +kernel
theorem dX4_wayAt_12 : decode cX4_wayAt 12 = .ok (.i2l, 1) := by decide +kernel
theorem dX4_wayAt_13 : decode cX4_wayAt 13 = .ok (.lrem, 1) := by decide +kernel
theorem dX4_wayAt_14 : decode cX4_wayAt 14 = .ok (.goto 4, 3) := by decide +kernel
theorem dX4_wayAt_17 : decode cX4_wayAt 17 = .ok (.lconst 0, 1) := by decide +kernel
theorem dX4_wayAt_18 : decode cX4_wayAt 18 = .ok (.lstore_n 3, 1) := by decide +kernel
theorem dX4_wayAt_19 : decode cX4_wayAt 19 = .ok (.lconst 0, 1) := by decide +kernel
theorem dX4_wayAt_20 : decode cX4_wayAt 20 = .ok (.lstore 5, 2) := by decide +kernel
theorem dX4_wayAt_22 : decode cX4_wayAt 22 = .ok (.iconst 0, 1) := by decide +kernel
theorem dX4_wayAt_23 : decode cX4_wayAt 23 = .ok (.istore 7, 2) := by decide +kernel
theorem dX4_wayAt_25 : decode cX4_wayAt 25 = .ok (.iload 7, 2) := by decide +kernel
theorem dX4_wayAt_27 : decode cX4_wayAt 27 = .ok (.aload_n 0, 1) := by decide +kernel
theorem dX4_wayAt_28 : decode cX4_wayAt 28 = .ok (.getfield 163, 3) := by decide +kernel
theorem dX4_wayAt_31 : decode cX4_wayAt 31 = .ok (.if_icmp .ge 32, 3) := by decide +kernel
theorem dX4_wayAt_34 : decode cX4_wayAt 34 = .ok (.lload 5, 2) := by decide +kernel
theorem dX4_wayAt_36 : decode cX4_wayAt 36 = .ok (.aload_n 0, 1) := by decide +kernel
theorem dX4_wayAt_37 : decode cX4_wayAt 37 = .ok (.getfield 28, 3) := by decide +kernel
theorem dX4_wayAt_40 : decode cX4_wayAt 40 = .ok (.iload 7, 2) := by decide +kernel
theorem dX4_wayAt_42 : decode cX4_wayAt 42 = .ok (.iaload, 1) := by decide +kernel
theorem dX4_wayAt_43 : decode cX4_wayAt 43 = .ok (.i2l, 1) := by decide +kernel
theorem dX4_wayAt_44 : decode cX4_wayAt 44 = .ok (.ladd, 1) := by decide +kernel
theorem dX4_wayAt_45 : decode cX4_wayAt 45 = .ok (.lstore 5, 2) := by decide +kernel
theorem dX4_wayAt_47 : decode cX4_wayAt 47 = .ok (.lload 5, 2) := by decide +kernel
theorem dX4_wayAt_49 : decode cX4_wayAt 49 = .ok (.lload_n 3, 1) := by decide +kernel
theorem dX4_wayAt_50 : decode cX4_wayAt 50 = .ok (.lcmp, 1) := by decide +kernel
theorem dX4_wayAt_51 : decode cX4_wayAt 51 = .ok (.ifCond .le 6, 3) := by decide +kernel
theorem dX4_wayAt_54 : decode cX4_wayAt 54 = .ok (.iload 7, 2) := by decide +kernel
theorem dX4_wayAt_56 : decode cX4_wayAt 56 = .ok (.ireturn, 1) := by decide +kernel
theorem dX4_wayAt_57 : decode cX4_wayAt 57 = .ok (.iinc 7 1, 3) := by decide +kernel
theorem dX4_wayAt_60 : decode cX4_wayAt 60 = .ok (.goto (-35), 3) := by decide +kernel
theorem dX4_wayAt_63 : decode cX4_wayAt 63 = .ok (.iconst 0, 1) := by decide +kernel
theorem dX4_wayAt_64 : decode cX4_wayAt 64 = .ok (.ireturn, 1) := by decide +kernel
def w_Ma_wayAt_25 (C : zC) (n0 : Nat) (Q : Int32 → zS → Prop)  (a0 : Nat) (a3 : Int64) (a5 : Int64) (a7 : Int32) (κ : zS) : Prop :=
  ∃ I : Nat → Nat → Int64 → Int64 → Int32 → zS → Prop, (∃ n, I n a0 a3 a5 a7 κ) ∧ ∀ n a0 a3 a5 a7 κ, zW C n0 κ → zT κ a0 = 7 → I n a0 a3 a5 a7 κ →
    ((zI κ maWays a0) ≤ a7 →
      Q (0 : Int32) κ) ∧
    (¬ (zI κ maWays a0) ≤ a7 →
      inb a7 (zN κ (zR κ maWeights a0)) ∧
      ∀ v5_1 : Int64, v5_1 = (a5 + (Int32.toInt64 (zA κ (zR κ maWeights a0) (a7).toNatClampNeg))) →
      ((lg_cmp v5_1 a3) ≤ (0 : Int32) →
        ∀ v7_2 : Int32, v7_2 = a7 + (1 : Int32) →
        ∃ k < n, I k a0 a3 v5_1 v7_2 κ) ∧
      (¬ (lg_cmp v5_1 a3) ≤ (0 : Int32) →
        Q a7 κ))
theorem t_Ma_wayAt_25 {C : zC} {n0 : Nat} {Q : Int32 → zS → Prop}   {a0 : Nat} {a3 : Int64} {a5 : Int64} {a7 : Int32} {κ : zS} (W : zW C n0 κ) (Ta0 : zT κ a0 = 7) (F : w_Ma_wayAt_25 C n0 Q  a0 a3 a5 a7 κ) : zG C n0 0 mMa_wayAt 25 [some (.ref a0), none, none, some (.long a3), none, some (.long a5), none, some (.int a7)] [] κ (oI Q noX) := by
  obtain ⟨I, ⟨m0, hI0⟩, F0⟩ := F
  have key : ∀ n a0 a3 a5 a7 κ, zW C n0 κ → zT κ a0 = 7 → I n a0 a3 a5 a7 κ → zG C n0 0 mMa_wayAt 25 [some (.ref a0), none, none, some (.long a3), none, some (.long a5), none, some (.int a7)] [] κ (oI Q noX) := by
    intro n
    induction n using Nat.strongRecOn with
    | _ n ih =>
      intro a0 a3 a5 a7 κ W Ta0 hI
      have F := F0 n a0 a3 a5 a7 κ W Ta0 hI
      clear hI hI0
      refine y_il dX4_wayAt_25 rfl ?_
      refine y_aln dX4_wayAt_27 rfl ?_
      refine gf_X4_163 dX4_wayAt_28 rfl (Or.inl Ta0) ?_
      refine y_ii ((zI κ maWays a0) ≤ a7) dX4_wayAt_31 (t := 63) rfl rfl (fun c9 => ?_) (fun c9 => ?_)
      · replace F := F.1 c9
        refine y_ic dX4_wayAt_63 zi_0 ?_
        exact y_ri W dX4_wayAt_64 rfl in_nar F
      · replace F := F.2 c9
        refine y_ll dX4_wayAt_34 rfl ?_
        refine y_aln dX4_wayAt_36 rfl ?_
        refine gf_X4_28 W dX4_wayAt_37 rfl Ta0 ?_
        refine y_il dX4_wayAt_40 rfl ?_
        refine y_ald dX4_wayAt_42 (ty_maWeights W Ta0) F.1 ?_
        replace F := F.2
        refine y_i2l dX4_wayAt_43 ?_
        refine y_ladd dX4_wayAt_44 ?_
        refine y_lsb dX4_wayAt_45 (Nat.le_of_ble_eq_true rfl) (fun v5_1 ev5_1 => ?_)
        replace F := F v5_1 ev5_1
        show zG _ _ _ _ _ [some (.ref a0), none, none, some (.long a3), none, some (.long v5_1), none, some (.int a7)] _ _ _
        refine y_ll dX4_wayAt_47 rfl ?_
        refine y_lln dX4_wayAt_49 rfl ?_
        refine y_lcmp dX4_wayAt_50 ?_
        refine y_i ((lg_cmp v5_1 a3) ≤ (0 : Int32)) dX4_wayAt_51 (t := 57) rfl rfl (fun c9 => ?_) (fun c9 => ?_)
        · replace F := F.1 c9
          refine y_incb dX4_wayAt_57 zi_1 rfl (Nat.le_of_ble_eq_true rfl) (fun v7_2 ev7_2 => ?_)
          replace F := F v7_2 ev7_2
          show zG _ _ _ _ _ [some (.ref a0), none, none, some (.long a3), none, some (.long v5_1), none, some (.int v7_2)] _ _ _
          refine y_goto dX4_wayAt_60 (t := 25) rfl ?_
          obtain ⟨k, hk, hI⟩ := F
          exact y_k (ih k hk _ _ _ _ _ W Ta0 hI) ⟨rfl, rfl, rfl, rfl, trivial⟩
        · replace F := F.2 c9
          refine y_il dX4_wayAt_54 rfl ?_
          exact y_ri W dX4_wayAt_56 rfl in_nar F
  exact key m0 a0 a3 a5 a7 κ W Ta0 hI0

def w_Ma_wayAt_18 (C : zC) (n0 : Nat) (Q : Int32 → zS → Prop)  (a0 : Nat) (s0 : Int64) (κ : zS) : Prop :=
  w_Ma_wayAt_25 C n0 Q  a0 s0 (0 : Int64) (0 : Int32) κ
theorem t_Ma_wayAt_18 {C : zC} {n0 : Nat} {Q : Int32 → zS → Prop}   {a0 : Nat} {s0 : Int64} {κ : zS} (W : zW C n0 κ) (Ta0 : zT κ a0 = 7) (F : w_Ma_wayAt_18 C n0 Q  a0 s0 κ) : zG C n0 0 mMa_wayAt 18 [some (.ref a0), none, none, none, none, none, none, none] [.long s0] κ (oI Q noX) := by
  unfold w_Ma_wayAt_18 at F
  refine y_lsn dX4_wayAt_18 (Nat.le_of_ble_eq_true rfl) rfl ?_
  show zG _ _ _ _ _ [some (.ref a0), none, none, some (.long s0), none, none, none, none] _ _ _
  refine y_lc dX4_wayAt_19 zl_0 ?_
  refine y_ls dX4_wayAt_20 (Nat.le_of_ble_eq_true rfl) rfl ?_
  show zG _ _ _ _ _ [some (.ref a0), none, none, some (.long s0), none, some (.long (0 : Int64)), none, none] _ _ _
  refine y_ic dX4_wayAt_22 zi_0 ?_
  refine y_is dX4_wayAt_23 (Nat.le_of_ble_eq_true rfl) rfl ?_
  show zG _ _ _ _ _ [some (.ref a0), none, none, some (.long s0), none, some (.long (0 : Int64)), none, some (.int (0 : Int32))] _ _ _
  exact y_k (t_Ma_wayAt_25  W Ta0 F) ⟨rfl, rfl, rfl, rfl, trivial⟩

def w_Ma_wayAt_0 (C : zC) (n0 : Nat) (Q : Int32 → zS → Prop)  (a0 : Nat) (a1 : Int64) (κ : zS) : Prop :=
  ((zI κ maTotal a0) ≤ (0 : Int32) →
    w_Ma_wayAt_18 C n0 Q  a0 (0 : Int64) κ) ∧
  (¬ (zI κ maTotal a0) ≤ (0 : Int32) →
    ¬ (Int32.toInt64 (zI κ maTotal a0)) = 0 ∧
    w_Ma_wayAt_18 C n0 Q  a0 (a1 - a1 / (Int32.toInt64 (zI κ maTotal a0)) * (Int32.toInt64 (zI κ maTotal a0))) κ)
theorem t_Ma_wayAt_0 {C : zC} {n0 : Nat} {Q : Int32 → zS → Prop}   {a0 : Nat} {a1 : Int64} {κ : zS} (W : zW C n0 κ) (Ta0 : zT κ a0 = 7) (F : w_Ma_wayAt_0 C n0 Q  a0 a1 κ) : zG C n0 0 mMa_wayAt 0 [some (.ref a0), some (.long a1), none, none, none, none, none, none] [] κ (oI Q noX) := by
  unfold w_Ma_wayAt_0 at F
  refine y_aln dX4_wayAt_0 rfl ?_
  refine gf_X4_166 dX4_wayAt_1 rfl (Or.inl Ta0) ?_
  refine y_i ((zI κ maTotal a0) ≤ (0 : Int32)) dX4_wayAt_4 (t := 17) rfl rfl (fun c9 => ?_) (fun c9 => ?_)
  · replace F := F.1 c9
    refine y_lc dX4_wayAt_17 zl_0 ?_
    exact y_k (t_Ma_wayAt_18  W Ta0 F) ⟨rfl, trivial⟩
  · replace F := F.2 c9
    refine y_lln dX4_wayAt_7 rfl ?_
    refine y_aln dX4_wayAt_8 rfl ?_
    refine gf_X4_166 dX4_wayAt_9 rfl (Or.inl Ta0) ?_
    refine y_i2l dX4_wayAt_12 ?_
    refine y_lrem dX4_wayAt_13 F.1 ?_
    replace F := F.2
    refine y_goto dX4_wayAt_14 (t := 18) rfl ?_
    exact y_k (t_Ma_wayAt_18  W Ta0 F) ⟨rfl, trivial⟩

theorem Ma_wayAt_run {C : zC} {n0 : Nat} {Q : Int32 → zS → Prop} {a0 : Nat} {a1 : Int64} {κ : zS} (W : zW C n0 κ) (Ta0 : zT κ a0 = 7) (F : w_Ma_wayAt_0 C (zn κ) Q a0 a1 κ) : zRun C 0 mMa_wayAt [.ref a0, .long a1] κ (oI Q noX) := z_run (m_ent _ 5) (t_Ma_wayAt_0 (W.lo (Nat.le_trans W.1.2.1 W.1.2.2) (Nat.le_refl _)) Ta0 F)

theorem dX5_words_0 : decode cX5_words 0 = .ok (.aload_n 0, 1) := by decide +kernel
theorem dX5_words_1 : decode cX5_words 1 = .ok (.invokevirtual 37, 3) := by decide +kernel
theorem dX5_words_4 : decode cX5_words 4 = .ok (.bipush 31, 2) := by decide +kernel
theorem dX5_words_6 : decode cX5_words 6 = .ok (.iadd, 1) := by decide +kernel
theorem dX5_words_7 : decode cX5_words 7 = .ok (.bipush 32, 2) := by decide +kernel
theorem dX5_words_9 : decode cX5_words 9 = .ok (.idiv, 1) := by decide +kernel
theorem dX5_words_10 : decode cX5_words 10 = .ok (.ireturn, 1) := by decide +kernel
def w_Nu_words_0 (C : zC) (n0 : Nat) (Q : Int32 → zS → Prop)  (a0 : Nat) (κ : zS) : Prop :=
  ∀ _ : zT κ a0 = 8,
  zRun C 0 mNu_bits [.ref a0] κ (oI (fun r2 κ1 =>
    ∀ _ : zW C n0 κ1,
    ∀ _ : zM (zn κ) κ κ1,
    ¬ (32 : Int32) = 0 ∧
    Q ((r2 + (31 : Int32)) / (32 : Int32)) κ1) noX)
theorem t_Nu_words_0 {C : zC} {n0 : Nat} {Q : Int32 → zS → Prop}   {a0 : Nat} {κ : zS} (W : zW C n0 κ) (Ta0 : zT κ a0 = 8) (F : w_Nu_words_0 C n0 Q  a0 κ) : zG C n0 1 mNu_words 0 [some (.ref a0)] [] κ (oI Q noX) := by
  unfold w_Nu_words_0 at F
  refine y_aln dX5_words_0 rfl ?_
  replace F := F Ta0
  refine k_X5_37 W dX5_words_1 rfl (Nat.le_of_ble_eq_true rfl) (Nat.le_of_ble_eq_true rfl) (Or.inl Ta0) F (fun r2 κ1 Wκ1 Mκ1 F => ?_) (fun _ _ h9 => False.elim h9)
  replace F := F Wκ1 Mκ1
  refine y_bi1 dX5_words_4 zb_31 ?_
  refine y_iadd dX5_words_6 ?_
  refine y_bi1 dX5_words_7 zb_32 ?_
  refine y_div dX5_words_9 F.1 ?_
  replace F := F.2
  exact y_ri Wκ1 dX5_words_10 rfl in_nar F

theorem Nu_words_run {C : zC} {n0 : Nat} {Q : Int32 → zS → Prop} {a0 : Nat} {κ : zS} (W : zW C n0 κ) (Ta0 : zT κ a0 = 8) (F : w_Nu_words_0 C (zn κ) Q a0 κ) : zRun C 1 mNu_words [.ref a0] κ (oI Q noX) := z_run (m_ent _ 0) (t_Nu_words_0 (W.lo (Nat.le_trans W.1.2.1 W.1.2.2) (Nat.le_refl _)) Ta0 F)

theorem dX5_word_0 : decode cX5_word 0 = .ok (.iload_n 1, 1) := by decide +kernel
theorem dX5_word_1 : decode cX5_word 1 = .ok (.bipush 32, 2) := by decide +kernel
theorem dX5_word_3 : decode cX5_word 3 = .ok (.imul, 1) := by decide +kernel
theorem dX5_word_4 : decode cX5_word 4 = .ok (.bipush 31, 2) := by decide +kernel
theorem dX5_word_6 : decode cX5_word 6 = .ok (.idiv, 1) := by decide +kernel
theorem dX5_word_7 : decode cX5_word 7 = .ok (.istore_n 2, 1) := by decide +kernel
theorem dX5_word_8 : decode cX5_word 8 = .ok (.iload_n 1, 1) := by decide +kernel
theorem dX5_word_9 : decode cX5_word 9 = .ok (.bipush 32, 2) := by decide +kernel
theorem dX5_word_11 : decode cX5_word 11 = .ok (.imul, 1) := by decide +kernel
theorem dX5_word_12 : decode cX5_word 12 = .ok (.bipush 31, 2) := by decide +kernel
theorem dX5_word_14 : decode cX5_word 14 = .ok (.irem, 1) := by decide +kernel
theorem dX5_word_15 : decode cX5_word 15 = .ok (.istore_n 3, 1) := by decide +kernel
theorem dX5_word_16 : decode cX5_word 16 = .ok (.iload_n 2, 1) := by decide +kernel
theorem dX5_word_17 : decode cX5_word 17 = .ok (.ifCond .lt 21, 3) := by decide +kernel
theorem dX5_word_20 : decode cX5_word 20 = .ok (.iload_n 2, 1) := by decide +kernel
theorem dX5_word_21 : decode cX5_word 21 = .ok (.aload_n 0, 1) := by decide +kernel
theorem dX5_word_22 : decode cX5_word 22 = .ok (.getfield 25, 3) := by decide +kernel
theorem dX5_word_25 : decode cX5_word 25 = .ok (.if_icmp .ge 13, 3) := by decide +kernel
theorem dX5_word_28 : decode cX5_word 28 = .ok (.aload_n 0, 1) := by decide +kernel
theorem dX5_word_29 : decode cX5_word 29 = .ok (.getfield 13, 3) := by decide +kernel
theorem dX5_word_32 : decode cX5_word 32 = .ok (.iload_n 2, 1) := by decide +kernel
theorem dX5_word_33 : decode cX5_word 33 = .ok (.iaload, 1) := by decide +kernel
theorem dX5_word_34 : decode cX5_word 34 = .ok (.i2l, 1) := by decide +kernel
theorem dX5_word_35 : decode cX5_word 35 = .ok (.goto 4, 3) := by decide +kernel
theorem dX5_word_38 : decode cX5_word 38 = .ok (.lconst 0, 1) := by decide +kernel
theorem dX5_word_39 : decode cX5_word 39 = .ok (.lstore 4, 2) := by decide +kernel
theorem dX5_word_41 : decode cX5_word 41 = .ok (.iload_n 2, 1) := by decide +kernel
theorem dX5_word_42 : decode cX5_word 42 = .ok (.iconst 1, 1) := by decide +kernel
theorem dX5_word_43 : decode cX5_word 43 = .ok (.iadd, 1) := by decide +kernel
theorem dX5_word_44 : decode cX5_word 44 = .ok (.ifCond .lt 25, 3) := by decide +kernel
theorem dX5_word_47 : decode cX5_word 47 = .ok (.iload_n 2, 1) := by decide +kernel
theorem dX5_word_48 : decode cX5_word 48 = .ok (.iconst 1, 1) := by decide +kernel
theorem dX5_word_49 : decode cX5_word 49 = .ok (.iadd, 1) := by decide +kernel
theorem dX5_word_50 : decode cX5_word 50 = .ok (.aload_n 0, 1) := by decide +kernel
theorem dX5_word_51 : decode cX5_word 51 = .ok (.getfield 25, 3) := by decide +kernel
theorem dX5_word_54 : decode cX5_word 54 = .ok (.if_icmp .ge 15, 3) := by decide +kernel
theorem dX5_word_57 : decode cX5_word 57 = .ok (.aload_n 0, 1) := by decide +kernel
theorem dX5_word_58 : decode cX5_word 58 = .ok (.getfield 13, 3) := by decide +kernel
theorem dX5_word_61 : decode cX5_word 61 = .ok (.iload_n 2, 1) := by decide +kernel
theorem dX5_word_62 : decode cX5_word 62 = .ok (.iconst 1, 1) := by decide +kernel
theorem dX5_word_63 : decode cX5_word 63 = .ok (.iadd, 1) := by decide +kernel
theorem dX5_word_64 : decode cX5_word 64 = .ok (.iaload, 1) := by decide +kernel
theorem dX5_word_65 : decode cX5_word 65 = .ok (.i2l, 1) := by decide +kernel
theorem dX5_word_66 : decode cX5_word 66 = .ok (.goto 4, 3) := by decide +kernel
theorem dX5_word_69 : decode cX5_word 69 = .ok (.lconst 0, 1) := by decide +kernel
theorem dX5_word_70 : decode cX5_word 70 = .ok (.lstore 6, 2) := by decide +kernel
theorem dX5_word_72 : decode cX5_word 72 = .ok (.lload 4, 2) := by decide +kernel
theorem dX5_word_74 : decode cX5_word 74 = .ok (.iload_n 3, 1) := by decide +kernel
theorem dX5_word_75 : decode cX5_word 75 = .ok (.lushr, 1) := by decide +kernel
theorem dX5_word_76 : decode cX5_word 76 = .ok (.lload 6, 2) := by decide +kernel
theorem dX5_word_78 : decode cX5_word 78 = .ok (.bipush 31, 2) := by decide +kernel
theorem dX5_word_80 : decode cX5_word 80 = .ok (.iload_n 3, 1) := by decide +kernel
theorem dX5_word_81 : decode cX5_word 81 = .ok (.isub, 1) := by decide +kernel
theorem dX5_word_82 : decode cX5_word 82 = .ok (.lshl, 1) := by decide +kernel
theorem dX5_word_83 : decode cX5_word 83 = .ok (.lor, 1) := by decide +kernel
theorem dX5_word_84 : decode cX5_word 84 = .ok (.l2i, 1) := by decide +kernel
theorem dX5_word_85 : decode cX5_word 85 = .ok (.ireturn, 1) := by decide +kernel
def w_Nu_word_70 (C : zC) (n0 : Nat) (Q : Int32 → zS → Prop)  (a0 : Nat) (a3 : Int32) (a4 : Int64) (s0 : Int64) (κ : zS) : Prop :=
  Q (Int64.toInt32 ((Int64.toUInt64 a4 >>> (Int64.toUInt64 (Int32.toInt64 a3) &&& Int64.toUInt64 63)).toInt64 ||| (s0 <<< (Int32.toInt64 ((31 : Int32) - a3) &&& 63)))) κ
theorem t_Nu_word_70 {C : zC} {n0 : Nat} {Q : Int32 → zS → Prop}   {a0 : Nat} {a3 : Int32} {a4 : Int64} {s0 : Int64} {κ : zS} (W : zW C n0 κ) (Ta0 : zT κ a0 = 8) (F : w_Nu_word_70 C n0 Q  a0 a3 a4 s0 κ) : zG C n0 0 mNu_word 70 [some (.ref a0), none, none, some (.int a3), some (.long a4), none, none, none] [.long s0] κ (oI Q noX) := by
  unfold w_Nu_word_70 at F
  refine y_ls dX5_word_70 (Nat.le_of_ble_eq_true rfl) rfl ?_
  show zG _ _ _ _ _ [some (.ref a0), none, none, some (.int a3), some (.long a4), none, some (.long s0), none] _ _ _
  refine y_ll dX5_word_72 rfl ?_
  refine y_iln dX5_word_74 rfl ?_
  refine y_lushr dX5_word_75 ?_
  refine y_ll dX5_word_76 rfl ?_
  refine y_bi1 dX5_word_78 zb_31 ?_
  refine y_iln dX5_word_80 rfl ?_
  refine y_isub dX5_word_81 ?_
  refine y_lshl dX5_word_82 ?_
  refine y_lor dX5_word_83 ?_
  refine y_l2i dX5_word_84 ?_
  exact y_ri W dX5_word_85 rfl in_nar F

def w_Nu_word_39 (C : zC) (n0 : Nat) (Q : Int32 → zS → Prop)  (a0 : Nat) (a2 : Int32) (a3 : Int32) (s0 : Int64) (κ : zS) : Prop :=
  ((a2 + (1 : Int32)) < (0 : Int32) →
    w_Nu_word_70 C n0 Q  a0 a3 s0 (0 : Int64) κ) ∧
  (¬ (a2 + (1 : Int32)) < (0 : Int32) →
    ((zI κ nuLength a0) ≤ (a2 + (1 : Int32)) →
      w_Nu_word_70 C n0 Q  a0 a3 s0 (0 : Int64) κ) ∧
    (¬ (zI κ nuLength a0) ≤ (a2 + (1 : Int32)) →
      inb (a2 + (1 : Int32)) (zN κ (zR κ nuLimbs a0)) ∧
      w_Nu_word_70 C n0 Q  a0 a3 s0 (Int32.toInt64 (zA κ (zR κ nuLimbs a0) ((a2 + (1 : Int32))).toNatClampNeg)) κ))
theorem t_Nu_word_39 {C : zC} {n0 : Nat} {Q : Int32 → zS → Prop}   {a0 : Nat} {a2 : Int32} {a3 : Int32} {s0 : Int64} {κ : zS} (W : zW C n0 κ) (Ta0 : zT κ a0 = 8) (F : w_Nu_word_39 C n0 Q  a0 a2 a3 s0 κ) : zG C n0 0 mNu_word 39 [some (.ref a0), none, some (.int a2), some (.int a3), none, none, none, none] [.long s0] κ (oI Q noX) := by
  unfold w_Nu_word_39 at F
  refine y_ls dX5_word_39 (Nat.le_of_ble_eq_true rfl) rfl ?_
  show zG _ _ _ _ _ [some (.ref a0), none, some (.int a2), some (.int a3), some (.long s0), none, none, none] _ _ _
  refine y_iln dX5_word_41 rfl ?_
  refine y_ic dX5_word_42 zi_1 ?_
  refine y_iadd dX5_word_43 ?_
  refine y_i ((a2 + (1 : Int32)) < (0 : Int32)) dX5_word_44 (t := 69) rfl rfl (fun c9 => ?_) (fun c9 => ?_)
  · replace F := F.1 c9
    refine y_lc dX5_word_69 zl_0 ?_
    exact y_k (t_Nu_word_70  W Ta0 F) ⟨rfl, rfl, rfl, trivial⟩
  · replace F := F.2 c9
    refine y_iln dX5_word_47 rfl ?_
    refine y_ic dX5_word_48 zi_1 ?_
    refine y_iadd dX5_word_49 ?_
    refine y_aln dX5_word_50 rfl ?_
    refine gf_X5_25 dX5_word_51 rfl (Or.inl Ta0) ?_
    refine y_ii ((zI κ nuLength a0) ≤ (a2 + (1 : Int32))) dX5_word_54 (t := 69) rfl rfl (fun c9 => ?_) (fun c9 => ?_)
    · replace F := F.1 c9
      refine y_lc dX5_word_69 zl_0 ?_
      exact y_k (t_Nu_word_70  W Ta0 F) ⟨rfl, rfl, rfl, trivial⟩
    · replace F := F.2 c9
      refine y_aln dX5_word_57 rfl ?_
      refine gf_X5_13 W dX5_word_58 rfl Ta0 ?_
      refine y_iln dX5_word_61 rfl ?_
      refine y_ic dX5_word_62 zi_1 ?_
      refine y_iadd dX5_word_63 ?_
      refine y_ald dX5_word_64 (ty_nuLimbs W Ta0) F.1 ?_
      replace F := F.2
      refine y_i2l dX5_word_65 ?_
      refine y_goto dX5_word_66 (t := 70) rfl ?_
      exact y_k (t_Nu_word_70  W Ta0 F) ⟨rfl, rfl, rfl, trivial⟩

def w_Nu_word_0 (C : zC) (n0 : Nat) (Q : Int32 → zS → Prop)  (a0 : Nat) (a1 : Int32) (κ : zS) : Prop :=
  ¬ (31 : Int32) = 0 ∧
  ∀ v2_1 : Int32, v2_1 = ((a1 * (32 : Int32)) / (31 : Int32)) →
  ¬ (31 : Int32) = 0 ∧
  ∀ v3_2 : Int32, v3_2 = ((a1 * (32 : Int32)) - (a1 * (32 : Int32)) / (31 : Int32) * (31 : Int32)) →
  (v2_1 < (0 : Int32) →
    w_Nu_word_39 C n0 Q  a0 v2_1 v3_2 (0 : Int64) κ) ∧
  (¬ v2_1 < (0 : Int32) →
    ((zI κ nuLength a0) ≤ v2_1 →
      w_Nu_word_39 C n0 Q  a0 v2_1 v3_2 (0 : Int64) κ) ∧
    (¬ (zI κ nuLength a0) ≤ v2_1 →
      inb v2_1 (zN κ (zR κ nuLimbs a0)) ∧
      w_Nu_word_39 C n0 Q  a0 v2_1 v3_2 (Int32.toInt64 (zA κ (zR κ nuLimbs a0) (v2_1).toNatClampNeg)) κ))
theorem t_Nu_word_0 {C : zC} {n0 : Nat} {Q : Int32 → zS → Prop}   {a0 : Nat} {a1 : Int32} {κ : zS} (W : zW C n0 κ) (Ta0 : zT κ a0 = 8) (F : w_Nu_word_0 C n0 Q  a0 a1 κ) : zG C n0 0 mNu_word 0 [some (.ref a0), some (.int a1), none, none, none, none, none, none] [] κ (oI Q noX) := by
  unfold w_Nu_word_0 at F
  refine y_iln dX5_word_0 rfl ?_
  refine y_bi1 dX5_word_1 zb_32 ?_
  refine y_imul dX5_word_3 ?_
  refine y_bi1 dX5_word_4 zb_31 ?_
  refine y_div dX5_word_6 F.1 ?_
  replace F := F.2
  refine y_isnb dX5_word_7 (Nat.le_of_ble_eq_true rfl) (fun v2_1 ev2_1 => ?_)
  replace F := F v2_1 ev2_1
  show zG _ _ _ _ _ [some (.ref a0), some (.int a1), some (.int v2_1), none, none, none, none, none] _ _ _
  refine y_iln dX5_word_8 rfl ?_
  refine y_bi1 dX5_word_9 zb_32 ?_
  refine y_imul dX5_word_11 ?_
  refine y_bi1 dX5_word_12 zb_31 ?_
  refine y_rem dX5_word_14 F.1 ?_
  replace F := F.2
  refine y_isnb dX5_word_15 (Nat.le_of_ble_eq_true rfl) (fun v3_2 ev3_2 => ?_)
  replace F := F v3_2 ev3_2
  show zG _ _ _ _ _ [some (.ref a0), some (.int a1), some (.int v2_1), some (.int v3_2), none, none, none, none] _ _ _
  refine y_iln dX5_word_16 rfl ?_
  refine y_i (v2_1 < (0 : Int32)) dX5_word_17 (t := 38) rfl rfl (fun c9 => ?_) (fun c9 => ?_)
  · replace F := F.1 c9
    refine y_lc dX5_word_38 zl_0 ?_
    exact y_k (t_Nu_word_39  W Ta0 F) ⟨rfl, rfl, rfl, trivial⟩
  · replace F := F.2 c9
    refine y_iln dX5_word_20 rfl ?_
    refine y_aln dX5_word_21 rfl ?_
    refine gf_X5_25 dX5_word_22 rfl (Or.inl Ta0) ?_
    refine y_ii ((zI κ nuLength a0) ≤ v2_1) dX5_word_25 (t := 38) rfl rfl (fun c9 => ?_) (fun c9 => ?_)
    · replace F := F.1 c9
      refine y_lc dX5_word_38 zl_0 ?_
      exact y_k (t_Nu_word_39  W Ta0 F) ⟨rfl, rfl, rfl, trivial⟩
    · replace F := F.2 c9
      refine y_aln dX5_word_28 rfl ?_
      refine gf_X5_13 W dX5_word_29 rfl Ta0 ?_
      refine y_iln dX5_word_32 rfl ?_
      refine y_ald dX5_word_33 (ty_nuLimbs W Ta0) F.1 ?_
      replace F := F.2
      refine y_i2l dX5_word_34 ?_
      refine y_goto dX5_word_35 (t := 39) rfl ?_
      exact y_k (t_Nu_word_39  W Ta0 F) ⟨rfl, rfl, rfl, trivial⟩

theorem Nu_word_run {C : zC} {n0 : Nat} {Q : Int32 → zS → Prop} {a0 : Nat} {a1 : Int32} {κ : zS} (W : zW C n0 κ) (Ta0 : zT κ a0 = 8) (F : w_Nu_word_0 C (zn κ) Q a0 a1 κ) : zRun C 0 mNu_word [.ref a0, .int a1] κ (oI Q noX) := z_run (m_ent _ 6) (t_Nu_word_0 (W.lo (Nat.le_trans W.1.2.1 W.1.2.2) (Nat.le_refl _)) Ta0 F)

theorem dX5_times_0 : decode cX5_times 0 = .ok (.lload_n 1, 1) := by decide +kernel
theorem dX5_times_1 : decode cX5_times 1 = .ok (.lconst 1, 1) := by decide +kernel
theorem dX5_times_2 : decode cX5_times 2 = .ok (.lcmp, 1) := by decide +kernel
theorem dX5_times_3 : decode cX5_times 3 = .ok (.ifCond .ne 4, 3) := by decide +kernel
theorem dX5_times_6 : decode cX5_times 6 = .ok (.return_, 1) := by decide +kernel
theorem dX5_times_7 : decode cX5_times 7 = .ok (.aload_n 0, 1) := by decide +kernel
theorem dX5_times_8 : decode cX5_times 8 = .ok (.aload_n 0, 1) := by decide +kernel
theorem dX5_times_9 : decode cX5_times 9 = .ok (.getfield 25, 3) := by decide +kernel
theorem dX5_times_12 : decode cX5_times 12 = .ok (.iconst 1, 1) := by decide +kernel
theorem dX5_times_13 : decode cX5_times 13 = .ok (.iadd, 1) := by decide +kernel
theorem dX5_times_14 : decode cX5_times 14 = .ok (.invokevirtual 41, 3) := by decide +kernel
theorem dX5_times_17 : decode cX5_times 17 = .ok (.lconst 0, 1) := by decide +kernel
theorem dX5_times_18 : decode cX5_times 18 = .ok (.lstore_n 3, 1) := by decide +kernel
theorem dX5_times_19 : decode cX5_times 19 = .ok (.iconst 0, 1) := by decide +kernel
theorem dX5_times_20 : decode cX5_times 20 = .ok (.istore 5, 2) := by decide +kernel
theorem dX5_times_22 : decode cX5_times 22 = .ok (.iload 5, 2) := by decide +kernel
theorem dX5_times_24 : decode cX5_times 24 = .ok (.aload_n 0, 1) := by decide +kernel
theorem dX5_times_25 : decode cX5_times 25 = .ok (.getfield 25, 3) := by decide +kernel
theorem dX5_times_28 : decode cX5_times 28 = .ok (.if_icmp .ge 43, 3) := by decide +kernel
theorem dX5_times_31 : decode cX5_times 31 = .ok (.aload_n 0, 1) := by decide +kernel
theorem dX5_times_32 : decode cX5_times 32 = .ok (.getfield 13, 3) := by decide +kernel
theorem dX5_times_35 : decode cX5_times 35 = .ok (.iload 5, 2) := by decide +kernel
theorem dX5_times_37 : decode cX5_times 37 = .ok (.iaload, 1) := by decide +kernel
theorem dX5_times_38 : decode cX5_times 38 = .ok (.i2l, 1) := by decide +kernel
theorem dX5_times_39 : decode cX5_times 39 = .ok (.lload_n 1, 1) := by decide +kernel
theorem dX5_times_40 : decode cX5_times 40 = .ok (.lmul, 1) := by decide +kernel
theorem dX5_times_41 : decode cX5_times 41 = .ok (.lload_n 3, 1) := by decide +kernel
theorem dX5_times_42 : decode cX5_times 42 = .ok (.ladd, 1) := by decide +kernel
theorem dX5_times_43 : decode cX5_times 43 = .ok (.lstore 6, 2) := by decide +kernel
theorem dX5_times_45 : decode cX5_times 45 = .ok (.aload_n 0, 1) := by decide +kernel
theorem dX5_times_46 : decode cX5_times 46 = .ok (.getfield 13, 3) := by decide +kernel
theorem dX5_times_49 : decode cX5_times 49 = .ok (.iload 5, 2) := by decide +kernel
theorem dX5_times_51 : decode cX5_times 51 = .ok (.lload 6, 2) := by decide +kernel
theorem dX5_times_53 : decode cX5_times 53 = .ok (.ldc2_w 29, 3) := by decide +kernel
theorem dX5_times_56 : decode cX5_times 56 = .ok (.land, 1) := by decide +kernel
theorem dX5_times_57 : decode cX5_times 57 = .ok (.l2i, 1) := by decide +kernel
theorem dX5_times_58 : decode cX5_times 58 = .ok (.iastore, 1) := by decide +kernel
theorem dX5_times_59 : decode cX5_times 59 = .ok (.lload 6, 2) := by decide +kernel
theorem dX5_times_61 : decode cX5_times 61 = .ok (.bipush 31, 2) := by decide +kernel
theorem dX5_times_63 : decode cX5_times 63 = .ok (.lushr, 1) := by decide +kernel
theorem dX5_times_64 : decode cX5_times 64 = .ok (.lstore_n 3, 1) := by decide +kernel
theorem dX5_times_65 : decode cX5_times 65 = .ok (.iinc 5 1, 3) := by decide +kernel
theorem dX5_times_68 : decode cX5_times 68 = .ok (.goto (-46), 3) := by decide +kernel
theorem dX5_times_71 : decode cX5_times 71 = .ok (.aload_n 0, 1) := by decide +kernel
theorem dX5_times_72 : decode cX5_times 72 = .ok (.getfield 13, 3) := by decide +kernel
theorem dX5_times_75 : decode cX5_times 75 = .ok (.aload_n 0, 1) := by decide +kernel
theorem dX5_times_76 : decode cX5_times 76 = .ok (.getfield 25, 3) := by decide +kernel
theorem dX5_times_79 : decode cX5_times 79 = .ok (.lload_n 3, 1) := by decide +kernel
theorem dX5_times_80 : decode cX5_times 80 = .ok (.l2i, 1) := by decide +kernel
theorem dX5_times_81 : decode cX5_times 81 = .ok (.iastore, 1) := by decide +kernel
theorem dX5_times_82 : decode cX5_times 82 = .ok (.aload_n 0, 1) := by decide +kernel
theorem dX5_times_83 : decode cX5_times 83 = .ok (.dup, 1) := by decide +kernel
theorem dX5_times_84 : decode cX5_times 84 = .ok (.getfield 25, 3) := by decide +kernel
theorem dX5_times_87 : decode cX5_times 87 = .ok (.iconst 1, 1) := by decide +kernel
theorem dX5_times_88 : decode cX5_times 88 = .ok (.iadd, 1) := by decide +kernel
theorem dX5_times_89 : decode cX5_times 89 = .ok (.putfield 25, 3) := by decide +kernel
theorem dX5_times_92 : decode cX5_times 92 = .ok (.aload_n 0, 1) := by decide +kernel
theorem dX5_times_93 : decode cX5_times 93 = .ok (.invokevirtual 45, 3) := by decide +kernel
theorem dX5_times_96 : decode cX5_times 96 = .ok (.return_, 1) := by decide +kernel
def w_Nu_times_22 (C : zC) (n0 : Nat) (Q : zS → Prop)  (a0 : Nat) (a1 : Int64) (a3 : Int64) (a5 : Int32) (κ : zS) : Prop :=
  ∃ I : Nat → Nat → Int64 → Int64 → Int32 → zS → Prop, (∃ n, I n a0 a1 a3 a5 κ) ∧ ∀ n a0 a1 a3 a5 κ, zW C n0 κ → zT κ a0 = 8 → I n a0 a1 a3 a5 κ →
    ((zI κ nuLength a0) ≤ a5 →
      inb (zI κ nuLength a0) (zN κ (zR κ nuLimbs a0)) ∧
      ∀ κ1, κ1 = ua κ (zR κ nuLimbs a0) ((zI κ nuLength a0)).toNatClampNeg (Int64.toInt32 a3) →
      ∀ _ : zW C n0 κ1,
      ∀ κ3, κ3 = ui κ1 nuLength a0 ((zI κ1 nuLength a0) + (1 : Int32)) →
      ∀ _ : zW C n0 κ3,
      ∀ _ : zT κ3 a0 = 8,
      zRun C 0 mNu_trim [.ref a0] κ3 (oV (fun κ4 =>
        ∀ _ : zW C n0 κ4,
        ∀ _ : zM (zn κ3) κ3 κ4,
        Q κ4) noX)) ∧
    (¬ (zI κ nuLength a0) ≤ a5 →
      inb a5 (zN κ (zR κ nuLimbs a0)) ∧
      ∀ v6_8 : Int64, v6_8 = (((Int32.toInt64 (zA κ (zR κ nuLimbs a0) (a5).toNatClampNeg)) * a1) + a3) →
      inb a5 (zN κ (zR κ nuLimbs a0)) ∧
      ∀ κ9, κ9 = ua κ (zR κ nuLimbs a0) (a5).toNatClampNeg (Int64.toInt32 (v6_8 &&& (2147483647 : Int64))) →
      ∀ _ : zW C n0 κ9,
      ∀ v3_10 : Int64, v3_10 = (Int64.toUInt64 v6_8 >>> (Int64.toUInt64 (Int32.toInt64 (31 : Int32)) &&& Int64.toUInt64 63)).toInt64 →
      ∀ v5_11 : Int32, v5_11 = a5 + (1 : Int32) →
      ∃ k < n, I k a0 a1 v3_10 v5_11 κ9)
theorem t_Nu_times_22 {C : zC} {n0 : Nat} {Q : zS → Prop}   {a0 : Nat} {a1 : Int64} {a3 : Int64} {a5 : Int32} {κ : zS} (W : zW C n0 κ) (Ta0 : zT κ a0 = 8) (F : w_Nu_times_22 C n0 Q  a0 a1 a3 a5 κ) : zG C n0 3 mNu_times 22 [some (.ref a0), some (.long a1), none, some (.long a3), none, some (.int a5), none, none] [] κ (oV Q noX) := by
  obtain ⟨I, ⟨m0, hI0⟩, F0⟩ := F
  have key : ∀ n a0 a1 a3 a5 κ, zW C n0 κ → zT κ a0 = 8 → I n a0 a1 a3 a5 κ → zG C n0 3 mNu_times 22 [some (.ref a0), some (.long a1), none, some (.long a3), none, some (.int a5), none, none] [] κ (oV Q noX) := by
    intro n
    induction n using Nat.strongRecOn with
    | _ n ih =>
      intro a0 a1 a3 a5 κ W Ta0 hI
      have F := F0 n a0 a1 a3 a5 κ W Ta0 hI
      clear hI hI0
      refine y_il dX5_times_22 rfl ?_
      refine y_aln dX5_times_24 rfl ?_
      refine gf_X5_25 dX5_times_25 rfl (Or.inl Ta0) ?_
      refine y_ii ((zI κ nuLength a0) ≤ a5) dX5_times_28 (t := 71) rfl rfl (fun c9 => ?_) (fun c9 => ?_)
      · replace F := F.1 c9
        refine y_aln dX5_times_71 rfl ?_
        refine gf_X5_13 W dX5_times_72 rfl Ta0 ?_
        refine y_aln dX5_times_75 rfl ?_
        refine gf_X5_25 dX5_times_76 rfl (Or.inl Ta0) ?_
        refine y_lln dX5_times_79 rfl ?_
        refine y_l2i dX5_times_80 ?_
        refine y_ast W dX5_times_81 (ty_nuLimbs W Ta0) F.1 (fun κ1 eκ1 => ?_)
        replace F := F.2 κ1 eκ1
        have Wκ1 : zW C n0 κ1 := zW_ua W eκ1 (fun h => absurd (h.symm.trans (ty_nuLimbs W Ta0)) (by decide)) (fun h => absurd (h.symm.trans (ty_nuLimbs W Ta0)) (by decide))
        have Mκ1 : zM (zn κ) κ κ1 := by rw [eκ1]; exact zM.of rfl rfl rfl
        replace F := F Wκ1
        refine y_aln dX5_times_82 rfl ?_
        refine y_dup dX5_times_83 rfl ?_
        have h2 := (ztm W Mκ1 Ta0)
        refine gf_X5_25 dX5_times_84 rfl (Or.inl h2) ?_
        refine y_ic dX5_times_87 zi_1 ?_
        refine y_iadd dX5_times_88 ?_
        refine pf_X5_25 Wκ1 dX5_times_89 rfl (Or.inl h2) (fun κ3 eκ3 => ?_)
        replace F := F κ3 eκ3
        have Wκ3 : zW C n0 κ3 := zW_ui Wκ1 eκ3 (fun h => absurd h (by decide))
        have Mκ3 : zM (zn κ1) κ1 κ3 := by rw [eκ3]; exact zM.of rfl rfl rfl
        replace F := F Wκ3
        refine y_aln dX5_times_92 rfl ?_
        have h6 := (ztm Wκ1 Mκ3 h2)
        replace F := F h6
        refine k_X5_45 Wκ3 dX5_times_93 rfl (Nat.le_of_ble_eq_true rfl) (Nat.le_of_ble_eq_true rfl) (Or.inl h6) F (fun  κ4 Wκ4 Mκ4 F => ?_) (fun _ _ h9 => False.elim h9)
        replace F := F Wκ4 Mκ4
        exact y_rv Wκ4 dX5_times_96 rfl F
      · replace F := F.2 c9
        refine y_aln dX5_times_31 rfl ?_
        refine gf_X5_13 W dX5_times_32 rfl Ta0 ?_
        refine y_il dX5_times_35 rfl ?_
        refine y_ald dX5_times_37 (ty_nuLimbs W Ta0) F.1 ?_
        replace F := F.2
        refine y_i2l dX5_times_38 ?_
        refine y_lln dX5_times_39 rfl ?_
        refine y_lmul dX5_times_40 ?_
        refine y_lln dX5_times_41 rfl ?_
        refine y_ladd dX5_times_42 ?_
        refine y_lsb dX5_times_43 (Nat.le_of_ble_eq_true rfl) (fun v6_8 ev6_8 => ?_)
        replace F := F v6_8 ev6_8
        show zG _ _ _ _ _ [some (.ref a0), some (.long a1), none, some (.long a3), none, some (.int a5), some (.long v6_8), none] _ _ _
        refine y_aln dX5_times_45 rfl ?_
        refine gf_X5_13 W dX5_times_46 rfl Ta0 ?_
        refine y_il dX5_times_49 rfl ?_
        refine y_ll dX5_times_51 rfl ?_
        refine y_ldcl dX5_times_53 rfl zcl_X5_29 ?_
        refine y_land dX5_times_56 ?_
        refine y_l2i dX5_times_57 ?_
        refine y_ast W dX5_times_58 (ty_nuLimbs W Ta0) F.1 (fun κ9 eκ9 => ?_)
        replace F := F.2 κ9 eκ9
        have Wκ9 : zW C n0 κ9 := zW_ua W eκ9 (fun h => absurd (h.symm.trans (ty_nuLimbs W Ta0)) (by decide)) (fun h => absurd (h.symm.trans (ty_nuLimbs W Ta0)) (by decide))
        have Mκ9 : zM (zn κ) κ κ9 := by rw [eκ9]; exact zM.of rfl rfl rfl
        replace F := F Wκ9
        refine y_ll dX5_times_59 rfl ?_
        refine y_bi1 dX5_times_61 zb_31 ?_
        refine y_lushr dX5_times_63 ?_
        refine y_lsnb dX5_times_64 (Nat.le_of_ble_eq_true rfl) (fun v3_10 ev3_10 => ?_)
        replace F := F v3_10 ev3_10
        show zG _ _ _ _ _ [some (.ref a0), some (.long a1), none, some (.long v3_10), none, some (.int a5), some (.long v6_8), none] _ _ _
        refine y_incb dX5_times_65 zi_1 rfl (Nat.le_of_ble_eq_true rfl) (fun v5_11 ev5_11 => ?_)
        replace F := F v5_11 ev5_11
        show zG _ _ _ _ _ [some (.ref a0), some (.long a1), none, some (.long v3_10), none, some (.int v5_11), some (.long v6_8), none] _ _ _
        refine y_goto dX5_times_68 (t := 22) rfl ?_
        have h12 := (ztm W Mκ9 Ta0)
        obtain ⟨k, hk, hI⟩ := F
        exact y_k (ih k hk _ _ _ _ _ Wκ9 h12 hI) ⟨rfl, rfl, rfl, rfl, trivial⟩
  exact key m0 a0 a1 a3 a5 κ W Ta0 hI0

def w_Nu_times_0 (C : zC) (n0 : Nat) (Q : zS → Prop)  (a0 : Nat) (a1 : Int64) (κ : zS) : Prop :=
  (¬ (lg_cmp a1 (1 : Int64)) = (0 : Int32) →
    ∀ _ : zT κ a0 = 8,
    zRun C 2 mNu_widen [.ref a0, .int ((zI κ nuLength a0) + (1 : Int32))] κ (oV (fun κ1 =>
      ∀ _ : zW C n0 κ1,
      ∀ _ : zM (zn κ) κ κ1,
      w_Nu_times_22 C n0 Q  a0 a1 (0 : Int64) (0 : Int32) κ1) noX)) ∧
  ((lg_cmp a1 (1 : Int64)) = (0 : Int32) →
    Q κ)
theorem t_Nu_times_0 {C : zC} {n0 : Nat} {Q : zS → Prop}   {a0 : Nat} {a1 : Int64} {κ : zS} (W : zW C n0 κ) (Ta0 : zT κ a0 = 8) (F : w_Nu_times_0 C n0 Q  a0 a1 κ) : zG C n0 3 mNu_times 0 [some (.ref a0), some (.long a1), none, none, none, none, none, none] [] κ (oV Q noX) := by
  unfold w_Nu_times_0 at F
  refine y_lln dX5_times_0 rfl ?_
  refine y_lc dX5_times_1 zl_1 ?_
  refine y_lcmp dX5_times_2 ?_
  refine y_in ((lg_cmp a1 (1 : Int64)) = (0 : Int32)) dX5_times_3 (t := 7) rfl rfl (fun c9 => ?_) (fun c9 => ?_)
  · replace F := F.1 c9
    refine y_aln dX5_times_7 rfl ?_
    refine y_aln dX5_times_8 rfl ?_
    refine gf_X5_25 dX5_times_9 rfl (Or.inl Ta0) ?_
    refine y_ic dX5_times_12 zi_1 ?_
    refine y_iadd dX5_times_13 ?_
    replace F := F Ta0
    refine k_X5_41 W dX5_times_14 rfl (Nat.le_of_ble_eq_true rfl) (Nat.le_of_ble_eq_true rfl) (Or.inl Ta0) F (fun  κ1 Wκ1 Mκ1 F => ?_) (fun _ _ h9 => False.elim h9)
    replace F := F Wκ1 Mκ1
    refine y_lc dX5_times_17 zl_0 ?_
    refine y_lsn dX5_times_18 (Nat.le_of_ble_eq_true rfl) rfl ?_
    show zG _ _ _ _ _ [some (.ref a0), some (.long a1), none, some (.long (0 : Int64)), none, none, none, none] _ _ _
    refine y_ic dX5_times_19 zi_0 ?_
    refine y_is dX5_times_20 (Nat.le_of_ble_eq_true rfl) rfl ?_
    show zG _ _ _ _ _ [some (.ref a0), some (.long a1), none, some (.long (0 : Int64)), none, some (.int (0 : Int32)), none, none] _ _ _
    have h4 := (ztm W Mκ1 Ta0)
    exact y_k (t_Nu_times_22  Wκ1 h4 F) ⟨rfl, rfl, rfl, rfl, trivial⟩
  · replace F := F.2 c9
    exact y_rv W dX5_times_6 rfl F

theorem Nu_times_run {C : zC} {n0 : Nat} {Q : zS → Prop} {a0 : Nat} {a1 : Int64} {κ : zS} (W : zW C n0 κ) (Ta0 : zT κ a0 = 8) (F : w_Nu_times_0 C (zn κ) Q a0 a1 κ) : zRun C 3 mNu_times [.ref a0, .long a1] κ (oV Q noX) := z_run (m_ent _ 5) (t_Nu_times_0 (W.lo (Nat.le_trans W.1.2.1 W.1.2.2) (Nat.le_refl _)) Ta0 F)

theorem dX5_rest_0 : decode cX5_rest 0 = .ok (.lconst 0, 1) := by decide +kernel
theorem dX5_rest_1 : decode cX5_rest 1 = .ok (.lstore_n 2, 1) := by decide +kernel
theorem dX5_rest_2 : decode cX5_rest 2 = .ok (.aload_n 0, 1) := by decide +kernel
theorem dX5_rest_3 : decode cX5_rest 3 = .ok (.getfield 25, 3) := by decide +kernel
theorem dX5_rest_6 : decode cX5_rest 6 = .ok (.iconst 1, 1) := by decide +kernel
theorem dX5_rest_7 : decode cX5_rest 7 = .ok (.isub, 1) := by decide +kernel
theorem dX5_rest_8 : decode cX5_rest 8 = .ok (.istore 4, 2) := by decide +kernel
theorem dX5_rest_10 : decode cX5_rest 10 = .ok (.iload 4, 2) := by decide +kernel
theorem dX5_rest_12 : decode cX5_rest 12 = .ok (.ifCond .lt 30, 3) := by decide +kernel
theorem dX5_rest_15 : decode cX5_rest 15 = .ok (.iload_n 1, 1) := by decide +kernel
theorem dX5_rest_16 : decode cX5_rest 16 = .ok (.ifCond .le 26, 3) := by decide +kernel
theorem dX5_rest_19 : decode cX5_rest 19 = .ok (.lload_n 2, 1) := by decide +kernel
theorem dX5_rest_20 : decode cX5_rest 20 = .ok (.bipush 31, 2) := by decide +kernel
theorem dX5_rest_22 : decode cX5_rest 22 = .ok (.lshl, 1) := by decide +kernel
theorem dX5_rest_23 : decode cX5_rest 23 = .ok (.aload_n 0, 1) := by decide +kernel
theorem dX5_rest_24 : decode cX5_rest 24 = .ok (.getfield 13, 3) := by decide +kernel
theorem dX5_rest_27 : decode cX5_rest 27 = .ok (.iload 4, 2) := by decide +kernel
theorem dX5_rest_29 : decode cX5_rest 29 = .ok (.iaload, 1) := by decide +kernel
theorem dX5_rest_30 : decode cX5_rest 30 = .ok (.i2l, 1) := by decide +kernel
theorem dX5_rest_31 : decode cX5_rest 31 = .ok (.lor, 1) := by decide +kernel
theorem dX5_rest_32 : decode cX5_rest 32 = .ok (.iload_n 1, 1) := by decide +kernel
theorem dX5_rest_33 : decode cX5_rest 33 = .ok (.i2l, 1) := by decide +kernel
theorem dX5_rest_34 : decode cX5_rest 34 = .ok (.lrem, 1) := by decide +kernel
theorem dX5_rest_35 : decode cX5_rest 35 = .ok (.lstore_n 2, 1) := by decide +kernel
theorem dX5_rest_36 : decode cX5_rest 36 = .ok (.iinc 4 (-1), 3) := by decide +kernel
theorem dX5_rest_39 : decode cX5_rest 39 = .ok (.goto (-29), 3) := by decide +kernel
theorem dX5_rest_42 : decode cX5_rest 42 = .ok (.lload_n 2, 1) := by decide +kernel
theorem dX5_rest_43 : decode cX5_rest 43 = .ok (.l2i, 1) := by decide +kernel
theorem dX5_rest_44 : decode cX5_rest 44 = .ok (.ireturn, 1) := by decide +kernel
def w_Nu_rest_10 (C : zC) (n0 : Nat) (Q : Int32 → zS → Prop)  (a0 : Nat) (a1 : Int32) (a2 : Int64) (a4 : Int32) (κ : zS) : Prop :=
  ∃ I : Nat → Nat → Int32 → Int64 → Int32 → zS → Prop, (∃ n, I n a0 a1 a2 a4 κ) ∧ ∀ n a0 a1 a2 a4 κ, zW C n0 κ → zT κ a0 = 8 → I n a0 a1 a2 a4 κ →
    (a4 < (0 : Int32) →
      Q (Int64.toInt32 a2) κ) ∧
    (¬ a4 < (0 : Int32) →
      (a1 ≤ (0 : Int32) →
        Q (Int64.toInt32 a2) κ) ∧
      (¬ a1 ≤ (0 : Int32) →
        inb a4 (zN κ (zR κ nuLimbs a0)) ∧
        ¬ (Int32.toInt64 a1) = 0 ∧
        ∀ v2_1 : Int64, v2_1 = (((a2 <<< (Int32.toInt64 (31 : Int32) &&& 63)) ||| (Int32.toInt64 (zA κ (zR κ nuLimbs a0) (a4).toNatClampNeg))) - ((a2 <<< (Int32.toInt64 (31 : Int32) &&& 63)) ||| (Int32.toInt64 (zA κ (zR κ nuLimbs a0) (a4).toNatClampNeg))) / (Int32.toInt64 a1) * (Int32.toInt64 a1)) →
        ∀ v4_2 : Int32, v4_2 = a4 + (-1 : Int32) →
        ∃ k < n, I k a0 a1 v2_1 v4_2 κ))
theorem t_Nu_rest_10 {C : zC} {n0 : Nat} {Q : Int32 → zS → Prop}   {a0 : Nat} {a1 : Int32} {a2 : Int64} {a4 : Int32} {κ : zS} (W : zW C n0 κ) (Ta0 : zT κ a0 = 8) (F : w_Nu_rest_10 C n0 Q  a0 a1 a2 a4 κ) : zG C n0 0 mNu_rest 10 [some (.ref a0), some (.int a1), some (.long a2), none, some (.int a4)] [] κ (oI Q noX) := by
  obtain ⟨I, ⟨m0, hI0⟩, F0⟩ := F
  have key : ∀ n a0 a1 a2 a4 κ, zW C n0 κ → zT κ a0 = 8 → I n a0 a1 a2 a4 κ → zG C n0 0 mNu_rest 10 [some (.ref a0), some (.int a1), some (.long a2), none, some (.int a4)] [] κ (oI Q noX) := by
    intro n
    induction n using Nat.strongRecOn with
    | _ n ih =>
      intro a0 a1 a2 a4 κ W Ta0 hI
      have F := F0 n a0 a1 a2 a4 κ W Ta0 hI
      clear hI hI0
      refine y_il dX5_rest_10 rfl ?_
      refine y_i (a4 < (0 : Int32)) dX5_rest_12 (t := 42) rfl rfl (fun c9 => ?_) (fun c9 => ?_)
      · replace F := F.1 c9
        refine y_lln dX5_rest_42 rfl ?_
        refine y_l2i dX5_rest_43 ?_
        exact y_ri W dX5_rest_44 rfl in_nar F
      · replace F := F.2 c9
        refine y_iln dX5_rest_15 rfl ?_
        refine y_i (a1 ≤ (0 : Int32)) dX5_rest_16 (t := 42) rfl rfl (fun c9 => ?_) (fun c9 => ?_)
        · replace F := F.1 c9
          refine y_lln dX5_rest_42 rfl ?_
          refine y_l2i dX5_rest_43 ?_
          exact y_ri W dX5_rest_44 rfl in_nar F
        · replace F := F.2 c9
          refine y_lln dX5_rest_19 rfl ?_
          refine y_bi1 dX5_rest_20 zb_31 ?_
          refine y_lshl dX5_rest_22 ?_
          refine y_aln dX5_rest_23 rfl ?_
          refine gf_X5_13 W dX5_rest_24 rfl Ta0 ?_
          refine y_il dX5_rest_27 rfl ?_
          refine y_ald dX5_rest_29 (ty_nuLimbs W Ta0) F.1 ?_
          replace F := F.2
          refine y_i2l dX5_rest_30 ?_
          refine y_lor dX5_rest_31 ?_
          refine y_iln dX5_rest_32 rfl ?_
          refine y_i2l dX5_rest_33 ?_
          refine y_lrem dX5_rest_34 F.1 ?_
          replace F := F.2
          refine y_lsnb dX5_rest_35 (Nat.le_of_ble_eq_true rfl) (fun v2_1 ev2_1 => ?_)
          replace F := F v2_1 ev2_1
          show zG _ _ _ _ _ [some (.ref a0), some (.int a1), some (.long v2_1), none, some (.int a4)] _ _ _
          refine y_incb dX5_rest_36 zi_m1 rfl (Nat.le_of_ble_eq_true rfl) (fun v4_2 ev4_2 => ?_)
          replace F := F v4_2 ev4_2
          show zG _ _ _ _ _ [some (.ref a0), some (.int a1), some (.long v2_1), none, some (.int v4_2)] _ _ _
          refine y_goto dX5_rest_39 (t := 10) rfl ?_
          obtain ⟨k, hk, hI⟩ := F
          exact y_k (ih k hk _ _ _ _ _ W Ta0 hI) ⟨rfl, rfl, rfl, rfl, trivial⟩
  exact key m0 a0 a1 a2 a4 κ W Ta0 hI0

def w_Nu_rest_0 (C : zC) (n0 : Nat) (Q : Int32 → zS → Prop)  (a0 : Nat) (a1 : Int32) (κ : zS) : Prop :=
  ∀ v4_1 : Int32, v4_1 = ((zI κ nuLength a0) - (1 : Int32)) →
  w_Nu_rest_10 C n0 Q  a0 a1 (0 : Int64) v4_1 κ
theorem t_Nu_rest_0 {C : zC} {n0 : Nat} {Q : Int32 → zS → Prop}   {a0 : Nat} {a1 : Int32} {κ : zS} (W : zW C n0 κ) (Ta0 : zT κ a0 = 8) (F : w_Nu_rest_0 C n0 Q  a0 a1 κ) : zG C n0 0 mNu_rest 0 [some (.ref a0), some (.int a1), none, none, none] [] κ (oI Q noX) := by
  unfold w_Nu_rest_0 at F
  refine y_lc dX5_rest_0 zl_0 ?_
  refine y_lsn dX5_rest_1 (Nat.le_of_ble_eq_true rfl) rfl ?_
  show zG _ _ _ _ _ [some (.ref a0), some (.int a1), some (.long (0 : Int64)), none, none] _ _ _
  refine y_aln dX5_rest_2 rfl ?_
  refine gf_X5_25 dX5_rest_3 rfl (Or.inl Ta0) ?_
  refine y_ic dX5_rest_6 zi_1 ?_
  refine y_isub dX5_rest_7 ?_
  refine y_isb dX5_rest_8 (Nat.le_of_ble_eq_true rfl) (fun v4_1 ev4_1 => ?_)
  replace F := F v4_1 ev4_1
  show zG _ _ _ _ _ [some (.ref a0), some (.int a1), some (.long (0 : Int64)), none, some (.int v4_1)] _ _ _
  exact y_k (t_Nu_rest_10  W Ta0 F) ⟨rfl, rfl, rfl, rfl, trivial⟩

theorem Nu_rest_run {C : zC} {n0 : Nat} {Q : Int32 → zS → Prop} {a0 : Nat} {a1 : Int32} {κ : zS} (W : zW C n0 κ) (Ta0 : zT κ a0 = 8) (F : w_Nu_rest_0 C (zn κ) Q a0 a1 κ) : zRun C 0 mNu_rest [.ref a0, .int a1] κ (oI Q noX) := z_run (m_ent _ 3) (t_Nu_rest_0 (W.lo (Nat.le_trans W.1.2.1 W.1.2.2) (Nat.le_refl _)) Ta0 F)

theorem dX5_plus_0 : decode cX5_plus 0 = .ok (.aload_n 0, 1) := by decide +kernel
theorem dX5_plus_1 : decode cX5_plus 1 = .ok (.getfield 25, 3) := by decide +kernel
theorem dX5_plus_4 : decode cX5_plus 4 = .ok (.aload_n 1, 1) := by decide +kernel
theorem dX5_plus_5 : decode cX5_plus 5 = .ok (.getfield 25, 3) := by decide +kernel
theorem dX5_plus_8 : decode cX5_plus 8 = .ok (.invokestatic 7, 3) := by decide +kernel
theorem dX5_plus_11 : decode cX5_plus 11 = .ok (.istore_n 2, 1) := by decide +kernel
theorem dX5_plus_12 : decode cX5_plus 12 = .ok (.aload_n 0, 1) := by decide +kernel
theorem dX5_plus_13 : decode cX5_plus 13 = .ok (.iload_n 2, 1) := by decide +kernel
theorem dX5_plus_14 : decode cX5_plus 14 = .ok (.iconst 1, 1) := by decide +kernel
theorem dX5_plus_15 : decode cX5_plus 15 = .ok (.iadd, 1) := by decide +kernel
theorem dX5_plus_16 : decode cX5_plus 16 = .ok (.invokevirtual 41, 3) := by decide +kernel
theorem dX5_plus_19 : decode cX5_plus 19 = .ok (.aload_n 0, 1) := by decide +kernel
theorem dX5_plus_20 : decode cX5_plus 20 = .ok (.getfield 13, 3) := by decide +kernel
theorem dX5_plus_23 : decode cX5_plus 23 = .ok (.aload_n 0, 1) := by decide +kernel
theorem dX5_plus_24 : decode cX5_plus 24 = .ok (.getfield 25, 3) := by decide +kernel
theorem dX5_plus_27 : decode cX5_plus 27 = .ok (.iload_n 2, 1) := by decide +kernel
theorem dX5_plus_28 : decode cX5_plus 28 = .ok (.iconst 1, 1) := by decide +kernel
theorem dX5_plus_29 : decode cX5_plus 29 = .ok (.iadd, 1) := by decide +kernel
theorem dX5_plus_30 : decode cX5_plus 30 = .ok (.iconst 0, 1) := by decide +kernel
theorem dX5_plus_31 : decode cX5_plus 31 = .ok (.invokestatic 48, 3) := by decide +kernel
theorem dX5_plus_34 : decode cX5_plus 34 = .ok (.iconst 0, 1) := by decide +kernel
theorem dX5_plus_35 : decode cX5_plus 35 = .ok (.istore_n 3, 1) := by decide +kernel
theorem dX5_plus_36 : decode cX5_plus 36 = .ok (.iconst 0, 1) := by decide +kernel
theorem dX5_plus_37 : decode cX5_plus 37 = .ok (.istore 4, 2) := by decide +kernel
theorem dX5_plus_39 : decode cX5_plus 39 = .ok (.iload 4, 2) := by decide +kernel
theorem dX5_plus_41 : decode cX5_plus 41 = .ok (.iload_n 2, 1) := by decide +kernel
theorem dX5_plus_42 : decode cX5_plus 42 = .ok (.if_icmp .ge 65, 3) := by decide +kernel
theorem dX5_plus_45 : decode cX5_plus 45 = .ok (.aload_n 0, 1) := by decide +kernel
theorem dX5_plus_46 : decode cX5_plus 46 = .ok (.getfield 13, 3) := by decide +kernel
theorem dX5_plus_49 : decode cX5_plus 49 = .ok (.iload 4, 2) := by decide +kernel
theorem dX5_plus_51 : decode cX5_plus 51 = .ok (.iaload, 1) := by decide +kernel
theorem dX5_plus_52 : decode cX5_plus 52 = .ok (.i2l, 1) := by decide +kernel
theorem dX5_plus_53 : decode cX5_plus 53 = .ok (.iload 4, 2) := by decide +kernel
theorem dX5_plus_55 : decode cX5_plus 55 = .ok (.aload_n 1, 1) := by decide +kernel
theorem dX5_plus_56 : decode cX5_plus 56 = .ok (.getfield 25, 3) := by decide +kernel
theorem dX5_plus_59 : decode cX5_plus 59 = .ok (.if_icmp .ge 13, 3) := by decide +kernel
theorem dX5_plus_62 : decode cX5_plus 62 = .ok (.aload_n 1, 1) := by decide +kernel
theorem dX5_plus_63 : decode cX5_plus 63 = .ok (.getfield 13, 3) := by decide +kernel
theorem dX5_plus_66 : decode cX5_plus 66 = .ok (.iload 4, 2) := by decide +kernel
theorem dX5_plus_68 : decode cX5_plus 68 = .ok (.iaload, 1) := by decide +kernel
theorem dX5_plus_69 : decode cX5_plus 69 = .ok (.goto 4, 3) := by decide +kernel
theorem dX5_plus_72 : decode cX5_plus 72 = .ok (.iconst 0, 1) := by decide +kernel
theorem dX5_plus_73 : decode cX5_plus 73 = .ok (.i2l, 1) := by decide +kernel
theorem dX5_plus_74 : decode cX5_plus 74 = .ok (.ladd, 1) := by decide +kernel
theorem dX5_plus_75 : decode cX5_plus 75 = .ok (.iload_n 3, 1) := by decide +kernel
theorem dX5_plus_76 : decode cX5_plus 76 = .ok (.i2l, 1) := by decide +kernel
theorem dX5_plus_77 : decode cX5_plus 77 = .ok (.ladd, 1) := by decide +kernel
theorem dX5_plus_78 : decode cX5_plus 78 = .ok (.lstore 5, 2) := by decide +kernel
theorem dX5_plus_80 : decode cX5_plus 80 = .ok (.aload_n 0, 1) := by decide +kernel
theorem dX5_plus_81 : decode cX5_plus 81 = .ok (.getfield 13, 3) := by decide +kernel
theorem dX5_plus_84 : decode cX5_plus 84 = .ok (.iload 4, 2) := by decide +kernel
theorem dX5_plus_86 : decode cX5_plus 86 = .ok (.lload 5, 2) := by decide +kernel
theorem dX5_plus_88 : decode cX5_plus 88 = .ok (.ldc2_w 29, 3) := by decide +kernel
theorem dX5_plus_91 : decode cX5_plus 91 = .ok (.land, 1) := by decide +kernel
theorem dX5_plus_92 : decode cX5_plus 92 = .ok (.l2i, 1) := by decide +kernel
theorem dX5_plus_93 : decode cX5_plus 93 = .ok (.iastore, 1) := by decide +kernel
theorem dX5_plus_94 : decode cX5_plus 94 = .ok (.lload 5, 2) := by decide +kernel
theorem dX5_plus_96 : decode cX5_plus 96 = .ok (.bipush 31, 2) := by decide +kernel
theorem dX5_plus_98 : decode cX5_plus 98 = .ok (.lushr, 1) := by decide +kernel
theorem dX5_plus_99 : decode cX5_plus 99 = .ok (.l2i, 1) := by decide +kernel
theorem dX5_plus_100 : decode cX5_plus 100 = .ok (.istore_n 3, 1) := by decide +kernel
theorem dX5_plus_101 : decode cX5_plus 101 = .ok (.iinc 4 1, 3) := by decide +kernel
theorem dX5_plus_104 : decode cX5_plus 104 = .ok (.goto (-65), 3) := by decide +kernel
theorem dX5_plus_107 : decode cX5_plus 107 = .ok (.aload_n 0, 1) := by decide +kernel
theorem dX5_plus_108 : decode cX5_plus 108 = .ok (.getfield 13, 3) := by decide +kernel
theorem dX5_plus_111 : decode cX5_plus 111 = .ok (.iload_n 2, 1) := by decide +kernel
theorem dX5_plus_112 : decode cX5_plus 112 = .ok (.iload_n 3, 1) := by decide +kernel
theorem dX5_plus_113 : decode cX5_plus 113 = .ok (.iastore, 1) := by decide +kernel
theorem dX5_plus_114 : decode cX5_plus 114 = .ok (.aload_n 0, 1) := by decide +kernel
theorem dX5_plus_115 : decode cX5_plus 115 = .ok (.iload_n 2, 1) := by decide +kernel
theorem dX5_plus_116 : decode cX5_plus 116 = .ok (.iconst 1, 1) := by decide +kernel
theorem dX5_plus_117 : decode cX5_plus 117 = .ok (.iadd, 1) := by decide +kernel
theorem dX5_plus_118 : decode cX5_plus 118 = .ok (.putfield 25, 3) := by decide +kernel
theorem dX5_plus_121 : decode cX5_plus 121 = .ok (.aload_n 0, 1) := by decide +kernel
theorem dX5_plus_122 : decode cX5_plus 122 = .ok (.invokevirtual 45, 3) := by decide +kernel
theorem dX5_plus_125 : decode cX5_plus 125 = .ok (.return_, 1) := by decide +kernel
def w_Nu_plus_73 (C : zC) (n0 : Nat) (Q : zS → Prop) (B39 : Nat → Nat → Int32 → Int32 → Int32 → zS → Prop) (a0 : Nat) (a1 : Nat) (a2 : Int32) (a3 : Int32) (a4 : Int32) (s0 : Int64) (s1 : Int32) (κ : zS) : Prop :=
  ∀ v5_1 : Int64, v5_1 = ((s0 + (Int32.toInt64 s1)) + (Int32.toInt64 a3)) →
  inb a4 (zN κ (zR κ nuLimbs a0)) ∧
  ∀ κ2, κ2 = ua κ (zR κ nuLimbs a0) (a4).toNatClampNeg (Int64.toInt32 (v5_1 &&& (2147483647 : Int64))) →
  ∀ _ : zW C n0 κ2,
  ∀ v3_3 : Int32, v3_3 = (Int64.toInt32 (Int64.toUInt64 v5_1 >>> (Int64.toUInt64 (Int32.toInt64 (31 : Int32)) &&& Int64.toUInt64 63)).toInt64) →
  ∀ v4_4 : Int32, v4_4 = a4 + (1 : Int32) →
  B39 a0 a1 a2 v3_3 v4_4 κ2
theorem t_Nu_plus_73 {C : zC} {n0 : Nat} {Q : zS → Prop} {B39 : Nat → Nat → Int32 → Int32 → Int32 → zS → Prop} (hB39 : ∀ a0' a1' a2' a3' a4' τ, zW C n0 τ → zT τ a0' = 8 → zT τ a1' = 8 → B39 a0' a1' a2' a3' a4' τ → zG C n0 3 mNu_plus 39 [some (.ref a0'), some (.ref a1'), some (.int a2'), some (.int a3'), some (.int a4'), none, none] [] τ (oV Q noX)) {a0 : Nat} {a1 : Nat} {a2 : Int32} {a3 : Int32} {a4 : Int32} {s0 : Int64} {s1 : Int32} {κ : zS} (W : zW C n0 κ) (Ta0 : zT κ a0 = 8) (Ta1 : zT κ a1 = 8) (F : w_Nu_plus_73 C n0 Q B39 a0 a1 a2 a3 a4 s0 s1 κ) : zG C n0 3 mNu_plus 73 [some (.ref a0), some (.ref a1), some (.int a2), some (.int a3), some (.int a4), none, none] [.int s1, .long s0] κ (oV Q noX) := by
  unfold w_Nu_plus_73 at F
  refine y_i2l dX5_plus_73 ?_
  refine y_ladd dX5_plus_74 ?_
  refine y_iln dX5_plus_75 rfl ?_
  refine y_i2l dX5_plus_76 ?_
  refine y_ladd dX5_plus_77 ?_
  refine y_lsb dX5_plus_78 (Nat.le_of_ble_eq_true rfl) (fun v5_1 ev5_1 => ?_)
  replace F := F v5_1 ev5_1
  show zG _ _ _ _ _ [some (.ref a0), some (.ref a1), some (.int a2), some (.int a3), some (.int a4), some (.long v5_1), none] _ _ _
  refine y_aln dX5_plus_80 rfl ?_
  refine gf_X5_13 W dX5_plus_81 rfl Ta0 ?_
  refine y_il dX5_plus_84 rfl ?_
  refine y_ll dX5_plus_86 rfl ?_
  refine y_ldcl dX5_plus_88 rfl zcl_X5_29 ?_
  refine y_land dX5_plus_91 ?_
  refine y_l2i dX5_plus_92 ?_
  refine y_ast W dX5_plus_93 (ty_nuLimbs W Ta0) F.1 (fun κ2 eκ2 => ?_)
  replace F := F.2 κ2 eκ2
  have Wκ2 : zW C n0 κ2 := zW_ua W eκ2 (fun h => absurd (h.symm.trans (ty_nuLimbs W Ta0)) (by decide)) (fun h => absurd (h.symm.trans (ty_nuLimbs W Ta0)) (by decide))
  have Mκ2 : zM (zn κ) κ κ2 := by rw [eκ2]; exact zM.of rfl rfl rfl
  replace F := F Wκ2
  refine y_ll dX5_plus_94 rfl ?_
  refine y_bi1 dX5_plus_96 zb_31 ?_
  refine y_lushr dX5_plus_98 ?_
  refine y_l2i dX5_plus_99 ?_
  refine y_isnb dX5_plus_100 (Nat.le_of_ble_eq_true rfl) (fun v3_3 ev3_3 => ?_)
  replace F := F v3_3 ev3_3
  show zG _ _ _ _ _ [some (.ref a0), some (.ref a1), some (.int a2), some (.int v3_3), some (.int a4), some (.long v5_1), none] _ _ _
  refine y_incb dX5_plus_101 zi_1 rfl (Nat.le_of_ble_eq_true rfl) (fun v4_4 ev4_4 => ?_)
  replace F := F v4_4 ev4_4
  show zG _ _ _ _ _ [some (.ref a0), some (.ref a1), some (.int a2), some (.int v3_3), some (.int v4_4), some (.long v5_1), none] _ _ _
  refine y_goto dX5_plus_104 (t := 39) rfl ?_
  have h5 := (ztm W Mκ2 Ta0)
  have h6 := (ztm W Mκ2 Ta1)
  exact y_k (hB39 _ _ _ _ _ _ Wκ2 h5 h6 F) ⟨rfl, rfl, rfl, rfl, rfl, trivial⟩

def w_Nu_plus_39 (C : zC) (n0 : Nat) (Q : zS → Prop)  (a0 : Nat) (a1 : Nat) (a2 : Int32) (a3 : Int32) (a4 : Int32) (κ : zS) : Prop :=
  ∃ I : Nat → Nat → Nat → Int32 → Int32 → Int32 → zS → Prop, (∃ n, I n a0 a1 a2 a3 a4 κ) ∧ ∀ n a0 a1 a2 a3 a4 κ, zW C n0 κ → zT κ a0 = 8 → zT κ a1 = 8 → I n a0 a1 a2 a3 a4 κ →
    (a2 ≤ a4 →
      inb a2 (zN κ (zR κ nuLimbs a0)) ∧
      ∀ κ1, κ1 = ua κ (zR κ nuLimbs a0) (a2).toNatClampNeg a3 →
      ∀ _ : zW C n0 κ1,
      ∀ κ2, κ2 = ui κ1 nuLength a0 (a2 + (1 : Int32)) →
      ∀ _ : zW C n0 κ2,
      ∀ _ : zT κ2 a0 = 8,
      zRun C 0 mNu_trim [.ref a0] κ2 (oV (fun κ4 =>
        ∀ _ : zW C n0 κ4,
        ∀ _ : zM (zn κ2) κ2 κ4,
        Q κ4) noX)) ∧
    (¬ a2 ≤ a4 →
      inb a4 (zN κ (zR κ nuLimbs a0)) ∧
      ((zI κ nuLength a1) ≤ a4 →
        w_Nu_plus_73 C n0 Q (fun a0' a1' a2' a3' a4' τ => ∃ k < n, I k a0' a1' a2' a3' a4' τ) a0 a1 a2 a3 a4 (Int32.toInt64 (zA κ (zR κ nuLimbs a0) (a4).toNatClampNeg)) (0 : Int32) κ) ∧
      (¬ (zI κ nuLength a1) ≤ a4 →
        inb a4 (zN κ (zR κ nuLimbs a1)) ∧
        w_Nu_plus_73 C n0 Q (fun a0' a1' a2' a3' a4' τ => ∃ k < n, I k a0' a1' a2' a3' a4' τ) a0 a1 a2 a3 a4 (Int32.toInt64 (zA κ (zR κ nuLimbs a0) (a4).toNatClampNeg)) (zA κ (zR κ nuLimbs a1) (a4).toNatClampNeg) κ))
theorem t_Nu_plus_39 {C : zC} {n0 : Nat} {Q : zS → Prop}   {a0 : Nat} {a1 : Nat} {a2 : Int32} {a3 : Int32} {a4 : Int32} {κ : zS} (W : zW C n0 κ) (Ta0 : zT κ a0 = 8) (Ta1 : zT κ a1 = 8) (F : w_Nu_plus_39 C n0 Q  a0 a1 a2 a3 a4 κ) : zG C n0 3 mNu_plus 39 [some (.ref a0), some (.ref a1), some (.int a2), some (.int a3), some (.int a4), none, none] [] κ (oV Q noX) := by
  obtain ⟨I, ⟨m0, hI0⟩, F0⟩ := F
  have key : ∀ n a0 a1 a2 a3 a4 κ, zW C n0 κ → zT κ a0 = 8 → zT κ a1 = 8 → I n a0 a1 a2 a3 a4 κ → zG C n0 3 mNu_plus 39 [some (.ref a0), some (.ref a1), some (.int a2), some (.int a3), some (.int a4), none, none] [] κ (oV Q noX) := by
    intro n
    induction n using Nat.strongRecOn with
    | _ n ih =>
      intro a0 a1 a2 a3 a4 κ W Ta0 Ta1 hI
      have F := F0 n a0 a1 a2 a3 a4 κ W Ta0 Ta1 hI
      clear hI hI0
      refine y_il dX5_plus_39 rfl ?_
      refine y_iln dX5_plus_41 rfl ?_
      refine y_ii (a2 ≤ a4) dX5_plus_42 (t := 107) rfl rfl (fun c9 => ?_) (fun c9 => ?_)
      · replace F := F.1 c9
        refine y_aln dX5_plus_107 rfl ?_
        refine gf_X5_13 W dX5_plus_108 rfl Ta0 ?_
        refine y_iln dX5_plus_111 rfl ?_
        refine y_iln dX5_plus_112 rfl ?_
        refine y_ast W dX5_plus_113 (ty_nuLimbs W Ta0) F.1 (fun κ1 eκ1 => ?_)
        replace F := F.2 κ1 eκ1
        have Wκ1 : zW C n0 κ1 := zW_ua W eκ1 (fun h => absurd (h.symm.trans (ty_nuLimbs W Ta0)) (by decide)) (fun h => absurd (h.symm.trans (ty_nuLimbs W Ta0)) (by decide))
        have Mκ1 : zM (zn κ) κ κ1 := by rw [eκ1]; exact zM.of rfl rfl rfl
        replace F := F Wκ1
        refine y_aln dX5_plus_114 rfl ?_
        refine y_iln dX5_plus_115 rfl ?_
        refine y_ic dX5_plus_116 zi_1 ?_
        refine y_iadd dX5_plus_117 ?_
        have h3 := (ztm W Mκ1 Ta0)
        refine pf_X5_25 Wκ1 dX5_plus_118 rfl (Or.inl h3) (fun κ2 eκ2 => ?_)
        replace F := F κ2 eκ2
        have Wκ2 : zW C n0 κ2 := zW_ui Wκ1 eκ2 (fun h => absurd h (by decide))
        have Mκ2 : zM (zn κ1) κ1 κ2 := by rw [eκ2]; exact zM.of rfl rfl rfl
        replace F := F Wκ2
        refine y_aln dX5_plus_121 rfl ?_
        have h6 := (ztm Wκ1 Mκ2 h3)
        replace F := F h6
        refine k_X5_45 Wκ2 dX5_plus_122 rfl (Nat.le_of_ble_eq_true rfl) (Nat.le_of_ble_eq_true rfl) (Or.inl h6) F (fun  κ4 Wκ4 Mκ4 F => ?_) (fun _ _ h9 => False.elim h9)
        replace F := F Wκ4 Mκ4
        exact y_rv Wκ4 dX5_plus_125 rfl F
      · replace F := F.2 c9
        refine y_aln dX5_plus_45 rfl ?_
        refine gf_X5_13 W dX5_plus_46 rfl Ta0 ?_
        refine y_il dX5_plus_49 rfl ?_
        refine y_ald dX5_plus_51 (ty_nuLimbs W Ta0) F.1 ?_
        replace F := F.2
        refine y_i2l dX5_plus_52 ?_
        refine y_il dX5_plus_53 rfl ?_
        refine y_aln dX5_plus_55 rfl ?_
        refine gf_X5_25 dX5_plus_56 rfl (Or.inl Ta1) ?_
        refine y_ii ((zI κ nuLength a1) ≤ a4) dX5_plus_59 (t := 72) rfl rfl (fun c9 => ?_) (fun c9 => ?_)
        · replace F := F.1 c9
          refine y_ic dX5_plus_72 zi_0 ?_
          exact y_k (t_Nu_plus_73 (fun a0' a1' a2' a3' a4' τ w9 f09 f19 hb => by obtain ⟨k, hk, hI⟩ := hb; exact ih k hk a0' a1' a2' a3' a4' τ w9 f09 f19 hI) W Ta0 Ta1 F) ⟨rfl, rfl, rfl, rfl, rfl, trivial⟩
        · replace F := F.2 c9
          refine y_aln dX5_plus_62 rfl ?_
          refine gf_X5_13 W dX5_plus_63 rfl Ta1 ?_
          refine y_il dX5_plus_66 rfl ?_
          refine y_ald dX5_plus_68 (ty_nuLimbs W Ta1) F.1 ?_
          replace F := F.2
          refine y_goto dX5_plus_69 (t := 73) rfl ?_
          exact y_k (t_Nu_plus_73 (fun a0' a1' a2' a3' a4' τ w9 f09 f19 hb => by obtain ⟨k, hk, hI⟩ := hb; exact ih k hk a0' a1' a2' a3' a4' τ w9 f09 f19 hI) W Ta0 Ta1 F) ⟨rfl, rfl, rfl, rfl, rfl, trivial⟩
  exact key m0 a0 a1 a2 a3 a4 κ W Ta0 Ta1 hI0

def w_Nu_plus_0 (C : zC) (n0 : Nat) (Q : zS → Prop)  (a0 : Nat) (a1 : Nat) (κ : zS) : Prop :=
  ∀ v2_1 : Int32, v2_1 = (if (zI κ nuLength a0) < (zI κ nuLength a1) then (zI κ nuLength a1) else (zI κ nuLength a0)) →
  ∀ _ : zT κ a0 = 8,
  zRun C 2 mNu_widen [.ref a0, .int (v2_1 + (1 : Int32))] κ (oV (fun κ2 =>
    ∀ _ : zW C n0 κ2,
    ∀ _ : zM (zn κ) κ κ2,
    ∀ _ : zT κ2 (zR κ2 nuLimbs a0) = 20,
    zRun C 1 mAr_fill4 [.ref (zR κ2 nuLimbs a0), .int (zI κ2 nuLength a0), .int (v2_1 + (1 : Int32)), .int (0 : Int32)] κ2 (oV (fun κ6 =>
      ∀ _ : zW C n0 κ6,
      ∀ _ : zM (zn κ2) κ2 κ6,
      w_Nu_plus_39 C n0 Q  a0 a1 v2_1 (0 : Int32) (0 : Int32) κ6) noX)) noX)
theorem t_Nu_plus_0 {C : zC} {n0 : Nat} {Q : zS → Prop}   {a0 : Nat} {a1 : Nat} {κ : zS} (W : zW C n0 κ) (Ta0 : zT κ a0 = 8) (Ta1 : zT κ a1 = 8) (F : w_Nu_plus_0 C n0 Q  a0 a1 κ) : zG C n0 3 mNu_plus 0 [some (.ref a0), some (.ref a1), none, none, none, none, none] [] κ (oV Q noX) := by
  unfold w_Nu_plus_0 at F
  refine y_aln dX5_plus_0 rfl ?_
  refine gf_X5_25 dX5_plus_1 rfl (Or.inl Ta0) ?_
  refine y_aln dX5_plus_4 rfl ?_
  refine gf_X5_25 dX5_plus_5 rfl (Or.inl Ta1) ?_
  refine y_max dX5_plus_8 rfl zbi_X5_7 (Nat.le_of_ble_eq_true rfl) (Nat.le_of_ble_eq_true rfl) ?_
  refine y_isnb dX5_plus_11 (Nat.le_of_ble_eq_true rfl) (fun v2_1 ev2_1 => ?_)
  replace F := F v2_1 ev2_1
  show zG _ _ _ _ _ [some (.ref a0), some (.ref a1), some (.int v2_1), none, none, none, none] _ _ _
  refine y_aln dX5_plus_12 rfl ?_
  refine y_iln dX5_plus_13 rfl ?_
  refine y_ic dX5_plus_14 zi_1 ?_
  refine y_iadd dX5_plus_15 ?_
  replace F := F Ta0
  refine k_X5_41 W dX5_plus_16 rfl (Nat.le_of_ble_eq_true rfl) (Nat.le_of_ble_eq_true rfl) (Or.inl Ta0) F (fun  κ2 Wκ2 Mκ2 F => ?_) (fun _ _ h9 => False.elim h9)
  replace F := F Wκ2 Mκ2
  refine y_aln dX5_plus_19 rfl ?_
  have h5 := (ztm W Mκ2 Ta0)
  refine gf_X5_13 Wκ2 dX5_plus_20 rfl h5 ?_
  refine y_aln dX5_plus_23 rfl ?_
  refine gf_X5_25 dX5_plus_24 rfl (Or.inl h5) ?_
  refine y_iln dX5_plus_27 rfl ?_
  refine y_ic dX5_plus_28 zi_1 ?_
  refine y_iadd dX5_plus_29 ?_
  refine y_ic dX5_plus_30 zi_0 ?_
  replace F := F (ty_nuLimbs Wκ2 h5)
  refine k_X5_48 Wκ2 dX5_plus_31 rfl (Nat.le_of_ble_eq_true rfl) (Nat.le_of_ble_eq_true rfl)  F (fun  κ6 Wκ6 Mκ6 F => ?_) (fun _ _ h9 => False.elim h9)
  replace F := F Wκ6 Mκ6
  refine y_ic dX5_plus_34 zi_0 ?_
  refine y_isn dX5_plus_35 (Nat.le_of_ble_eq_true rfl) rfl ?_
  show zG _ _ _ _ _ [some (.ref a0), some (.ref a1), some (.int v2_1), some (.int (0 : Int32)), none, none, none] _ _ _
  refine y_ic dX5_plus_36 zi_0 ?_
  refine y_is dX5_plus_37 (Nat.le_of_ble_eq_true rfl) rfl ?_
  show zG _ _ _ _ _ [some (.ref a0), some (.ref a1), some (.int v2_1), some (.int (0 : Int32)), some (.int (0 : Int32)), none, none] _ _ _
  have h9 := (ztm Wκ2 Mκ6 h5)
  have h10 := (ztm Wκ2 Mκ6 (ztm W Mκ2 Ta1))
  exact y_k (t_Nu_plus_39  Wκ6 h9 h10 F) ⟨rfl, rfl, rfl, rfl, rfl, trivial⟩

theorem Nu_plus_run {C : zC} {n0 : Nat} {Q : zS → Prop} {a0 : Nat} {a1 : Nat} {κ : zS} (W : zW C n0 κ) (Ta0 : zT κ a0 = 8) (Ta1 : zT κ a1 = 8) (F : w_Nu_plus_0 C (zn κ) Q a0 a1 κ) : zRun C 3 mNu_plus [.ref a0, .ref a1] κ (oV Q noX) := z_run (m_ent _ 5) (t_Nu_plus_0 (W.lo (Nat.le_trans W.1.2.1 W.1.2.2) (Nat.le_refl _)) Ta0 Ta1 F)

theorem dX5_minus_0 : decode cX5_minus 0 = .ok (.iconst 0, 1) := by decide +kernel
theorem dX5_minus_1 : decode cX5_minus 1 = .ok (.istore_n 2, 1) := by decide +kernel
theorem dX5_minus_2 : decode cX5_minus 2 = .ok (.iconst 0, 1) := by decide +kernel
theorem dX5_minus_3 : decode cX5_minus 3 = .ok (.istore_n 3, 1) := by decide +kernel
theorem dX5_minus_4 : decode cX5_minus 4 = .ok (.iload_n 3, 1) := by decide +kernel
theorem dX5_minus_5 : decode cX5_minus 5 = .ok (.aload_n 0, 1) := by decide +kernel
theorem dX5_minus_6 : decode cX5_minus 6 = .ok (.getfield 25, 3) := by decide +kernel
theorem dX5_minus_9 : decode cX5_minus 9 = .ok (.if_icmp .ge 60, 3) := by decide +kernel
theorem dX5_minus_12 : decode cX5_minus 12 = .ok (.aload_n 0, 1) := by decide +kernel
theorem dX5_minus_13 : decode cX5_minus 13 = .ok (.getfield 13, 3) := by decide +kernel
theorem dX5_minus_16 : decode cX5_minus 16 = .ok (.iload_n 3, 1) := by decide +kernel
theorem dX5_minus_17 : decode cX5_minus 17 = .ok (.iaload, 1) := by decide +kernel
theorem dX5_minus_18 : decode cX5_minus 18 = .ok (.iload_n 3, 1) := by decide +kernel
theorem dX5_minus_19 : decode cX5_minus 19 = .ok (.aload_n 1, 1) := by decide +kernel
theorem dX5_minus_20 : decode cX5_minus 20 = .ok (.getfield 25, 3) := by decide +kernel
theorem dX5_minus_23 : decode cX5_minus 23 = .ok (.if_icmp .ge 12, 3) := by decide +kernel
theorem dX5_minus_26 : decode cX5_minus 26 = .ok (.aload_n 1, 1) := by decide +kernel
theorem dX5_minus_27 : decode cX5_minus 27 = .ok (.getfield 13, 3) := by decide +kernel
theorem dX5_minus_30 : decode cX5_minus 30 = .ok (.iload_n 3, 1) := by decide +kernel
theorem dX5_minus_31 : decode cX5_minus 31 = .ok (.iaload, 1) := by decide +kernel
theorem dX5_minus_32 : decode cX5_minus 32 = .ok (.goto 4, 3) := by decide +kernel
theorem dX5_minus_35 : decode cX5_minus 35 = .ok (.iconst 0, 1) := by decide +kernel
theorem dX5_minus_36 : decode cX5_minus 36 = .ok (.isub, 1) := by decide +kernel
theorem dX5_minus_37 : decode cX5_minus 37 = .ok (.iload_n 2, 1) := by decide +kernel
theorem dX5_minus_38 : decode cX5_minus 38 = .ok (.isub, 1) := by decide +kernel
theorem dX5_minus_39 : decode cX5_minus 39 = .ok (.istore 4, 2) := by decide +kernel
theorem dX5_minus_41 : decode cX5_minus 41 = .ok (.iload 4, 2) := by decide +kernel
theorem dX5_minus_43 : decode cX5_minus 43 = .ok (.ifCond .ge 7, 3) := by decide +kernel
theorem dX5_minus_46 : decode cX5_minus 46 = .ok (.iconst 1, 1) := by decide +kernel
theorem dX5_minus_47 : decode cX5_minus 47 = .ok (.goto 4, 3) := by decide +kernel
theorem dX5_minus_50 : decode cX5_minus 50 = .ok (.iconst 0, 1) := by decide +kernel
theorem dX5_minus_51 : decode cX5_minus 51 = .ok (.istore_n 2, 1) := by decide +kernel
theorem dX5_minus_52 : decode cX5_minus 52 = .ok (.aload_n 0, 1) := by decide +kernel
theorem dX5_minus_53 : decode cX5_minus 53 = .ok (.getfield 13, 3) := by decide +kernel
theorem dX5_minus_56 : decode cX5_minus 56 = .ok (.iload_n 3, 1) := by decide +kernel
theorem dX5_minus_57 : decode cX5_minus 57 = .ok (.iload 4, 2) := by decide +kernel
theorem dX5_minus_59 : decode cX5_minus 59 = .ok (.ldc 52, 2) := by decide +kernel
theorem dX5_minus_61 : decode cX5_minus 61 = .ok (.iand, 1) := by decide +kernel
theorem dX5_minus_62 : decode cX5_minus 62 = .ok (.iastore, 1) := by decide +kernel
theorem dX5_minus_63 : decode cX5_minus 63 = .ok (.iinc 3 1, 3) := by decide +kernel
theorem dX5_minus_66 : decode cX5_minus 66 = .ok (.goto (-62), 3) := by decide +kernel
theorem dX5_minus_69 : decode cX5_minus 69 = .ok (.aload_n 0, 1) := by decide +kernel
theorem dX5_minus_70 : decode cX5_minus 70 = .ok (.invokevirtual 45, 3) := by decide +kernel
theorem dX5_minus_73 : decode cX5_minus 73 = .ok (.return_, 1) := by decide +kernel
def w_Nu_minus_51 (C : zC) (n0 : Nat) (Q : zS → Prop) (B4 : Nat → Nat → Int32 → Int32 → zS → Prop) (a0 : Nat) (a1 : Nat) (a3 : Int32) (a4 : Int32) (s0 : Int32) (κ : zS) : Prop :=
  inb a3 (zN κ (zR κ nuLimbs a0)) ∧
  ∀ κ1, κ1 = ua κ (zR κ nuLimbs a0) (a3).toNatClampNeg (a4 &&& (2147483647 : Int32)) →
  ∀ _ : zW C n0 κ1,
  ∀ v3_2 : Int32, v3_2 = a3 + (1 : Int32) →
  B4 a0 a1 s0 v3_2 κ1
theorem t_Nu_minus_51 {C : zC} {n0 : Nat} {Q : zS → Prop} {B4 : Nat → Nat → Int32 → Int32 → zS → Prop} (hB4 : ∀ a0' a1' a2' a3' τ, zW C n0 τ → zT τ a0' = 8 → zT τ a1' = 8 → B4 a0' a1' a2' a3' τ → zG C n0 1 mNu_minus 4 [some (.ref a0'), some (.ref a1'), some (.int a2'), some (.int a3'), none] [] τ (oV Q noX)) {a0 : Nat} {a1 : Nat} {a3 : Int32} {a4 : Int32} {s0 : Int32} {κ : zS} (W : zW C n0 κ) (Ta0 : zT κ a0 = 8) (Ta1 : zT κ a1 = 8) (F : w_Nu_minus_51 C n0 Q B4 a0 a1 a3 a4 s0 κ) : zG C n0 1 mNu_minus 51 [some (.ref a0), some (.ref a1), none, some (.int a3), some (.int a4)] [.int s0] κ (oV Q noX) := by
  unfold w_Nu_minus_51 at F
  refine y_isn dX5_minus_51 (Nat.le_of_ble_eq_true rfl) rfl ?_
  show zG _ _ _ _ _ [some (.ref a0), some (.ref a1), some (.int s0), some (.int a3), some (.int a4)] _ _ _
  refine y_aln dX5_minus_52 rfl ?_
  refine gf_X5_13 W dX5_minus_53 rfl Ta0 ?_
  refine y_iln dX5_minus_56 rfl ?_
  refine y_il dX5_minus_57 rfl ?_
  refine y_ldc dX5_minus_59 rfl zcn_X5_52 ?_
  refine y_iand dX5_minus_61 ?_
  refine y_ast W dX5_minus_62 (ty_nuLimbs W Ta0) F.1 (fun κ1 eκ1 => ?_)
  replace F := F.2 κ1 eκ1
  have Wκ1 : zW C n0 κ1 := zW_ua W eκ1 (fun h => absurd (h.symm.trans (ty_nuLimbs W Ta0)) (by decide)) (fun h => absurd (h.symm.trans (ty_nuLimbs W Ta0)) (by decide))
  have Mκ1 : zM (zn κ) κ κ1 := by rw [eκ1]; exact zM.of rfl rfl rfl
  replace F := F Wκ1
  refine y_incb dX5_minus_63 zi_1 rfl (Nat.le_of_ble_eq_true rfl) (fun v3_2 ev3_2 => ?_)
  replace F := F v3_2 ev3_2
  show zG _ _ _ _ _ [some (.ref a0), some (.ref a1), some (.int s0), some (.int v3_2), some (.int a4)] _ _ _
  refine y_goto dX5_minus_66 (t := 4) rfl ?_
  have h3 := (ztm W Mκ1 Ta0)
  have h4 := (ztm W Mκ1 Ta1)
  exact y_k (hB4 _ _ _ _ _ Wκ1 h3 h4 F) ⟨rfl, rfl, rfl, rfl, trivial⟩

def w_Nu_minus_36 (C : zC) (n0 : Nat) (Q : zS → Prop) (B4 : Nat → Nat → Int32 → Int32 → zS → Prop) (a0 : Nat) (a1 : Nat) (a2 : Int32) (a3 : Int32) (s0 : Int32) (s1 : Int32) (κ : zS) : Prop :=
  ∀ v4_1 : Int32, v4_1 = ((s0 - s1) - a2) →
  ((0 : Int32) ≤ v4_1 →
    w_Nu_minus_51 C n0 Q B4 a0 a1 a3 v4_1 (0 : Int32) κ) ∧
  (¬ (0 : Int32) ≤ v4_1 →
    w_Nu_minus_51 C n0 Q B4 a0 a1 a3 v4_1 (1 : Int32) κ)
theorem t_Nu_minus_36 {C : zC} {n0 : Nat} {Q : zS → Prop} {B4 : Nat → Nat → Int32 → Int32 → zS → Prop} (hB4 : ∀ a0' a1' a2' a3' τ, zW C n0 τ → zT τ a0' = 8 → zT τ a1' = 8 → B4 a0' a1' a2' a3' τ → zG C n0 1 mNu_minus 4 [some (.ref a0'), some (.ref a1'), some (.int a2'), some (.int a3'), none] [] τ (oV Q noX)) {a0 : Nat} {a1 : Nat} {a2 : Int32} {a3 : Int32} {s0 : Int32} {s1 : Int32} {κ : zS} (W : zW C n0 κ) (Ta0 : zT κ a0 = 8) (Ta1 : zT κ a1 = 8) (F : w_Nu_minus_36 C n0 Q B4 a0 a1 a2 a3 s0 s1 κ) : zG C n0 1 mNu_minus 36 [some (.ref a0), some (.ref a1), some (.int a2), some (.int a3), none] [.int s1, .int s0] κ (oV Q noX) := by
  unfold w_Nu_minus_36 at F
  refine y_isub dX5_minus_36 ?_
  refine y_iln dX5_minus_37 rfl ?_
  refine y_isub dX5_minus_38 ?_
  refine y_isb dX5_minus_39 (Nat.le_of_ble_eq_true rfl) (fun v4_1 ev4_1 => ?_)
  replace F := F v4_1 ev4_1
  show zG _ _ _ _ _ [some (.ref a0), some (.ref a1), some (.int a2), some (.int a3), some (.int v4_1)] _ _ _
  refine y_il dX5_minus_41 rfl ?_
  refine y_i ((0 : Int32) ≤ v4_1) dX5_minus_43 (t := 50) rfl rfl (fun c9 => ?_) (fun c9 => ?_)
  · replace F := F.1 c9
    refine y_ic dX5_minus_50 zi_0 ?_
    exact y_k (t_Nu_minus_51 hB4 W Ta0 Ta1 F) ⟨rfl, rfl, rfl, rfl, trivial⟩
  · replace F := F.2 c9
    refine y_ic dX5_minus_46 zi_1 ?_
    refine y_goto dX5_minus_47 (t := 51) rfl ?_
    exact y_k (t_Nu_minus_51 hB4 W Ta0 Ta1 F) ⟨rfl, rfl, rfl, rfl, trivial⟩

def w_Nu_minus_4 (C : zC) (n0 : Nat) (Q : zS → Prop)  (a0 : Nat) (a1 : Nat) (a2 : Int32) (a3 : Int32) (κ : zS) : Prop :=
  ∃ I : Nat → Nat → Nat → Int32 → Int32 → zS → Prop, (∃ n, I n a0 a1 a2 a3 κ) ∧ ∀ n a0 a1 a2 a3 κ, zW C n0 κ → zT κ a0 = 8 → zT κ a1 = 8 → I n a0 a1 a2 a3 κ →
    ((zI κ nuLength a0) ≤ a3 →
      ∀ _ : zT κ a0 = 8,
      zRun C 0 mNu_trim [.ref a0] κ (oV (fun κ1 =>
        ∀ _ : zW C n0 κ1,
        ∀ _ : zM (zn κ) κ κ1,
        Q κ1) noX)) ∧
    (¬ (zI κ nuLength a0) ≤ a3 →
      inb a3 (zN κ (zR κ nuLimbs a0)) ∧
      ((zI κ nuLength a1) ≤ a3 →
        w_Nu_minus_36 C n0 Q (fun a0' a1' a2' a3' τ => ∃ k < n, I k a0' a1' a2' a3' τ) a0 a1 a2 a3 (zA κ (zR κ nuLimbs a0) (a3).toNatClampNeg) (0 : Int32) κ) ∧
      (¬ (zI κ nuLength a1) ≤ a3 →
        inb a3 (zN κ (zR κ nuLimbs a1)) ∧
        w_Nu_minus_36 C n0 Q (fun a0' a1' a2' a3' τ => ∃ k < n, I k a0' a1' a2' a3' τ) a0 a1 a2 a3 (zA κ (zR κ nuLimbs a0) (a3).toNatClampNeg) (zA κ (zR κ nuLimbs a1) (a3).toNatClampNeg) κ))
theorem t_Nu_minus_4 {C : zC} {n0 : Nat} {Q : zS → Prop}   {a0 : Nat} {a1 : Nat} {a2 : Int32} {a3 : Int32} {κ : zS} (W : zW C n0 κ) (Ta0 : zT κ a0 = 8) (Ta1 : zT κ a1 = 8) (F : w_Nu_minus_4 C n0 Q  a0 a1 a2 a3 κ) : zG C n0 1 mNu_minus 4 [some (.ref a0), some (.ref a1), some (.int a2), some (.int a3), none] [] κ (oV Q noX) := by
  obtain ⟨I, ⟨m0, hI0⟩, F0⟩ := F
  have key : ∀ n a0 a1 a2 a3 κ, zW C n0 κ → zT κ a0 = 8 → zT κ a1 = 8 → I n a0 a1 a2 a3 κ → zG C n0 1 mNu_minus 4 [some (.ref a0), some (.ref a1), some (.int a2), some (.int a3), none] [] κ (oV Q noX) := by
    intro n
    induction n using Nat.strongRecOn with
    | _ n ih =>
      intro a0 a1 a2 a3 κ W Ta0 Ta1 hI
      have F := F0 n a0 a1 a2 a3 κ W Ta0 Ta1 hI
      clear hI hI0
      refine y_iln dX5_minus_4 rfl ?_
      refine y_aln dX5_minus_5 rfl ?_
      refine gf_X5_25 dX5_minus_6 rfl (Or.inl Ta0) ?_
      refine y_ii ((zI κ nuLength a0) ≤ a3) dX5_minus_9 (t := 69) rfl rfl (fun c9 => ?_) (fun c9 => ?_)
      · replace F := F.1 c9
        refine y_aln dX5_minus_69 rfl ?_
        replace F := F Ta0
        refine k_X5_45 W dX5_minus_70 rfl (Nat.le_of_ble_eq_true rfl) (Nat.le_of_ble_eq_true rfl) (Or.inl Ta0) F (fun  κ1 Wκ1 Mκ1 F => ?_) (fun _ _ h9 => False.elim h9)
        replace F := F Wκ1 Mκ1
        exact y_rv Wκ1 dX5_minus_73 rfl F
      · replace F := F.2 c9
        refine y_aln dX5_minus_12 rfl ?_
        refine gf_X5_13 W dX5_minus_13 rfl Ta0 ?_
        refine y_iln dX5_minus_16 rfl ?_
        refine y_ald dX5_minus_17 (ty_nuLimbs W Ta0) F.1 ?_
        replace F := F.2
        refine y_iln dX5_minus_18 rfl ?_
        refine y_aln dX5_minus_19 rfl ?_
        refine gf_X5_25 dX5_minus_20 rfl (Or.inl Ta1) ?_
        refine y_ii ((zI κ nuLength a1) ≤ a3) dX5_minus_23 (t := 35) rfl rfl (fun c9 => ?_) (fun c9 => ?_)
        · replace F := F.1 c9
          refine y_ic dX5_minus_35 zi_0 ?_
          exact y_k (t_Nu_minus_36 (fun a0' a1' a2' a3' τ w9 f09 f19 hb => by obtain ⟨k, hk, hI⟩ := hb; exact ih k hk a0' a1' a2' a3' τ w9 f09 f19 hI) W Ta0 Ta1 F) ⟨rfl, rfl, rfl, rfl, trivial⟩
        · replace F := F.2 c9
          refine y_aln dX5_minus_26 rfl ?_
          refine gf_X5_13 W dX5_minus_27 rfl Ta1 ?_
          refine y_iln dX5_minus_30 rfl ?_
          refine y_ald dX5_minus_31 (ty_nuLimbs W Ta1) F.1 ?_
          replace F := F.2
          refine y_goto dX5_minus_32 (t := 36) rfl ?_
          exact y_k (t_Nu_minus_36 (fun a0' a1' a2' a3' τ w9 f09 f19 hb => by obtain ⟨k, hk, hI⟩ := hb; exact ih k hk a0' a1' a2' a3' τ w9 f09 f19 hI) W Ta0 Ta1 F) ⟨rfl, rfl, rfl, rfl, trivial⟩
  exact key m0 a0 a1 a2 a3 κ W Ta0 Ta1 hI0

def w_Nu_minus_0 (C : zC) (n0 : Nat) (Q : zS → Prop)  (a0 : Nat) (a1 : Nat) (κ : zS) : Prop :=
  w_Nu_minus_4 C n0 Q  a0 a1 (0 : Int32) (0 : Int32) κ
theorem t_Nu_minus_0 {C : zC} {n0 : Nat} {Q : zS → Prop}   {a0 : Nat} {a1 : Nat} {κ : zS} (W : zW C n0 κ) (Ta0 : zT κ a0 = 8) (Ta1 : zT κ a1 = 8) (F : w_Nu_minus_0 C n0 Q  a0 a1 κ) : zG C n0 1 mNu_minus 0 [some (.ref a0), some (.ref a1), none, none, none] [] κ (oV Q noX) := by
  unfold w_Nu_minus_0 at F
  refine y_ic dX5_minus_0 zi_0 ?_
  refine y_isn dX5_minus_1 (Nat.le_of_ble_eq_true rfl) rfl ?_
  show zG _ _ _ _ _ [some (.ref a0), some (.ref a1), some (.int (0 : Int32)), none, none] _ _ _
  refine y_ic dX5_minus_2 zi_0 ?_
  refine y_isn dX5_minus_3 (Nat.le_of_ble_eq_true rfl) rfl ?_
  show zG _ _ _ _ _ [some (.ref a0), some (.ref a1), some (.int (0 : Int32)), some (.int (0 : Int32)), none] _ _ _
  exact y_k (t_Nu_minus_4  W Ta0 Ta1 F) ⟨rfl, rfl, rfl, rfl, trivial⟩

theorem Nu_minus_run {C : zC} {n0 : Nat} {Q : zS → Prop} {a0 : Nat} {a1 : Nat} {κ : zS} (W : zW C n0 κ) (Ta0 : zT κ a0 = 8) (Ta1 : zT κ a1 = 8) (F : w_Nu_minus_0 C (zn κ) Q a0 a1 κ) : zRun C 1 mNu_minus [.ref a0, .ref a1] κ (oV Q noX) := z_run (m_ent _ 3) (t_Nu_minus_0 (W.lo (Nat.le_trans W.1.2.1 W.1.2.2) (Nat.le_refl _)) Ta0 Ta1 F)

theorem dX6_init_0 : decode cX6_init 0 = .ok (.aload_n 0, 1) := by decide +kernel
theorem dX6_init_1 : decode cX6_init 1 = .ok (.invokespecial 3, 3) := by decide +kernel
theorem dX6_init_4 : decode cX6_init 4 = .ok (.aload_n 0, 1) := by decide +kernel
theorem dX6_init_5 : decode cX6_init 5 = .ok (.aload_n 1, 1) := by decide +kernel
theorem dX6_init_6 : decode cX6_init 6 = .ok (.putfield 9, 3) := by decide +kernel
theorem dX6_init_9 : decode cX6_init 9 = .ok (.aload_n 0, 1) := by decide +kernel
theorem dX6_init_10 : decode cX6_init 10 = .ok (.aload_n 2, 1) := by decide +kernel
theorem dX6_init_11 : decode cX6_init 11 = .ok (.putfield 15, 3) := by decide +kernel
theorem dX6_init_14 : decode cX6_init 14 = .ok (.aload_n 0, 1) := by decide +kernel
theorem dX6_init_15 : decode cX6_init 15 = .ok (.aload_n 3, 1) := by decide +kernel
theorem dX6_init_16 : decode cX6_init 16 = .ok (.putfield 19, 3) := by decide +kernel
theorem dX6_init_19 : decode cX6_init 19 = .ok (.aload_n 0, 1) := by decide +kernel
theorem dX6_init_20 : decode cX6_init 20 = .ok (.new 23, 3) := by decide +kernel
theorem dX6_init_23 : decode cX6_init 23 = .ok (.dup, 1) := by decide +kernel
theorem dX6_init_24 : decode cX6_init 24 = .ok (.iconst 4, 1) := by decide +kernel
theorem dX6_init_25 : decode cX6_init 25 = .ok (.invokespecial 25, 3) := by decide +kernel
theorem dX6_init_28 : decode cX6_init 28 = .ok (.putfield 28, 3) := by decide +kernel
theorem dX6_init_31 : decode cX6_init 31 = .ok (.aload_n 0, 1) := by decide +kernel
theorem dX6_init_32 : decode cX6_init 32 = .ok (.new 32, 3) := by decide +kernel
theorem dX6_init_35 : decode cX6_init 35 = .ok (.dup, 1) := by decide +kernel
theorem dX6_init_36 : decode cX6_init 36 = .ok (.sipush 3000, 3) := by decide +kernel
theorem dX6_init_39 : decode cX6_init 39 = .ok (.iconst 3, 1) := by decide +kernel
theorem dX6_init_40 : decode cX6_init 40 = .ok (.sipush 8192, 3) := by decide +kernel
theorem dX6_init_43 : decode cX6_init 43 = .ok (.invokespecial 34, 3) := by decide +kernel
theorem dX6_init_46 : decode cX6_init 46 = .ok (.putfield 37, 3) := by decide +kernel
theorem dX6_init_49 : decode cX6_init 49 = .ok (.aload_n 0, 1) := by decide +kernel
theorem dX6_init_50 : decode cX6_init 50 = .ok (.iconst 3, 1) := by decide +kernel
theorem dX6_init_51 : decode cX6_init 51 = .ok (.newarray .int, 2) := by decide +kernel
theorem dX6_init_53 : decode cX6_init 53 = .ok (.putfield 41, 3) := by decide +kernel
theorem dX6_init_56 : decode cX6_init 56 = .ok (.aload_n 0, 1) := by decide +kernel
theorem dX6_init_57 : decode cX6_init 57 = .ok (.iconst 0, 1) := by decide +kernel
theorem dX6_init_58 : decode cX6_init 58 = .ok (.newarray .int, 2) := by decide +kernel
theorem dX6_init_60 : decode cX6_init 60 = .ok (.putfield 45, 3) := by decide +kernel
theorem dX6_init_63 : decode cX6_init 63 = .ok (.aload_n 0, 1) := by decide +kernel
theorem dX6_init_64 : decode cX6_init 64 = .ok (.iconst 0, 1) := by decide +kernel
theorem dX6_init_65 : decode cX6_init 65 = .ok (.newarray .int, 2) := by decide +kernel
theorem dX6_init_67 : decode cX6_init 67 = .ok (.putfield 48, 3) := by decide +kernel
theorem dX6_init_70 : decode cX6_init 70 = .ok (.aload_n 0, 1) := by decide +kernel
theorem dX6_init_71 : decode cX6_init 71 = .ok (.iconst 0, 1) := by decide +kernel
theorem dX6_init_72 : decode cX6_init 72 = .ok (.newarray .int, 2) := by decide +kernel
theorem dX6_init_74 : decode cX6_init 74 = .ok (.putfield 51, 3) := by decide +kernel
theorem dX6_init_77 : decode cX6_init 77 = .ok (.aload_n 0, 1) := by decide +kernel
theorem dX6_init_78 : decode cX6_init 78 = .ok (.iconst 0, 1) := by decide +kernel
theorem dX6_init_79 : decode cX6_init 79 = .ok (.newarray .int, 2) := by decide +kernel
theorem dX6_init_81 : decode cX6_init 81 = .ok (.putfield 54, 3) := by decide +kernel
theorem dX6_init_84 : decode cX6_init 84 = .ok (.aload_n 0, 1) := by decide +kernel
theorem dX6_init_85 : decode cX6_init 85 = .ok (.iconst 0, 1) := by decide +kernel
theorem dX6_init_86 : decode cX6_init 86 = .ok (.newarray .int, 2) := by decide +kernel
theorem dX6_init_88 : decode cX6_init 88 = .ok (.putfield 57, 3) := by decide +kernel
theorem dX6_init_91 : decode cX6_init 91 = .ok (.aload_n 0, 1) := by decide +kernel
theorem dX6_init_92 : decode cX6_init 92 = .ok (.iconst 0, 1) := by decide +kernel
theorem dX6_init_93 : decode cX6_init 93 = .ok (.newarray .int, 2) := by decide +kernel
theorem dX6_init_95 : decode cX6_init 95 = .ok (.putfield 60, 3) := by decide +kernel
theorem dX6_init_98 : decode cX6_init 98 = .ok (.aload_n 0, 1) := by decide +kernel
theorem dX6_init_99 : decode cX6_init 99 = .ok (.iconst 0, 1) := by decide +kernel
theorem dX6_init_100 : decode cX6_init 100 = .ok (.newarray .int, 2) := by decide +kernel
theorem dX6_init_102 : decode cX6_init 102 = .ok (.putfield 63, 3) := by decide +kernel
theorem dX6_init_105 : decode cX6_init 105 = .ok (.aload_n 0, 1) := by decide +kernel
theorem dX6_init_106 : decode cX6_init 106 = .ok (.iconst 0, 1) := by decide +kernel
theorem dX6_init_107 : decode cX6_init 107 = .ok (.anewarray 23, 3) := by decide +kernel
theorem dX6_init_110 : decode cX6_init 110 = .ok (.putfield 66, 3) := by decide +kernel
theorem dX6_init_113 : decode cX6_init 113 = .ok (.return_, 1) := by decide +kernel
def w_Od_init_0 (C : zC) (n0 : Nat) (Q : zS → Prop)  (a0 : Nat) (a1 : Nat) (a2 : Nat) (a3 : Nat) (κ : zS) : Prop :=
  ∀ κ1, κ1 = ur κ odAtlas a0 a1 →
  ∀ _ : zW C n0 κ1,
  ∀ κ2, κ2 = ur κ1 odSolver a0 a2 →
  ∀ _ : zW C n0 κ2,
  ∀ κ5, κ5 = ur κ2 odCalc a0 a3 →
  ∀ _ : zW C n0 κ5,
  ∀ κ8, κ8 = noo κ5 8 →
  ∀ _ : zW C n0 κ8,
  ∀ _ : zT κ8 (zn κ5) = 48,
  zRun C 1 mNu_init [.ref (zn κ5), .int (4 : Int32)] κ8 (oV (fun κ10 =>
    ∀ _ : zW C n0 κ10,
    ∀ _ : zM (zn κ8) κ8 κ10,
    zOk κ10 (zn κ5) 8 ∧
    ∀ κ13, κ13 = nff κ10 (zn κ5) →
    ∀ _ : zW C n0 κ13,
    ∀ κ15, κ15 = ur κ13 odHeld a0 (zn κ5) →
    ∀ _ : zW C n0 κ15,
    ∀ κ17, κ17 = noo κ15 6 →
    ∀ _ : zW C n0 κ17,
    ∀ _ : zT κ17 (zn κ15) = 46,
    zRun C 1 mHo_init [.ref (zn κ15), .int (3000 : Int32), .int (3 : Int32), .int (8192 : Int32)] κ17 (oV (fun κ19 =>
      ∀ _ : zW C n0 κ19,
      ∀ _ : zM (zn κ17) κ17 κ19,
      zOk κ19 (zn κ15) 6 ∧
      ∀ κ22, κ22 = nff κ19 (zn κ15) →
      ∀ _ : zW C n0 κ22,
      ∀ κ24, κ24 = ur κ22 odGroups a0 (zn κ15) →
      ∀ _ : zW C n0 κ24,
      nsz (3 : Int32) ∧
      ∀ κ26, κ26 = na κ24 20 ((3 : Int32)).toNatClampNeg →
      ∀ _ : zW C n0 κ26,
      zO κ26 (zn κ24) = (0, 0) ∧
      ∀ κ29, κ29 = uo κ26 odKey a0 (zn κ24) →
      ∀ _ : zW C n0 κ29,
      nsz (0 : Int32) ∧
      ∀ κ32, κ32 = na κ29 20 ((0 : Int32)).toNatClampNeg →
      ∀ _ : zW C n0 κ32,
      zO κ32 (zn κ29) = (0, 0) ∧
      ∀ κ35, κ35 = uo κ32 odLefts a0 (zn κ29) →
      ∀ _ : zW C n0 κ35,
      nsz (0 : Int32) ∧
      ∀ κ38, κ38 = na κ35 20 ((0 : Int32)).toNatClampNeg →
      ∀ _ : zW C n0 κ38,
      zO κ38 (zn κ35) = (0, 0) ∧
      ∀ κ41, κ41 = uo κ38 odRights a0 (zn κ35) →
      ∀ _ : zW C n0 κ41,
      nsz (0 : Int32) ∧
      ∀ κ44, κ44 = na κ41 20 ((0 : Int32)).toNatClampNeg →
      ∀ _ : zW C n0 κ44,
      zO κ44 (zn κ41) = (0, 0) ∧
      ∀ κ47, κ47 = uo κ44 odBases a0 (zn κ41) →
      ∀ _ : zW C n0 κ47,
      nsz (0 : Int32) ∧
      ∀ κ50, κ50 = na κ47 20 ((0 : Int32)).toNatClampNeg →
      ∀ _ : zW C n0 κ50,
      zO κ50 (zn κ47) = (0, 0) ∧
      ∀ κ53, κ53 = uo κ50 odRanks a0 (zn κ47) →
      ∀ _ : zW C n0 κ53,
      nsz (0 : Int32) ∧
      ∀ κ56, κ56 = na κ53 20 ((0 : Int32)).toNatClampNeg →
      ∀ _ : zW C n0 κ56,
      zO κ56 (zn κ53) = (0, 0) ∧
      ∀ κ59, κ59 = uo κ56 odCellOf a0 (zn κ53) →
      ∀ _ : zW C n0 κ59,
      nsz (0 : Int32) ∧
      ∀ κ62, κ62 = na κ59 20 ((0 : Int32)).toNatClampNeg →
      ∀ _ : zW C n0 κ62,
      zO κ62 (zn κ59) = (0, 0) ∧
      ∀ κ65, κ65 = uo κ62 odHeads a0 (zn κ59) →
      ∀ _ : zW C n0 κ65,
      nsz (0 : Int32) ∧
      ∀ κ68, κ68 = na κ65 20 ((0 : Int32)).toNatClampNeg →
      ∀ _ : zW C n0 κ68,
      zO κ68 (zn κ65) = (0, 0) ∧
      ∀ κ71, κ71 = uo κ68 odLinks a0 (zn κ65) →
      ∀ _ : zW C n0 κ71,
      nsz (0 : Int32) ∧
      ∀ κ74, κ74 = na κ71 24 ((0 : Int32)).toNatClampNeg →
      ∀ _ : zW C n0 κ74,
      zO κ74 (zn κ71) = (0, 0) ∧
      ∀ κ77, κ77 = uo κ74 odEdges a0 (zn κ71) →
      ∀ _ : zW C n0 κ77,
      Q κ77) noX)) noX)
theorem t_Od_init_0 {C : zC} {n0 : Nat} {Q : zS → Prop}   {a0 : Nat} {a1 : Nat} {a2 : Nat} {a3 : Nat} {κ : zS} (W : zW C n0 κ) (Ta0 : zT κ a0 = 49) (Ta1 : zT κ a1 = 3) (Ta2 : zT κ a2 = 12) (Ta3 : zT κ a3 = 4) (F : w_Od_init_0 C n0 Q  a0 a1 a2 a3 κ) : zG C n0 2 mOd_init 0 [some (.ref a0), some (.ref a1), some (.ref a2), some (.ref a3)] [] κ (oV Q noX) := by
  unfold w_Od_init_0 at F
  refine y_aln dX6_init_0 rfl ?_
  refine y_oinit dX6_init_1 rfl zbi_X6_3 (Nat.le_of_ble_eq_true rfl) (Nat.le_of_ble_eq_true rfl) ?_
  refine y_aln dX6_init_4 rfl ?_
  refine y_aln dX6_init_5 rfl ?_
  refine pf_X6_9 W dX6_init_6 rfl rfl (Or.inr Ta0) Ta1 (fun κ1 eκ1 => ?_)
  replace F := F κ1 eκ1
  have Wκ1 : zW C n0 κ1 := zW_ur W eκ1 (fun t ht => by cases ht; exact ⟨by decide, Ta1⟩)
  have Mκ1 : zM (zn κ) κ κ1 := by rw [eκ1]; exact zM.of rfl rfl rfl
  replace F := F Wκ1
  refine y_aln dX6_init_9 rfl ?_
  refine y_aln dX6_init_10 rfl ?_
  have h3 := (ztm W Mκ1 Ta2)
  have h4 := (ztm W Mκ1 Ta0)
  refine pf_X6_15 Wκ1 dX6_init_11 rfl rfl (Or.inr h4) h3 (fun κ2 eκ2 => ?_)
  replace F := F κ2 eκ2
  have Wκ2 : zW C n0 κ2 := zW_ur Wκ1 eκ2 (fun t ht => by cases ht; exact ⟨by decide, h3⟩)
  have Mκ2 : zM (zn κ1) κ1 κ2 := by rw [eκ2]; exact zM.of rfl rfl rfl
  replace F := F Wκ2
  refine y_aln dX6_init_14 rfl ?_
  refine y_aln dX6_init_15 rfl ?_
  have h6 := (ztm Wκ1 Mκ2 (ztm W Mκ1 Ta3))
  have h7 := (ztm Wκ1 Mκ2 h4)
  refine pf_X6_19 Wκ2 dX6_init_16 rfl rfl (Or.inr h7) h6 (fun κ5 eκ5 => ?_)
  replace F := F κ5 eκ5
  have Wκ5 : zW C n0 κ5 := zW_ur Wκ2 eκ5 (fun t ht => by cases ht; exact ⟨by decide, h6⟩)
  have Mκ5 : zM (zn κ2) κ2 κ5 := by rw [eκ5]; exact zM.of rfl rfl rfl
  replace F := F Wκ5
  refine y_aln dX6_init_19 rfl ?_
  refine y_newo Wκ5 dX6_init_20 rfl znw_X6_23 znx_X6_23 (by decide) (fun κ8 eκ8 => ?_)
  replace F := F κ8 eκ8
  have Wκ8 : zW C n0 κ8 := zW_no Wκ5 eκ8
  have Mκ8 : zM (zn κ5) κ5 κ8 := zM_no (Wκ5.lo (Nat.le_trans Wκ5.1.2.1 Wκ5.1.2.2) (Nat.le_refl _)) eκ8
  replace F := F Wκ8
  have g9 : zT κ8 (zn κ5) = 48 := by rw [eκ8]; exact if_pos rfl
  refine y_dup dX6_init_23 rfl ?_
  refine y_ic dX6_init_24 zi_4 ?_
  replace F := F g9
  refine k_X6_25 Wκ8 dX6_init_25 rfl (Nat.le_of_ble_eq_true rfl) (Nat.le_of_ble_eq_true rfl)  F (fun  κ10 Wκ10 Mκ10 F => ?_) (fun _ _ h9 => False.elim h9)
  replace F := F Wκ10 Mκ10
  have h14 := (ztm Wκ8 Mκ10 g9)
  have Rκ13 := h14
  refine y_flip (ci := 8) Rκ13 (by decide) (Nat.le_trans Wκ5.1.2.2 (Nat.le_refl _)) (fun κ13 eκ13 => ?_)
  have Wκ13 : zW C n0 κ13 := zW_nf Wκ10 eκ13 Rκ13 (by decide) (by decide) F.1
  replace F := F.2 κ13 eκ13 Wκ13
  have Gκ13 : zT κ13 (zn κ5) = 8 := zth eκ13 Rκ13 (by decide)
  have h16 := (ztg eκ13 (Wκ5.nw (ztm Wκ2 Mκ5 h7)) (ztm Wκ8 Mκ10 (ztm Wκ5 Mκ8 (ztm Wκ2 Mκ5 h7))))
  refine pf_X6_28 Wκ13 dX6_init_28 rfl rfl (Or.inr h16) Gκ13 (fun κ15 eκ15 => ?_)
  replace F := F κ15 eκ15
  have Wκ15 : zW C n0 κ15 := zW_ur Wκ13 eκ15 (fun t ht => by cases ht; exact ⟨by decide, Gκ13⟩)
  have Mκ15 : zM (zn κ13) κ13 κ15 := by rw [eκ15]; exact zM.of rfl rfl rfl
  replace F := F Wκ15
  refine y_aln dX6_init_31 rfl ?_
  refine y_newo Wκ15 dX6_init_32 rfl znw_X6_32 znx_X6_32 (by decide) (fun κ17 eκ17 => ?_)
  replace F := F κ17 eκ17
  have Wκ17 : zW C n0 κ17 := zW_no Wκ15 eκ17
  have Mκ17 : zM (zn κ15) κ15 κ17 := zM_no (Wκ15.lo (Nat.le_trans Wκ15.1.2.1 Wκ15.1.2.2) (Nat.le_refl _)) eκ17
  replace F := F Wκ17
  have g18 : zT κ17 (zn κ15) = 46 := by rw [eκ17]; exact if_pos rfl
  refine y_dup dX6_init_35 rfl ?_
  refine y_si dX6_init_36 zs_3000 ?_
  refine y_ic dX6_init_39 zi_3 ?_
  refine y_si dX6_init_40 zs_8192 ?_
  replace F := F g18
  refine k_X6_34 Wκ17 dX6_init_43 rfl (Nat.le_of_ble_eq_true rfl) (Nat.le_of_ble_eq_true rfl)  F (fun  κ19 Wκ19 Mκ19 F => ?_) (fun _ _ h9 => False.elim h9)
  replace F := F Wκ19 Mκ19
  have h23 := (ztm Wκ17 Mκ19 g18)
  have Rκ22 := h23
  refine y_flip (ci := 6) Rκ22 (by decide) (Nat.le_trans Wκ15.1.2.2 (Nat.le_refl _)) (fun κ22 eκ22 => ?_)
  have Wκ22 : zW C n0 κ22 := zW_nf Wκ19 eκ22 Rκ22 (by decide) (by decide) F.1
  replace F := F.2 κ22 eκ22 Wκ22
  have Gκ22 : zT κ22 (zn κ15) = 6 := zth eκ22 Rκ22 (by decide)
  have h25 := (ztg eκ22 (Wκ15.nw (ztm Wκ13 Mκ15 h16)) (ztm Wκ17 Mκ19 (ztm Wκ15 Mκ17 (ztm Wκ13 Mκ15 h16))))
  refine pf_X6_37 Wκ22 dX6_init_46 rfl rfl (Or.inr h25) Gκ22 (fun κ24 eκ24 => ?_)
  replace F := F κ24 eκ24
  have Wκ24 : zW C n0 κ24 := zW_ur Wκ22 eκ24 (fun t ht => by cases ht; exact ⟨by decide, Gκ22⟩)
  have Mκ24 : zM (zn κ22) κ22 κ24 := by rw [eκ24]; exact zM.of rfl rfl rfl
  replace F := F Wκ24
  refine y_aln dX6_init_49 rfl ?_
  refine y_ic dX6_init_50 zi_3 ?_
  have b27 := F.1
  refine y_newa (t := 0) Wκ24 dX6_init_51 (by decide) b27 (fun κ26 eκ26 => ?_)
  replace F := F.2 κ26 eκ26
  have Wκ26 : zW C n0 κ26 := zW_na Wκ24 eκ26 (by decide) (by decide) b27.2
  have Mκ26 : zM (zn κ24) κ24 κ26 := zM_na (Wκ24.lo (Nat.le_trans Wκ24.1.2.1 Wκ24.1.2.2) (Nat.le_refl _)) eκ26
  replace F := F Wκ26
  have g28 : zT κ26 (zn κ24) = 20 := by rw [eκ26]; exact if_pos rfl
  have b30 := F.1
  replace F := F.2
  have h31 := (ztm Wκ24 Mκ26 (ztm Wκ22 Mκ24 h25))
  refine pf_X6_41 Wκ26 dX6_init_53 rfl rfl (Or.inr h31) g28 (fun κ29 eκ29 => ?_)
  replace F := F κ29 eκ29
  have Wκ29 : zW C n0 κ29 := zW_uo Wκ26 eκ29 (fun t ht => by cases ht; exact g28) b30
  have Mκ29 : zM (zn κ26) κ26 κ29 := by rw [eκ29]; exact zM.of rfl rfl rfl
  replace F := F Wκ29
  refine y_aln dX6_init_56 rfl ?_
  refine y_ic dX6_init_57 zi_0 ?_
  have b33 := F.1
  refine y_newa (t := 0) Wκ29 dX6_init_58 (by decide) b33 (fun κ32 eκ32 => ?_)
  replace F := F.2 κ32 eκ32
  have Wκ32 : zW C n0 κ32 := zW_na Wκ29 eκ32 (by decide) (by decide) b33.2
  have Mκ32 : zM (zn κ29) κ29 κ32 := zM_na (Wκ29.lo (Nat.le_trans Wκ29.1.2.1 Wκ29.1.2.2) (Nat.le_refl _)) eκ32
  replace F := F Wκ32
  have g34 : zT κ32 (zn κ29) = 20 := by rw [eκ32]; exact if_pos rfl
  have b36 := F.1
  replace F := F.2
  have h37 := (ztm Wκ29 Mκ32 (ztm Wκ26 Mκ29 h31))
  refine pf_X6_45 Wκ32 dX6_init_60 rfl (Or.inr h37) g34 (fun κ35 eκ35 => ?_)
  replace F := F κ35 eκ35
  have Wκ35 : zW C n0 κ35 := zW_uo Wκ32 eκ35 (fun t ht => by cases ht; exact g34) b36
  have Mκ35 : zM (zn κ32) κ32 κ35 := by rw [eκ35]; exact zM.of rfl rfl rfl
  replace F := F Wκ35
  refine y_aln dX6_init_63 rfl ?_
  refine y_ic dX6_init_64 zi_0 ?_
  have b39 := F.1
  refine y_newa (t := 0) Wκ35 dX6_init_65 (by decide) b39 (fun κ38 eκ38 => ?_)
  replace F := F.2 κ38 eκ38
  have Wκ38 : zW C n0 κ38 := zW_na Wκ35 eκ38 (by decide) (by decide) b39.2
  have Mκ38 : zM (zn κ35) κ35 κ38 := zM_na (Wκ35.lo (Nat.le_trans Wκ35.1.2.1 Wκ35.1.2.2) (Nat.le_refl _)) eκ38
  replace F := F Wκ38
  have g40 : zT κ38 (zn κ35) = 20 := by rw [eκ38]; exact if_pos rfl
  have b42 := F.1
  replace F := F.2
  have h43 := (ztm Wκ35 Mκ38 (ztm Wκ32 Mκ35 h37))
  refine pf_X6_48 Wκ38 dX6_init_67 rfl (Or.inr h43) g40 (fun κ41 eκ41 => ?_)
  replace F := F κ41 eκ41
  have Wκ41 : zW C n0 κ41 := zW_uo Wκ38 eκ41 (fun t ht => by cases ht; exact g40) b42
  have Mκ41 : zM (zn κ38) κ38 κ41 := by rw [eκ41]; exact zM.of rfl rfl rfl
  replace F := F Wκ41
  refine y_aln dX6_init_70 rfl ?_
  refine y_ic dX6_init_71 zi_0 ?_
  have b45 := F.1
  refine y_newa (t := 0) Wκ41 dX6_init_72 (by decide) b45 (fun κ44 eκ44 => ?_)
  replace F := F.2 κ44 eκ44
  have Wκ44 : zW C n0 κ44 := zW_na Wκ41 eκ44 (by decide) (by decide) b45.2
  have Mκ44 : zM (zn κ41) κ41 κ44 := zM_na (Wκ41.lo (Nat.le_trans Wκ41.1.2.1 Wκ41.1.2.2) (Nat.le_refl _)) eκ44
  replace F := F Wκ44
  have g46 : zT κ44 (zn κ41) = 20 := by rw [eκ44]; exact if_pos rfl
  have b48 := F.1
  replace F := F.2
  have h49 := (ztm Wκ41 Mκ44 (ztm Wκ38 Mκ41 h43))
  refine pf_X6_51 Wκ44 dX6_init_74 rfl (Or.inr h49) g46 (fun κ47 eκ47 => ?_)
  replace F := F κ47 eκ47
  have Wκ47 : zW C n0 κ47 := zW_uo Wκ44 eκ47 (fun t ht => by cases ht; exact g46) b48
  have Mκ47 : zM (zn κ44) κ44 κ47 := by rw [eκ47]; exact zM.of rfl rfl rfl
  replace F := F Wκ47
  refine y_aln dX6_init_77 rfl ?_
  refine y_ic dX6_init_78 zi_0 ?_
  have b51 := F.1
  refine y_newa (t := 0) Wκ47 dX6_init_79 (by decide) b51 (fun κ50 eκ50 => ?_)
  replace F := F.2 κ50 eκ50
  have Wκ50 : zW C n0 κ50 := zW_na Wκ47 eκ50 (by decide) (by decide) b51.2
  have Mκ50 : zM (zn κ47) κ47 κ50 := zM_na (Wκ47.lo (Nat.le_trans Wκ47.1.2.1 Wκ47.1.2.2) (Nat.le_refl _)) eκ50
  replace F := F Wκ50
  have g52 : zT κ50 (zn κ47) = 20 := by rw [eκ50]; exact if_pos rfl
  have b54 := F.1
  replace F := F.2
  have h55 := (ztm Wκ47 Mκ50 (ztm Wκ44 Mκ47 h49))
  refine pf_X6_54 Wκ50 dX6_init_81 rfl (Or.inr h55) g52 (fun κ53 eκ53 => ?_)
  replace F := F κ53 eκ53
  have Wκ53 : zW C n0 κ53 := zW_uo Wκ50 eκ53 (fun t ht => by cases ht; exact g52) b54
  have Mκ53 : zM (zn κ50) κ50 κ53 := by rw [eκ53]; exact zM.of rfl rfl rfl
  replace F := F Wκ53
  refine y_aln dX6_init_84 rfl ?_
  refine y_ic dX6_init_85 zi_0 ?_
  have b57 := F.1
  refine y_newa (t := 0) Wκ53 dX6_init_86 (by decide) b57 (fun κ56 eκ56 => ?_)
  replace F := F.2 κ56 eκ56
  have Wκ56 : zW C n0 κ56 := zW_na Wκ53 eκ56 (by decide) (by decide) b57.2
  have Mκ56 : zM (zn κ53) κ53 κ56 := zM_na (Wκ53.lo (Nat.le_trans Wκ53.1.2.1 Wκ53.1.2.2) (Nat.le_refl _)) eκ56
  replace F := F Wκ56
  have g58 : zT κ56 (zn κ53) = 20 := by rw [eκ56]; exact if_pos rfl
  have b60 := F.1
  replace F := F.2
  have h61 := (ztm Wκ53 Mκ56 (ztm Wκ50 Mκ53 h55))
  refine pf_X6_57 Wκ56 dX6_init_88 rfl (Or.inr h61) g58 (fun κ59 eκ59 => ?_)
  replace F := F κ59 eκ59
  have Wκ59 : zW C n0 κ59 := zW_uo Wκ56 eκ59 (fun t ht => by cases ht; exact g58) b60
  have Mκ59 : zM (zn κ56) κ56 κ59 := by rw [eκ59]; exact zM.of rfl rfl rfl
  replace F := F Wκ59
  refine y_aln dX6_init_91 rfl ?_
  refine y_ic dX6_init_92 zi_0 ?_
  have b63 := F.1
  refine y_newa (t := 0) Wκ59 dX6_init_93 (by decide) b63 (fun κ62 eκ62 => ?_)
  replace F := F.2 κ62 eκ62
  have Wκ62 : zW C n0 κ62 := zW_na Wκ59 eκ62 (by decide) (by decide) b63.2
  have Mκ62 : zM (zn κ59) κ59 κ62 := zM_na (Wκ59.lo (Nat.le_trans Wκ59.1.2.1 Wκ59.1.2.2) (Nat.le_refl _)) eκ62
  replace F := F Wκ62
  have g64 : zT κ62 (zn κ59) = 20 := by rw [eκ62]; exact if_pos rfl
  have b66 := F.1
  replace F := F.2
  have h67 := (ztm Wκ59 Mκ62 (ztm Wκ56 Mκ59 h61))
  refine pf_X6_60 Wκ62 dX6_init_95 rfl (Or.inr h67) g64 (fun κ65 eκ65 => ?_)
  replace F := F κ65 eκ65
  have Wκ65 : zW C n0 κ65 := zW_uo Wκ62 eκ65 (fun t ht => by cases ht; exact g64) b66
  have Mκ65 : zM (zn κ62) κ62 κ65 := by rw [eκ65]; exact zM.of rfl rfl rfl
  replace F := F Wκ65
  refine y_aln dX6_init_98 rfl ?_
  refine y_ic dX6_init_99 zi_0 ?_
  have b69 := F.1
  refine y_newa (t := 0) Wκ65 dX6_init_100 (by decide) b69 (fun κ68 eκ68 => ?_)
  replace F := F.2 κ68 eκ68
  have Wκ68 : zW C n0 κ68 := zW_na Wκ65 eκ68 (by decide) (by decide) b69.2
  have Mκ68 : zM (zn κ65) κ65 κ68 := zM_na (Wκ65.lo (Nat.le_trans Wκ65.1.2.1 Wκ65.1.2.2) (Nat.le_refl _)) eκ68
  replace F := F Wκ68
  have g70 : zT κ68 (zn κ65) = 20 := by rw [eκ68]; exact if_pos rfl
  have b72 := F.1
  replace F := F.2
  have h73 := (ztm Wκ65 Mκ68 (ztm Wκ62 Mκ65 h67))
  refine pf_X6_63 Wκ68 dX6_init_102 rfl (Or.inr h73) g70 (fun κ71 eκ71 => ?_)
  replace F := F κ71 eκ71
  have Wκ71 : zW C n0 κ71 := zW_uo Wκ68 eκ71 (fun t ht => by cases ht; exact g70) b72
  have Mκ71 : zM (zn κ68) κ68 κ71 := by rw [eκ71]; exact zM.of rfl rfl rfl
  replace F := F Wκ71
  refine y_aln dX6_init_105 rfl ?_
  refine y_ic dX6_init_106 zi_0 ?_
  have b75 := F.1
  refine y_newq (t := 4) Wκ71 dX6_init_107 rfl zan_X6_23 (by decide) b75 (fun κ74 eκ74 => ?_)
  replace F := F.2 κ74 eκ74
  have Wκ74 : zW C n0 κ74 := zW_na Wκ71 eκ74 (by decide) (by decide) b75.2
  have Mκ74 : zM (zn κ71) κ71 κ74 := zM_na (Wκ71.lo (Nat.le_trans Wκ71.1.2.1 Wκ71.1.2.2) (Nat.le_refl _)) eκ74
  replace F := F Wκ74
  have g76 : zT κ74 (zn κ71) = 24 := by rw [eκ74]; exact if_pos rfl
  have b78 := F.1
  replace F := F.2
  have h79 := (ztm Wκ71 Mκ74 (ztm Wκ68 Mκ71 h73))
  refine pf_X6_66 Wκ74 dX6_init_110 rfl (Or.inr h79) g76 (fun κ77 eκ77 => ?_)
  replace F := F κ77 eκ77
  have Wκ77 : zW C n0 κ77 := zW_uo Wκ74 eκ77 (fun t ht => by cases ht; exact g76) b78
  have Mκ77 : zM (zn κ74) κ74 κ77 := by rw [eκ77]; exact zM.of rfl rfl rfl
  replace F := F Wκ77
  exact y_rv Wκ77 dX6_init_113 rfl F

theorem Od_init_run {C : zC} {n0 : Nat} {Q : zS → Prop} {a0 : Nat} {a1 : Nat} {a2 : Nat} {a3 : Nat} {κ : zS} (W : zW C n0 κ) (Ta0 : zT κ a0 = 49) (Ta1 : zT κ a1 = 3) (Ta2 : zT κ a2 = 12) (Ta3 : zT κ a3 = 4) (F : w_Od_init_0 C (zn κ) Q a0 a1 a2 a3 κ) : zRun C 2 mOd_init [.ref a0, .ref a1, .ref a2, .ref a3] κ (oV Q noX) := z_run (m_ent _ 0) (t_Od_init_0 (W.lo (Nat.le_trans W.1.2.1 W.1.2.2) (Nat.le_refl _)) Ta0 Ta1 Ta2 Ta3 F)

