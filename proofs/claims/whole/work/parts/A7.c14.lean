/-! methods of the class: Pa_setPlace, Pa_localStatement, Pa_wordStatement, Pa_behindPlace, Pa_spread, Pa_finish, Pa_statement, Ta_reads -/
theorem dX7_setPlace_0 : decode cX7_setPlace 0 = .ok (.aload_n 0, 1) := by decide +kernel
theorem dX7_setPlace_1 : decode cX7_setPlace 1 = .ok (.getfield 15, 3) := by decide +kernel
theorem dX7_setPlace_4 : decode cX7_setPlace 4 = .ok (.iload_n 1, 1) := by decide +kernel
theorem dX7_setPlace_5 : decode cX7_setPlace 5 = .ok (.iconst 1, 1) := by decide +kernel
theorem dX7_setPlace_6 : decode cX7_setPlace 6 = .ok (.iload_n 2, 1) := by decide +kernel
theorem dX7_setPlace_7 : decode cX7_setPlace 7 = .ok (.invokevirtual 201, 3) := by decide +kernel
theorem dX7_setPlace_10 : decode cX7_setPlace 10 = .ok (.aload_n 0, 1) := by decide +kernel
theorem dX7_setPlace_11 : decode cX7_setPlace 11 = .ok (.getfield 15, 3) := by decide +kernel
theorem dX7_setPlace_14 : decode cX7_setPlace 14 = .ok (.iload_n 1, 1) := by decide +kernel
theorem dX7_setPlace_15 : decode cX7_setPlace 15 = .ok (.iconst 2, 1) := by decide +kernel
theorem dX7_setPlace_16 : decode cX7_setPlace 16 = .ok (.iload_n 3, 1) := by decide +kernel
theorem dX7_setPlace_17 : decode cX7_setPlace 17 = .ok (.invokevirtual 201, 3) := by decide +kernel
theorem dX7_setPlace_20 : decode cX7_setPlace 20 = .ok (.return_, 1) := by decide +kernel
def w_Pa_setPlace_0 (C : zC) (n0 : Nat) (Q : zS → Prop)  (a0 : Nat) (a1 : Int32) (a2 : Int32) (a3 : Int32) (κ : zS) : Prop :=
  ∀ _ : zT κ (zR κ paCode a0) = 5,
  zRun C 0 mCo_setColumn [.ref (zR κ paCode a0), .int a1, .int (1 : Int32), .int a2] κ (oV (fun κ1 =>
    ∀ _ : zW C n0 κ1,
    ∀ _ : zM (zn κ) κ κ1,
    ∀ _ : zT κ1 (zR κ1 paCode a0) = 5,
    zRun C 0 mCo_setColumn [.ref (zR κ1 paCode a0), .int a1, .int (2 : Int32), .int a3] κ1 (oV (fun κ5 =>
      ∀ _ : zW C n0 κ5,
      ∀ _ : zM (zn κ1) κ1 κ5,
      Q κ5) noX)) noX)
theorem t_Pa_setPlace_0 {C : zC} {n0 : Nat} {Q : zS → Prop}   {a0 : Nat} {a1 : Int32} {a2 : Int32} {a3 : Int32} {κ : zS} (W : zW C n0 κ) (Ta0 : zT κ a0 = 10) (F : w_Pa_setPlace_0 C n0 Q  a0 a1 a2 a3 κ) : zG C n0 1 mPa_setPlace 0 [some (.ref a0), some (.int a1), some (.int a2), some (.int a3)] [] κ (oV Q noX) := by
  unfold w_Pa_setPlace_0 at F
  refine y_aln dX7_setPlace_0 rfl ?_
  refine gf_X7_15 W dX7_setPlace_1 rfl Ta0 ?_
  refine y_iln dX7_setPlace_4 rfl ?_
  refine y_ic dX7_setPlace_5 zi_1 ?_
  refine y_iln dX7_setPlace_6 rfl ?_
  replace F := F (ty_paCode W Ta0)
  refine k_X7_201 W dX7_setPlace_7 rfl (Nat.le_of_ble_eq_true rfl) (Nat.le_of_ble_eq_true rfl) (Or.inl (ty_paCode W Ta0)) F (fun  κ1 Wκ1 Mκ1 F => ?_) (fun _ _ h9 => False.elim h9)
  replace F := F Wκ1 Mκ1
  refine y_aln dX7_setPlace_10 rfl ?_
  have h4 := (ztm W Mκ1 Ta0)
  refine gf_X7_15 Wκ1 dX7_setPlace_11 rfl h4 ?_
  refine y_iln dX7_setPlace_14 rfl ?_
  refine y_ic dX7_setPlace_15 zi_2 ?_
  refine y_iln dX7_setPlace_16 rfl ?_
  replace F := F (ty_paCode Wκ1 h4)
  refine k_X7_201 Wκ1 dX7_setPlace_17 rfl (Nat.le_of_ble_eq_true rfl) (Nat.le_of_ble_eq_true rfl) (Or.inl (ty_paCode Wκ1 h4)) F (fun  κ5 Wκ5 Mκ5 F => ?_) (fun _ _ h9 => False.elim h9)
  replace F := F Wκ5 Mκ5
  exact y_rv Wκ5 dX7_setPlace_20 rfl F

theorem Pa_setPlace_run {C : zC} {n0 : Nat} {Q : zS → Prop} {a0 : Nat} {a1 : Int32} {a2 : Int32} {a3 : Int32} {κ : zS} (W : zW C n0 κ) (Ta0 : zT κ a0 = 10) (F : w_Pa_setPlace_0 C (zn κ) Q a0 a1 a2 a3 κ) : zRun C 1 mPa_setPlace [.ref a0, .int a1, .int a2, .int a3] κ (oV Q noX) := z_run (m_ent _ 0) (t_Pa_setPlace_0 (W.lo (Nat.le_trans W.1.2.1 W.1.2.2) (Nat.le_refl _)) Ta0 F)

theorem dX7_localStatement_0 : decode cX7_localStatement 0 = .ok (.aload_n 0, 1) := by decide +kernel
theorem dX7_localStatement_1 : decode cX7_localStatement 1 = .ok (.invokevirtual 72, 3) := by decide +kernel
theorem dX7_localStatement_4 : decode cX7_localStatement 4 = .ok (.aload_n 0, 1) := by decide +kernel
theorem dX7_localStatement_5 : decode cX7_localStatement 5 = .ok (.aload_n 0, 1) := by decide +kernel
theorem dX7_localStatement_6 : decode cX7_localStatement 6 = .ok (.getfield 66, 3) := by decide +kernel
theorem dX7_localStatement_9 : decode cX7_localStatement 9 = .ok (.bipush 8, 2) := by decide +kernel
theorem dX7_localStatement_11 : decode cX7_localStatement 11 = .ok (.invokevirtual 152, 3) := by decide +kernel
theorem dX7_localStatement_14 : decode cX7_localStatement 14 = .ok (.istore_n 2, 1) := by decide +kernel
theorem dX7_localStatement_15 : decode cX7_localStatement 15 = .ok (.aload_n 0, 1) := by decide +kernel
theorem dX7_localStatement_16 : decode cX7_localStatement 16 = .ok (.bipush 61, 2) := by decide +kernel
theorem dX7_localStatement_18 : decode cX7_localStatement 18 = .ok (.invokevirtual 160, 3) := by decide +kernel
theorem dX7_localStatement_21 : decode cX7_localStatement 21 = .ok (.aload_n 0, 1) := by decide +kernel
theorem dX7_localStatement_22 : decode cX7_localStatement 22 = .ok (.iload_n 1, 1) := by decide +kernel
theorem dX7_localStatement_23 : decode cX7_localStatement 23 = .ok (.iconst (-1), 1) := by decide +kernel
theorem dX7_localStatement_24 : decode cX7_localStatement 24 = .ok (.invokevirtual 220, 3) := by decide +kernel
theorem dX7_localStatement_27 : decode cX7_localStatement 27 = .ok (.aload_n 0, 1) := by decide +kernel
theorem dX7_localStatement_28 : decode cX7_localStatement 28 = .ok (.bipush 59, 2) := by decide +kernel
theorem dX7_localStatement_30 : decode cX7_localStatement 30 = .ok (.invokevirtual 160, 3) := by decide +kernel
theorem dX7_localStatement_33 : decode cX7_localStatement 33 = .ok (.aload_n 0, 1) := by decide +kernel
theorem dX7_localStatement_34 : decode cX7_localStatement 34 = .ok (.iload_n 1, 1) := by decide +kernel
theorem dX7_localStatement_35 : decode cX7_localStatement 35 = .ok (.iconst 2, 1) := by decide +kernel
theorem dX7_localStatement_36 : decode cX7_localStatement 36 = .ok (.aload_n 0, 1) := by decide +kernel
theorem dX7_localStatement_37 : decode cX7_localStatement 37 = .ok (.getfield 66, 3) := by decide +kernel
theorem dX7_localStatement_40 : decode cX7_localStatement 40 = .ok (.invokevirtual 217, 3) := by decide +kernel
theorem dX7_localStatement_43 : decode cX7_localStatement 43 = .ok (.aload_n 0, 1) := by decide +kernel
theorem dX7_localStatement_44 : decode cX7_localStatement 44 = .ok (.getfield 15, 3) := by decide +kernel
theorem dX7_localStatement_47 : decode cX7_localStatement 47 = .ok (.iload_n 1, 1) := by decide +kernel
theorem dX7_localStatement_48 : decode cX7_localStatement 48 = .ok (.iconst 0, 1) := by decide +kernel
theorem dX7_localStatement_49 : decode cX7_localStatement 49 = .ok (.iconst 0, 1) := by decide +kernel
theorem dX7_localStatement_50 : decode cX7_localStatement 50 = .ok (.invokevirtual 201, 3) := by decide +kernel
theorem dX7_localStatement_53 : decode cX7_localStatement 53 = .ok (.aload_n 0, 1) := by decide +kernel
theorem dX7_localStatement_54 : decode cX7_localStatement 54 = .ok (.iload_n 2, 1) := by decide +kernel
theorem dX7_localStatement_55 : decode cX7_localStatement 55 = .ok (.invokevirtual 181, 3) := by decide +kernel
theorem dX7_localStatement_58 : decode cX7_localStatement 58 = .ok (.return_, 1) := by decide +kernel
def w_Pa_localStatement_0 (C : zC) (n0 : Nat) (Q : zS → Prop) (X : zXp)  (a0 : Nat) (a1 : Int32) (κ : zS) : Prop :=
  ∀ _ : zT κ a0 = 10,
  zRun C 0 mPa_take [.ref a0] κ (oV (fun κ1 =>
    ∀ _ : zW C n0 κ1,
    ∀ _ : zM (zn κ) κ κ1,
    ∀ _ : zT κ1 a0 = 10,
    zRun C 10 mPa_newName [.ref a0, .int (zI κ1 paOwns a0), .int (8 : Int32)] κ1 (oI (fun r6 κ5 =>
      ∀ _ : zW C n0 κ5,
      ∀ _ : zM (zn κ1) κ1 κ5,
      ∀ _ : zT κ5 a0 = 10,
      zRun C 9 mPa_pass [.ref a0, .int (61 : Int32)] κ5 (oV (fun κ8 =>
        ∀ _ : zW C n0 κ8,
        ∀ _ : zM (zn κ5) κ5 κ8,
        ∀ _ : zT κ8 a0 = 10,
        zRun C 11 mPa_expression [.ref a0, .int a1, .int (-1 : Int32)] κ8 (oV (fun κ12 =>
          ∀ _ : zW C n0 κ12,
          ∀ _ : zM (zn κ8) κ8 κ12,
          ∀ _ : zT κ12 a0 = 10,
          zRun C 9 mPa_pass [.ref a0, .int (59 : Int32)] κ12 (oV (fun κ16 =>
            ∀ _ : zW C n0 κ16,
            ∀ _ : zM (zn κ12) κ12 κ16,
            ∀ _ : zT κ16 a0 = 10,
            zRun C 1 mPa_setPlace [.ref a0, .int a1, .int (2 : Int32), .int (zI κ16 paOwns a0)] κ16 (oV (fun κ21 =>
              ∀ _ : zW C n0 κ21,
              ∀ _ : zM (zn κ16) κ16 κ21,
              ∀ _ : zT κ21 (zR κ21 paCode a0) = 5,
              zRun C 0 mCo_setColumn [.ref (zR κ21 paCode a0), .int a1, .int (0 : Int32), .int (0 : Int32)] κ21 (oV (fun κ25 =>
                ∀ _ : zW C n0 κ25,
                ∀ _ : zM (zn κ21) κ21 κ25,
                ∀ _ : zT κ25 a0 = 10,
                zRun C 0 mPa_addOwn [.ref a0, .int r6] κ25 (oV (fun κ28 =>
                  ∀ _ : zW C n0 κ28,
                  ∀ _ : zM (zn κ25) κ25 κ28,
                  Q κ28) noX)) noX)) noX)) X)) X)) X)) X)) noX)
theorem t_Pa_localStatement_0 {C : zC} {n0 : Nat} {Q : zS → Prop} {X : zXp}   {a0 : Nat} {a1 : Int32} {κ : zS} (W : zW C n0 κ) (Ta0 : zT κ a0 = 10) (F : w_Pa_localStatement_0 C n0 Q X  a0 a1 κ) : zG C n0 12 mPa_localStatement 0 [some (.ref a0), some (.int a1), none] [] κ (oV Q X) := by
  unfold w_Pa_localStatement_0 at F
  refine y_aln dX7_localStatement_0 rfl ?_
  replace F := F Ta0
  refine k_X7_72 W dX7_localStatement_1 rfl (Nat.le_of_ble_eq_true rfl) (Nat.le_of_ble_eq_true rfl) (Or.inl Ta0) F (fun  κ1 Wκ1 Mκ1 F => ?_) (fun _ _ h9 => False.elim h9)
  replace F := F Wκ1 Mκ1
  refine y_aln dX7_localStatement_4 rfl ?_
  refine y_aln dX7_localStatement_5 rfl ?_
  have h4 := (ztm W Mκ1 Ta0)
  refine gf_X7_66 dX7_localStatement_6 rfl (Or.inl h4) ?_
  refine y_bi1 dX7_localStatement_9 zb_8 ?_
  replace F := F h4
  refine k_X7_152 Wκ1 dX7_localStatement_11 rfl (Nat.le_of_ble_eq_true rfl) (Nat.le_of_ble_eq_true rfl) (Or.inl h4) F (fun r6 κ5 Wκ5 Mκ5 F => ?_) (fun cls9 κ9 h9 => Or.inr ⟨_, rfl, h9⟩)
  replace F := F Wκ5 Mκ5
  refine y_isn dX7_localStatement_14 (Nat.le_of_ble_eq_true rfl) rfl ?_
  show zG _ _ _ _ _ [some (.ref a0), some (.int a1), some (.int r6)] _ _ _
  refine y_aln dX7_localStatement_15 rfl ?_
  refine y_bi1 dX7_localStatement_16 zb_61 ?_
  have h10 := (ztm Wκ1 Mκ5 h4)
  replace F := F h10
  refine k_X7_160 Wκ5 dX7_localStatement_18 rfl (Nat.le_of_ble_eq_true rfl) (Nat.le_of_ble_eq_true rfl) (Or.inl h10) F (fun  κ8 Wκ8 Mκ8 F => ?_) (fun cls9 κ9 h9 => Or.inr ⟨_, rfl, h9⟩)
  replace F := F Wκ8 Mκ8
  refine y_aln dX7_localStatement_21 rfl ?_
  refine y_iln dX7_localStatement_22 rfl ?_
  refine y_ic dX7_localStatement_23 zi_m1 ?_
  have h14 := (ztm Wκ5 Mκ8 h10)
  replace F := F h14
  refine k_X7_220 Wκ8 dX7_localStatement_24 rfl (Nat.le_of_ble_eq_true rfl) (Nat.le_of_ble_eq_true rfl) (Or.inl h14) F (fun  κ12 Wκ12 Mκ12 F => ?_) (fun cls9 κ9 h9 => Or.inr ⟨_, rfl, h9⟩)
  replace F := F Wκ12 Mκ12
  refine y_aln dX7_localStatement_27 rfl ?_
  refine y_bi1 dX7_localStatement_28 zb_59 ?_
  have h18 := (ztm Wκ8 Mκ12 h14)
  replace F := F h18
  refine k_X7_160 Wκ12 dX7_localStatement_30 rfl (Nat.le_of_ble_eq_true rfl) (Nat.le_of_ble_eq_true rfl) (Or.inl h18) F (fun  κ16 Wκ16 Mκ16 F => ?_) (fun cls9 κ9 h9 => Or.inr ⟨_, rfl, h9⟩)
  replace F := F Wκ16 Mκ16
  refine y_aln dX7_localStatement_33 rfl ?_
  refine y_iln dX7_localStatement_34 rfl ?_
  refine y_ic dX7_localStatement_35 zi_2 ?_
  refine y_aln dX7_localStatement_36 rfl ?_
  have h20 := (ztm Wκ12 Mκ16 h18)
  refine gf_X7_66 dX7_localStatement_37 rfl (Or.inl h20) ?_
  replace F := F h20
  refine k_X7_217 Wκ16 dX7_localStatement_40 rfl (Nat.le_of_ble_eq_true rfl) (Nat.le_of_ble_eq_true rfl) (Or.inl h20) F (fun  κ21 Wκ21 Mκ21 F => ?_) (fun _ _ h9 => False.elim h9)
  replace F := F Wκ21 Mκ21
  refine y_aln dX7_localStatement_43 rfl ?_
  have h24 := (ztm Wκ16 Mκ21 h20)
  refine gf_X7_15 Wκ21 dX7_localStatement_44 rfl h24 ?_
  refine y_iln dX7_localStatement_47 rfl ?_
  refine y_ic dX7_localStatement_48 zi_0 ?_
  refine y_ic dX7_localStatement_49 zi_0 ?_
  replace F := F (ty_paCode Wκ21 h24)
  refine k_X7_201 Wκ21 dX7_localStatement_50 rfl (Nat.le_of_ble_eq_true rfl) (Nat.le_of_ble_eq_true rfl) (Or.inl (ty_paCode Wκ21 h24)) F (fun  κ25 Wκ25 Mκ25 F => ?_) (fun _ _ h9 => False.elim h9)
  replace F := F Wκ25 Mκ25
  refine y_aln dX7_localStatement_53 rfl ?_
  refine y_iln dX7_localStatement_54 rfl ?_
  have h30 := (ztm Wκ21 Mκ25 h24)
  replace F := F h30
  refine k_X7_181 Wκ25 dX7_localStatement_55 rfl (Nat.le_of_ble_eq_true rfl) (Nat.le_of_ble_eq_true rfl) (Or.inl h30) F (fun  κ28 Wκ28 Mκ28 F => ?_) (fun _ _ h9 => False.elim h9)
  replace F := F Wκ28 Mκ28
  exact y_rv Wκ28 dX7_localStatement_58 rfl F

theorem Pa_localStatement_run {C : zC} {n0 : Nat} {Q : zS → Prop} {X : zXp} {a0 : Nat} {a1 : Int32} {κ : zS} (W : zW C n0 κ) (Ta0 : zT κ a0 = 10) (F : w_Pa_localStatement_0 C (zn κ) Q X a0 a1 κ) : zRun C 12 mPa_localStatement [.ref a0, .int a1] κ (oV Q X) := z_run (m_ent _ 1) (t_Pa_localStatement_0 (W.lo (Nat.le_trans W.1.2.1 W.1.2.2) (Nat.le_refl _)) Ta0 F)

theorem dX7_wordStatement_0 : decode cX7_wordStatement 0 = .ok (.aload_n 0, 1) := by decide +kernel
theorem dX7_wordStatement_1 : decode cX7_wordStatement 1 = .ok (.getfield 78, 3) := by decide +kernel
theorem dX7_wordStatement_4 : decode cX7_wordStatement 4 = .ok (.istore_n 2, 1) := by decide +kernel
theorem dX7_wordStatement_5 : decode cX7_wordStatement 5 = .ok (.aload_n 0, 1) := by decide +kernel
theorem dX7_wordStatement_6 : decode cX7_wordStatement 6 = .ok (.invokevirtual 72, 3) := by decide +kernel
theorem dX7_wordStatement_9 : decode cX7_wordStatement 9 = .ok (.aload_n 0, 1) := by decide +kernel
theorem dX7_wordStatement_10 : decode cX7_wordStatement 10 = .ok (.iload_n 1, 1) := by decide +kernel
theorem dX7_wordStatement_11 : decode cX7_wordStatement 11 = .ok (.iconst (-1), 1) := by decide +kernel
theorem dX7_wordStatement_12 : decode cX7_wordStatement 12 = .ok (.invokevirtual 220, 3) := by decide +kernel
theorem dX7_wordStatement_15 : decode cX7_wordStatement 15 = .ok (.iload_n 2, 1) := by decide +kernel
theorem dX7_wordStatement_16 : decode cX7_wordStatement 16 = .ok (.sipush 154, 3) := by decide +kernel
theorem dX7_wordStatement_19 : decode cX7_wordStatement 19 = .ok (.if_icmp .eq 10, 3) := by decide +kernel
theorem dX7_wordStatement_22 : decode cX7_wordStatement 22 = .ok (.iload_n 2, 1) := by decide +kernel
theorem dX7_wordStatement_23 : decode cX7_wordStatement 23 = .ok (.sipush 156, 3) := by decide +kernel
theorem dX7_wordStatement_26 : decode cX7_wordStatement 26 = .ok (.if_icmp .ne 39, 3) := by decide +kernel
theorem dX7_wordStatement_29 : decode cX7_wordStatement 29 = .ok (.aload_n 0, 1) := by decide +kernel
theorem dX7_wordStatement_30 : decode cX7_wordStatement 30 = .ok (.getfield 15, 3) := by decide +kernel
theorem dX7_wordStatement_33 : decode cX7_wordStatement 33 = .ok (.iload_n 1, 1) := by decide +kernel
theorem dX7_wordStatement_34 : decode cX7_wordStatement 34 = .ok (.iconst 0, 1) := by decide +kernel
theorem dX7_wordStatement_35 : decode cX7_wordStatement 35 = .ok (.iload_n 2, 1) := by decide +kernel
theorem dX7_wordStatement_36 : decode cX7_wordStatement 36 = .ok (.sipush 154, 3) := by decide +kernel
theorem dX7_wordStatement_39 : decode cX7_wordStatement 39 = .ok (.if_icmp .ne 8, 3) := by decide +kernel
theorem dX7_wordStatement_42 : decode cX7_wordStatement 42 = .ok (.bipush 6, 2) := by decide +kernel
theorem dX7_wordStatement_44 : decode cX7_wordStatement 44 = .ok (.goto 5, 3) := by decide +kernel
theorem dX7_wordStatement_47 : decode cX7_wordStatement 47 = .ok (.bipush 7, 2) := by decide +kernel
theorem dX7_wordStatement_49 : decode cX7_wordStatement 49 = .ok (.invokevirtual 201, 3) := by decide +kernel
theorem dX7_wordStatement_52 : decode cX7_wordStatement 52 = .ok (.aload_n 0, 1) := by decide +kernel
theorem dX7_wordStatement_53 : decode cX7_wordStatement 53 = .ok (.bipush 123, 2) := by decide +kernel
theorem dX7_wordStatement_55 : decode cX7_wordStatement 55 = .ok (.invokevirtual 166, 3) := by decide +kernel
theorem dX7_wordStatement_58 : decode cX7_wordStatement 58 = .ok (.aload_n 0, 1) := by decide +kernel
theorem dX7_wordStatement_59 : decode cX7_wordStatement 59 = .ok (.iload_n 1, 1) := by decide +kernel
theorem dX7_wordStatement_60 : decode cX7_wordStatement 60 = .ok (.iconst 0, 1) := by decide +kernel
theorem dX7_wordStatement_61 : decode cX7_wordStatement 61 = .ok (.invokevirtual 187, 3) := by decide +kernel
theorem dX7_wordStatement_64 : decode cX7_wordStatement 64 = .ok (.return_, 1) := by decide +kernel
theorem dX7_wordStatement_65 : decode cX7_wordStatement 65 = .ok (.aload_n 0, 1) := by decide +kernel
theorem dX7_wordStatement_66 : decode cX7_wordStatement 66 = .ok (.getfield 15, 3) := by decide +kernel
theorem dX7_wordStatement_69 : decode cX7_wordStatement 69 = .ok (.iload_n 1, 1) := by decide +kernel
theorem dX7_wordStatement_70 : decode cX7_wordStatement 70 = .ok (.iconst 0, 1) := by decide +kernel
theorem dX7_wordStatement_71 : decode cX7_wordStatement 71 = .ok (.iload_n 2, 1) := by decide +kernel
theorem dX7_wordStatement_72 : decode cX7_wordStatement 72 = .ok (.sipush 157, 3) := by decide +kernel
theorem dX7_wordStatement_75 : decode cX7_wordStatement 75 = .ok (.if_icmp .ne 8, 3) := by decide +kernel
theorem dX7_wordStatement_78 : decode cX7_wordStatement 78 = .ok (.bipush 8, 2) := by decide +kernel
theorem dX7_wordStatement_80 : decode cX7_wordStatement 80 = .ok (.goto 17, 3) := by decide +kernel
theorem dX7_wordStatement_83 : decode cX7_wordStatement 83 = .ok (.iload_n 2, 1) := by decide +kernel
theorem dX7_wordStatement_84 : decode cX7_wordStatement 84 = .ok (.sipush 158, 3) := by decide +kernel
theorem dX7_wordStatement_87 : decode cX7_wordStatement 87 = .ok (.if_icmp .ne 8, 3) := by decide +kernel
theorem dX7_wordStatement_90 : decode cX7_wordStatement 90 = .ok (.bipush 9, 2) := by decide +kernel
theorem dX7_wordStatement_92 : decode cX7_wordStatement 92 = .ok (.goto 5, 3) := by decide +kernel
theorem dX7_wordStatement_95 : decode cX7_wordStatement 95 = .ok (.bipush 10, 2) := by decide +kernel
theorem dX7_wordStatement_97 : decode cX7_wordStatement 97 = .ok (.invokevirtual 201, 3) := by decide +kernel
theorem dX7_wordStatement_100 : decode cX7_wordStatement 100 = .ok (.aload_n 0, 1) := by decide +kernel
theorem dX7_wordStatement_101 : decode cX7_wordStatement 101 = .ok (.bipush 59, 2) := by decide +kernel
theorem dX7_wordStatement_103 : decode cX7_wordStatement 103 = .ok (.invokevirtual 160, 3) := by decide +kernel
theorem dX7_wordStatement_106 : decode cX7_wordStatement 106 = .ok (.return_, 1) := by decide +kernel
def w_Pa_wordStatement_49 (C : zC) (n0 : Nat) (Q : zS → Prop) (X : zXp)  (a0 : Nat) (a1 : Int32) (s0 : Nat) (s1 : Int32) (s2 : Int32) (s3 : Int32) (κ : zS) : Prop :=
  ∀ _ : zT κ s0 = 5,
  zRun C 0 mCo_setColumn [.ref s0, .int s1, .int s2, .int s3] κ (oV (fun κ1 =>
    ∀ _ : zW C n0 κ1,
    ∀ _ : zM (zn κ) κ κ1,
    ∀ _ : zT κ1 a0 = 10,
    zRun C 9 mPa_openSign [.ref a0, .int (123 : Int32)] κ1 (oV (fun κ4 =>
      ∀ _ : zW C n0 κ4,
      ∀ _ : zM (zn κ1) κ1 κ4,
      ∀ _ : zT κ4 a0 = 10,
      zRun C 0 mPa_pushBlock [.ref a0, .int a1, .int (0 : Int32)] κ4 (oV (fun κ8 =>
        ∀ _ : zW C n0 κ8,
        ∀ _ : zM (zn κ4) κ4 κ8,
        Q κ8) noX)) X)) noX)
theorem t_Pa_wordStatement_49 {C : zC} {n0 : Nat} {Q : zS → Prop} {X : zXp}   {a0 : Nat} {a1 : Int32} {s0 : Nat} {s1 : Int32} {s2 : Int32} {s3 : Int32} {κ : zS} (W : zW C n0 κ) (Ta0 : zT κ a0 = 10) (Ts0 : zT κ s0 = 5) (F : w_Pa_wordStatement_49 C n0 Q X  a0 a1 s0 s1 s2 s3 κ) : zG C n0 12 mPa_wordStatement 49 [some (.ref a0), some (.int a1), none] [.int s3, .int s2, .int s1, .ref s0] κ (oV Q X) := by
  unfold w_Pa_wordStatement_49 at F
  replace F := F Ts0
  refine k_X7_201 W dX7_wordStatement_49 rfl (Nat.le_of_ble_eq_true rfl) (Nat.le_of_ble_eq_true rfl) (Or.inl Ts0) F (fun  κ1 Wκ1 Mκ1 F => ?_) (fun _ _ h9 => False.elim h9)
  replace F := F Wκ1 Mκ1
  refine y_aln dX7_wordStatement_52 rfl ?_
  refine y_bi1 dX7_wordStatement_53 zb_123 ?_
  have h6 := (ztm W Mκ1 Ta0)
  replace F := F h6
  refine k_X7_166 Wκ1 dX7_wordStatement_55 rfl (Nat.le_of_ble_eq_true rfl) (Nat.le_of_ble_eq_true rfl) (Or.inl h6) F (fun  κ4 Wκ4 Mκ4 F => ?_) (fun cls9 κ9 h9 => Or.inr ⟨_, rfl, h9⟩)
  replace F := F Wκ4 Mκ4
  refine y_aln dX7_wordStatement_58 rfl ?_
  refine y_iln dX7_wordStatement_59 rfl ?_
  refine y_ic dX7_wordStatement_60 zi_0 ?_
  have h10 := (ztm Wκ1 Mκ4 h6)
  replace F := F h10
  refine k_X7_187 Wκ4 dX7_wordStatement_61 rfl (Nat.le_of_ble_eq_true rfl) (Nat.le_of_ble_eq_true rfl) (Or.inl h10) F (fun  κ8 Wκ8 Mκ8 F => ?_) (fun _ _ h9 => False.elim h9)
  replace F := F Wκ8 Mκ8
  exact y_rv Wκ8 dX7_wordStatement_64 rfl F

def w_Pa_wordStatement_29 (C : zC) (n0 : Nat) (Q : zS → Prop) (X : zXp)  (a0 : Nat) (a1 : Int32) (a2 : Int32) (κ : zS) : Prop :=
  (¬ a2 = (154 : Int32) →
    w_Pa_wordStatement_49 C n0 Q X  a0 a1 (zR κ paCode a0) a1 (0 : Int32) (7 : Int32) κ) ∧
  (a2 = (154 : Int32) →
    w_Pa_wordStatement_49 C n0 Q X  a0 a1 (zR κ paCode a0) a1 (0 : Int32) (6 : Int32) κ)
theorem t_Pa_wordStatement_29 {C : zC} {n0 : Nat} {Q : zS → Prop} {X : zXp}   {a0 : Nat} {a1 : Int32} {a2 : Int32} {κ : zS} (W : zW C n0 κ) (Ta0 : zT κ a0 = 10) (F : w_Pa_wordStatement_29 C n0 Q X  a0 a1 a2 κ) : zG C n0 12 mPa_wordStatement 29 [some (.ref a0), some (.int a1), some (.int a2)] [] κ (oV Q X) := by
  unfold w_Pa_wordStatement_29 at F
  refine y_aln dX7_wordStatement_29 rfl ?_
  refine gf_X7_15 W dX7_wordStatement_30 rfl Ta0 ?_
  refine y_iln dX7_wordStatement_33 rfl ?_
  refine y_ic dX7_wordStatement_34 zi_0 ?_
  refine y_iln dX7_wordStatement_35 rfl ?_
  refine y_si dX7_wordStatement_36 zs_154 ?_
  refine y_iin (a2 = (154 : Int32)) dX7_wordStatement_39 (t := 47) rfl rfl (fun c9 => ?_) (fun c9 => ?_)
  · replace F := F.1 c9
    refine y_bi1 dX7_wordStatement_47 zb_7 ?_
    exact y_k (t_Pa_wordStatement_49  W Ta0 (ty_paCode W Ta0) F) ⟨rfl, rfl, trivial⟩
  · replace F := F.2 c9
    refine y_bi1 dX7_wordStatement_42 zb_6 ?_
    refine y_goto dX7_wordStatement_44 (t := 49) rfl ?_
    exact y_k (t_Pa_wordStatement_49  W Ta0 (ty_paCode W Ta0) F) ⟨rfl, rfl, trivial⟩

def w_Pa_wordStatement_97 (C : zC) (n0 : Nat) (Q : zS → Prop) (X : zXp)  (a0 : Nat) (s0 : Nat) (s1 : Int32) (s2 : Int32) (s3 : Int32) (κ : zS) : Prop :=
  ∀ _ : zT κ s0 = 5,
  zRun C 0 mCo_setColumn [.ref s0, .int s1, .int s2, .int s3] κ (oV (fun κ1 =>
    ∀ _ : zW C n0 κ1,
    ∀ _ : zM (zn κ) κ κ1,
    ∀ _ : zT κ1 a0 = 10,
    zRun C 9 mPa_pass [.ref a0, .int (59 : Int32)] κ1 (oV (fun κ4 =>
      ∀ _ : zW C n0 κ4,
      ∀ _ : zM (zn κ1) κ1 κ4,
      Q κ4) X)) noX)
theorem t_Pa_wordStatement_97 {C : zC} {n0 : Nat} {Q : zS → Prop} {X : zXp}   {a0 : Nat} {s0 : Nat} {s1 : Int32} {s2 : Int32} {s3 : Int32} {κ : zS} (W : zW C n0 κ) (Ta0 : zT κ a0 = 10) (Ts0 : zT κ s0 = 5) (F : w_Pa_wordStatement_97 C n0 Q X  a0 s0 s1 s2 s3 κ) : zG C n0 12 mPa_wordStatement 97 [some (.ref a0), none, none] [.int s3, .int s2, .int s1, .ref s0] κ (oV Q X) := by
  unfold w_Pa_wordStatement_97 at F
  replace F := F Ts0
  refine k_X7_201 W dX7_wordStatement_97 rfl (Nat.le_of_ble_eq_true rfl) (Nat.le_of_ble_eq_true rfl) (Or.inl Ts0) F (fun  κ1 Wκ1 Mκ1 F => ?_) (fun _ _ h9 => False.elim h9)
  replace F := F Wκ1 Mκ1
  refine y_aln dX7_wordStatement_100 rfl ?_
  refine y_bi1 dX7_wordStatement_101 zb_59 ?_
  have h6 := (ztm W Mκ1 Ta0)
  replace F := F h6
  refine k_X7_160 Wκ1 dX7_wordStatement_103 rfl (Nat.le_of_ble_eq_true rfl) (Nat.le_of_ble_eq_true rfl) (Or.inl h6) F (fun  κ4 Wκ4 Mκ4 F => ?_) (fun cls9 κ9 h9 => Or.inr ⟨_, rfl, h9⟩)
  replace F := F Wκ4 Mκ4
  exact y_rv Wκ4 dX7_wordStatement_106 rfl F

def w_Pa_wordStatement_0 (C : zC) (n0 : Nat) (Q : zS → Prop) (X : zXp)  (a0 : Nat) (a1 : Int32) (κ : zS) : Prop :=
  ∀ v2_1 : Int32, v2_1 = (zI κ paKind a0) →
  ∀ _ : zT κ a0 = 10,
  zRun C 0 mPa_take [.ref a0] κ (oV (fun κ2 =>
    ∀ _ : zW C n0 κ2,
    ∀ _ : zM (zn κ) κ κ2,
    ∀ _ : zT κ2 a0 = 10,
    zRun C 11 mPa_expression [.ref a0, .int a1, .int (-1 : Int32)] κ2 (oV (fun κ5 =>
      ∀ _ : zW C n0 κ5,
      ∀ _ : zM (zn κ2) κ2 κ5,
      (v2_1 = (154 : Int32) →
        w_Pa_wordStatement_29 C n0 Q X  a0 a1 v2_1 κ5) ∧
      (¬ v2_1 = (154 : Int32) →
        (¬ v2_1 = (156 : Int32) →
          (¬ v2_1 = (157 : Int32) →
            (¬ v2_1 = (158 : Int32) →
              w_Pa_wordStatement_97 C n0 Q X  a0 (zR κ5 paCode a0) a1 (0 : Int32) (10 : Int32) κ5) ∧
            (v2_1 = (158 : Int32) →
              w_Pa_wordStatement_97 C n0 Q X  a0 (zR κ5 paCode a0) a1 (0 : Int32) (9 : Int32) κ5)) ∧
          (v2_1 = (157 : Int32) →
            w_Pa_wordStatement_97 C n0 Q X  a0 (zR κ5 paCode a0) a1 (0 : Int32) (8 : Int32) κ5)) ∧
        (v2_1 = (156 : Int32) →
          w_Pa_wordStatement_29 C n0 Q X  a0 a1 v2_1 κ5))) X)) noX)
theorem t_Pa_wordStatement_0 {C : zC} {n0 : Nat} {Q : zS → Prop} {X : zXp}   {a0 : Nat} {a1 : Int32} {κ : zS} (W : zW C n0 κ) (Ta0 : zT κ a0 = 10) (F : w_Pa_wordStatement_0 C n0 Q X  a0 a1 κ) : zG C n0 12 mPa_wordStatement 0 [some (.ref a0), some (.int a1), none] [] κ (oV Q X) := by
  unfold w_Pa_wordStatement_0 at F
  refine y_aln dX7_wordStatement_0 rfl ?_
  refine gf_X7_78 dX7_wordStatement_1 rfl (Or.inl Ta0) ?_
  refine y_isnb dX7_wordStatement_4 (Nat.le_of_ble_eq_true rfl) (fun v2_1 ev2_1 => ?_)
  replace F := F v2_1 ev2_1
  show zG _ _ _ _ _ [some (.ref a0), some (.int a1), some (.int v2_1)] _ _ _
  refine y_aln dX7_wordStatement_5 rfl ?_
  replace F := F Ta0
  refine k_X7_72 W dX7_wordStatement_6 rfl (Nat.le_of_ble_eq_true rfl) (Nat.le_of_ble_eq_true rfl) (Or.inl Ta0) F (fun  κ2 Wκ2 Mκ2 F => ?_) (fun _ _ h9 => False.elim h9)
  replace F := F Wκ2 Mκ2
  refine y_aln dX7_wordStatement_9 rfl ?_
  refine y_iln dX7_wordStatement_10 rfl ?_
  refine y_ic dX7_wordStatement_11 zi_m1 ?_
  have h7 := (ztm W Mκ2 Ta0)
  replace F := F h7
  refine k_X7_220 Wκ2 dX7_wordStatement_12 rfl (Nat.le_of_ble_eq_true rfl) (Nat.le_of_ble_eq_true rfl) (Or.inl h7) F (fun  κ5 Wκ5 Mκ5 F => ?_) (fun cls9 κ9 h9 => Or.inr ⟨_, rfl, h9⟩)
  replace F := F Wκ5 Mκ5
  refine y_iln dX7_wordStatement_15 rfl ?_
  refine y_si dX7_wordStatement_16 zs_154 ?_
  refine y_ii (v2_1 = (154 : Int32)) dX7_wordStatement_19 (t := 29) rfl rfl (fun c9 => ?_) (fun c9 => ?_)
  · replace F := F.1 c9
    have h9 := (ztm Wκ2 Mκ5 h7)
    exact y_k (t_Pa_wordStatement_29  Wκ5 h9 F) ⟨rfl, rfl, rfl, trivial⟩
  · replace F := F.2 c9
    refine y_iln dX7_wordStatement_22 rfl ?_
    refine y_si dX7_wordStatement_23 zs_156 ?_
    refine y_iin (v2_1 = (156 : Int32)) dX7_wordStatement_26 (t := 65) rfl rfl (fun c9 => ?_) (fun c9 => ?_)
    · replace F := F.1 c9
      refine y_aln dX7_wordStatement_65 rfl ?_
      have h10 := (ztm Wκ2 Mκ5 h7)
      refine gf_X7_15 Wκ5 dX7_wordStatement_66 rfl h10 ?_
      refine y_iln dX7_wordStatement_69 rfl ?_
      refine y_ic dX7_wordStatement_70 zi_0 ?_
      refine y_iln dX7_wordStatement_71 rfl ?_
      refine y_si dX7_wordStatement_72 zs_157 ?_
      refine y_iin (v2_1 = (157 : Int32)) dX7_wordStatement_75 (t := 83) rfl rfl (fun c9 => ?_) (fun c9 => ?_)
      · replace F := F.1 c9
        refine y_iln dX7_wordStatement_83 rfl ?_
        refine y_si dX7_wordStatement_84 zs_158 ?_
        refine y_iin (v2_1 = (158 : Int32)) dX7_wordStatement_87 (t := 95) rfl rfl (fun c9 => ?_) (fun c9 => ?_)
        · replace F := F.1 c9
          refine y_bi1 dX7_wordStatement_95 zb_10 ?_
          exact y_k (t_Pa_wordStatement_97  Wκ5 h10 (ty_paCode Wκ5 h10) F) ⟨rfl, trivial⟩
        · replace F := F.2 c9
          refine y_bi1 dX7_wordStatement_90 zb_9 ?_
          refine y_goto dX7_wordStatement_92 (t := 97) rfl ?_
          exact y_k (t_Pa_wordStatement_97  Wκ5 h10 (ty_paCode Wκ5 h10) F) ⟨rfl, trivial⟩
      · replace F := F.2 c9
        refine y_bi1 dX7_wordStatement_78 zb_8 ?_
        refine y_goto dX7_wordStatement_80 (t := 97) rfl ?_
        exact y_k (t_Pa_wordStatement_97  Wκ5 h10 (ty_paCode Wκ5 h10) F) ⟨rfl, trivial⟩
    · replace F := F.2 c9
      have h11 := (ztm Wκ2 Mκ5 h7)
      exact y_k (t_Pa_wordStatement_29  Wκ5 h11 F) ⟨rfl, rfl, rfl, trivial⟩

theorem Pa_wordStatement_run {C : zC} {n0 : Nat} {Q : zS → Prop} {X : zXp} {a0 : Nat} {a1 : Int32} {κ : zS} (W : zW C n0 κ) (Ta0 : zT κ a0 = 10) (F : w_Pa_wordStatement_0 C (zn κ) Q X a0 a1 κ) : zRun C 12 mPa_wordStatement [.ref a0, .int a1] κ (oV Q X) := z_run (m_ent _ 1) (t_Pa_wordStatement_0 (W.lo (Nat.le_trans W.1.2.1 W.1.2.2) (Nat.le_refl _)) Ta0 F)

theorem dX7_behindPlace_0 : decode cX7_behindPlace 0 = .ok (.aload_n 0, 1) := by decide +kernel
theorem dX7_behindPlace_1 : decode cX7_behindPlace 1 = .ok (.getfield 78, 3) := by decide +kernel
theorem dX7_behindPlace_4 : decode cX7_behindPlace 4 = .ok (.bipush 126, 2) := by decide +kernel
theorem dX7_behindPlace_6 : decode cX7_behindPlace 6 = .ok (.if_icmp .ne 7, 3) := by decide +kernel
theorem dX7_behindPlace_9 : decode cX7_behindPlace 9 = .ok (.iconst 1, 1) := by decide +kernel
theorem dX7_behindPlace_10 : decode cX7_behindPlace 10 = .ok (.goto 4, 3) := by decide +kernel
theorem dX7_behindPlace_13 : decode cX7_behindPlace 13 = .ok (.iconst 0, 1) := by decide +kernel
theorem dX7_behindPlace_14 : decode cX7_behindPlace 14 = .ok (.istore_n 2, 1) := by decide +kernel
theorem dX7_behindPlace_15 : decode cX7_behindPlace 15 = .ok (.iload_n 2, 1) := by decide +kernel
theorem dX7_behindPlace_16 : decode cX7_behindPlace 16 = .ok (.ifCond .ne 9, 3) := by decide +kernel
theorem dX7_behindPlace_19 : decode cX7_behindPlace 19 = .ok (.aload_n 0, 1) := by decide +kernel
theorem dX7_behindPlace_20 : decode cX7_behindPlace 20 = .ok (.bipush 61, 2) := by decide +kernel
theorem dX7_behindPlace_22 : decode cX7_behindPlace 22 = .ok (.invokevirtual 127, 3) := by decide +kernel
theorem dX7_behindPlace_25 : decode cX7_behindPlace 25 = .ok (.aload_n 0, 1) := by decide +kernel
theorem dX7_behindPlace_26 : decode cX7_behindPlace 26 = .ok (.invokevirtual 72, 3) := by decide +kernel
theorem dX7_behindPlace_29 : decode cX7_behindPlace 29 = .ok (.iconst 0, 1) := by decide +kernel
theorem dX7_behindPlace_30 : decode cX7_behindPlace 30 = .ok (.istore_n 3, 1) := by decide +kernel
theorem dX7_behindPlace_31 : decode cX7_behindPlace 31 = .ok (.iload_n 2, 1) := by decide +kernel
theorem dX7_behindPlace_32 : decode cX7_behindPlace 32 = .ok (.ifCond .eq 47, 3) := by decide +kernel
theorem dX7_behindPlace_35 : decode cX7_behindPlace 35 = .ok (.aload_n 0, 1) := by decide +kernel
theorem dX7_behindPlace_36 : decode cX7_behindPlace 36 = .ok (.getfield 78, 3) := by decide +kernel
theorem dX7_behindPlace_39 : decode cX7_behindPlace 39 = .ok (.bipush 123, 2) := by decide +kernel
theorem dX7_behindPlace_41 : decode cX7_behindPlace 41 = .ok (.if_icmp .ne 7, 3) := by decide +kernel
theorem dX7_behindPlace_44 : decode cX7_behindPlace 44 = .ok (.iconst 3, 1) := by decide +kernel
theorem dX7_behindPlace_45 : decode cX7_behindPlace 45 = .ok (.goto 18, 3) := by decide +kernel
theorem dX7_behindPlace_48 : decode cX7_behindPlace 48 = .ok (.aload_n 0, 1) := by decide +kernel
theorem dX7_behindPlace_49 : decode cX7_behindPlace 49 = .ok (.getfield 78, 3) := by decide +kernel
theorem dX7_behindPlace_52 : decode cX7_behindPlace 52 = .ok (.sipush 160, 3) := by decide +kernel
theorem dX7_behindPlace_55 : decode cX7_behindPlace 55 = .ok (.if_icmp .ne 7, 3) := by decide +kernel
theorem dX7_behindPlace_58 : decode cX7_behindPlace 58 = .ok (.iconst 1, 1) := by decide +kernel
theorem dX7_behindPlace_59 : decode cX7_behindPlace 59 = .ok (.goto 4, 3) := by decide +kernel
theorem dX7_behindPlace_62 : decode cX7_behindPlace 62 = .ok (.iconst 2, 1) := by decide +kernel
theorem dX7_behindPlace_63 : decode cX7_behindPlace 63 = .ok (.istore_n 3, 1) := by decide +kernel
theorem dX7_behindPlace_64 : decode cX7_behindPlace 64 = .ok (.iload_n 3, 1) := by decide +kernel
theorem dX7_behindPlace_65 : decode cX7_behindPlace 65 = .ok (.iconst 2, 1) := by decide +kernel
theorem dX7_behindPlace_66 : decode cX7_behindPlace 66 = .ok (.if_icmp .ne 25, 3) := by decide +kernel
theorem dX7_behindPlace_69 : decode cX7_behindPlace 69 = .ok (.aload_n 0, 1) := by decide +kernel
theorem dX7_behindPlace_70 : decode cX7_behindPlace 70 = .ok (.sipush 161, 3) := by decide +kernel
theorem dX7_behindPlace_73 : decode cX7_behindPlace 73 = .ok (.invokevirtual 127, 3) := by decide +kernel
theorem dX7_behindPlace_76 : decode cX7_behindPlace 76 = .ok (.goto 15, 3) := by decide +kernel
theorem dX7_behindPlace_79 : decode cX7_behindPlace 79 = .ok (.aload_n 0, 1) := by decide +kernel
theorem dX7_behindPlace_80 : decode cX7_behindPlace 80 = .ok (.getfield 78, 3) := by decide +kernel
theorem dX7_behindPlace_83 : decode cX7_behindPlace 83 = .ok (.sipush 162, 3) := by decide +kernel
theorem dX7_behindPlace_86 : decode cX7_behindPlace 86 = .ok (.if_icmp .ne 5, 3) := by decide +kernel
theorem dX7_behindPlace_89 : decode cX7_behindPlace 89 = .ok (.iconst 4, 1) := by decide +kernel
theorem dX7_behindPlace_90 : decode cX7_behindPlace 90 = .ok (.istore_n 3, 1) := by decide +kernel
theorem dX7_behindPlace_91 : decode cX7_behindPlace 91 = .ok (.aload_n 0, 1) := by decide +kernel
theorem dX7_behindPlace_92 : decode cX7_behindPlace 92 = .ok (.getfield 15, 3) := by decide +kernel
theorem dX7_behindPlace_95 : decode cX7_behindPlace 95 = .ok (.iload_n 1, 1) := by decide +kernel
theorem dX7_behindPlace_96 : decode cX7_behindPlace 96 = .ok (.iconst 0, 1) := by decide +kernel
theorem dX7_behindPlace_97 : decode cX7_behindPlace 97 = .ok (.iload_n 3, 1) := by decide +kernel
theorem dX7_behindPlace_98 : decode cX7_behindPlace 98 = .ok (.invokevirtual 201, 3) := by decide +kernel
theorem dX7_behindPlace_101 : decode cX7_behindPlace 101 = .ok (.iload_n 3, 1) := by decide +kernel
theorem dX7_behindPlace_102 : decode cX7_behindPlace 102 = .ok (.ifCond .ne 30, 3) := by decide +kernel
theorem dX7_behindPlace_105 : decode cX7_behindPlace 105 = .ok (.aload_n 0, 1) := by decide +kernel
theorem dX7_behindPlace_106 : decode cX7_behindPlace 106 = .ok (.getfield 78, 3) := by decide +kernel
theorem dX7_behindPlace_109 : decode cX7_behindPlace 109 = .ok (.sipush 140, 3) := by decide +kernel
theorem dX7_behindPlace_112 : decode cX7_behindPlace 112 = .ok (.if_icmp .ne 20, 3) := by decide +kernel
theorem dX7_behindPlace_115 : decode cX7_behindPlace 115 = .ok (.aload_n 0, 1) := by decide +kernel
theorem dX7_behindPlace_116 : decode cX7_behindPlace 116 = .ok (.getfield 15, 3) := by decide +kernel
theorem dX7_behindPlace_119 : decode cX7_behindPlace 119 = .ok (.iload_n 1, 1) := by decide +kernel
theorem dX7_behindPlace_120 : decode cX7_behindPlace 120 = .ok (.iconst 1, 1) := by decide +kernel
theorem dX7_behindPlace_121 : decode cX7_behindPlace 121 = .ok (.invokevirtual 194, 3) := by decide +kernel
theorem dX7_behindPlace_124 : decode cX7_behindPlace 124 = .ok (.iconst 3, 1) := by decide +kernel
theorem dX7_behindPlace_125 : decode cX7_behindPlace 125 = .ok (.if_icmp .eq 7, 3) := by decide +kernel
theorem dX7_behindPlace_128 : decode cX7_behindPlace 128 = .ok (.iconst 1, 1) := by decide +kernel
theorem dX7_behindPlace_129 : decode cX7_behindPlace 129 = .ok (.goto 4, 3) := by decide +kernel
theorem dX7_behindPlace_132 : decode cX7_behindPlace 132 = .ok (.iconst 0, 1) := by decide +kernel
theorem dX7_behindPlace_133 : decode cX7_behindPlace 133 = .ok (.istore 4, 2) := by decide +kernel
theorem dX7_behindPlace_135 : decode cX7_behindPlace 135 = .ok (.iload 4, 2) := by decide +kernel
theorem dX7_behindPlace_137 : decode cX7_behindPlace 137 = .ok (.ifCond .ne 18, 3) := by decide +kernel
theorem dX7_behindPlace_140 : decode cX7_behindPlace 140 = .ok (.iload_n 3, 1) := by decide +kernel
theorem dX7_behindPlace_141 : decode cX7_behindPlace 141 = .ok (.iconst 1, 1) := by decide +kernel
theorem dX7_behindPlace_142 : decode cX7_behindPlace 142 = .ok (.if_icmp .eq 13, 3) := by decide +kernel
theorem dX7_behindPlace_145 : decode cX7_behindPlace 145 = .ok (.iload_n 3, 1) := by decide +kernel
theorem dX7_behindPlace_146 : decode cX7_behindPlace 146 = .ok (.iconst 2, 1) := by decide +kernel
theorem dX7_behindPlace_147 : decode cX7_behindPlace 147 = .ok (.if_icmp .eq 8, 3) := by decide +kernel
theorem dX7_behindPlace_150 : decode cX7_behindPlace 150 = .ok (.iload_n 3, 1) := by decide +kernel
theorem dX7_behindPlace_151 : decode cX7_behindPlace 151 = .ok (.iconst 4, 1) := by decide +kernel
theorem dX7_behindPlace_152 : decode cX7_behindPlace 152 = .ok (.if_icmp .ne 7, 3) := by decide +kernel
theorem dX7_behindPlace_155 : decode cX7_behindPlace 155 = .ok (.aload_n 0, 1) := by decide +kernel
theorem dX7_behindPlace_156 : decode cX7_behindPlace 156 = .ok (.invokevirtual 72, 3) := by decide +kernel
theorem dX7_behindPlace_159 : decode cX7_behindPlace 159 = .ok (.iload 4, 2) := by decide +kernel
theorem dX7_behindPlace_161 : decode cX7_behindPlace 161 = .ok (.ifCond .eq 12, 3) := by decide +kernel
theorem dX7_behindPlace_164 : decode cX7_behindPlace 164 = .ok (.aload_n 0, 1) := by decide +kernel
theorem dX7_behindPlace_165 : decode cX7_behindPlace 165 = .ok (.getfield 55, 3) := by decide +kernel
theorem dX7_behindPlace_168 : decode cX7_behindPlace 168 = .ok (.iconst 1, 1) := by decide +kernel
theorem dX7_behindPlace_169 : decode cX7_behindPlace 169 = .ok (.isub, 1) := by decide +kernel
theorem dX7_behindPlace_170 : decode cX7_behindPlace 170 = .ok (.goto 4, 3) := by decide +kernel
theorem dX7_behindPlace_173 : decode cX7_behindPlace 173 = .ok (.iconst (-1), 1) := by decide +kernel
theorem dX7_behindPlace_174 : decode cX7_behindPlace 174 = .ok (.ireturn, 1) := by decide +kernel
def w_Pa_behindPlace_159 (C : zC) (n0 : Nat) (Q : Int32 → zS → Prop) (X : zXp)  (a0 : Nat) (a4 : Int32) (κ : zS) : Prop :=
  (a4 = (0 : Int32) →
    Q (-1 : Int32) κ) ∧
  (¬ a4 = (0 : Int32) →
    Q ((zI κ paAt a0) - (1 : Int32)) κ)
theorem t_Pa_behindPlace_159 {C : zC} {n0 : Nat} {Q : Int32 → zS → Prop} {X : zXp}   {a0 : Nat} {a4 : Int32} {κ : zS} (W : zW C n0 κ) (Ta0 : zT κ a0 = 10) (F : w_Pa_behindPlace_159 C n0 Q X  a0 a4 κ) : zG C n0 10 mPa_behindPlace 159 [some (.ref a0), none, none, none, some (.int a4)] [] κ (oI Q X) := by
  unfold w_Pa_behindPlace_159 at F
  refine y_il dX7_behindPlace_159 rfl ?_
  refine y_i (a4 = (0 : Int32)) dX7_behindPlace_161 (t := 173) rfl rfl (fun c9 => ?_) (fun c9 => ?_)
  · replace F := F.1 c9
    refine y_ic dX7_behindPlace_173 zi_m1 ?_
    exact y_ri W dX7_behindPlace_174 rfl in_nar F
  · replace F := F.2 c9
    refine y_aln dX7_behindPlace_164 rfl ?_
    refine gf_X7_55 dX7_behindPlace_165 rfl (Or.inl Ta0) ?_
    refine y_ic dX7_behindPlace_168 zi_1 ?_
    refine y_isub dX7_behindPlace_169 ?_
    refine y_goto dX7_behindPlace_170 (t := 174) rfl ?_
    exact y_ri W dX7_behindPlace_174 rfl in_nar F

def w_Pa_behindPlace_133 (C : zC) (n0 : Nat) (Q : Int32 → zS → Prop) (X : zXp)  (a0 : Nat) (a3 : Int32) (s0 : Int32) (κ : zS) : Prop :=
  (¬ s0 = (0 : Int32) →
    ∀ _ : zT κ a0 = 10,
    zRun C 0 mPa_take [.ref a0] κ (oV (fun κ1 =>
      ∀ _ : zW C n0 κ1,
      ∀ _ : zM (zn κ) κ κ1,
      w_Pa_behindPlace_159 C n0 Q X  a0 s0 κ1) noX)) ∧
  (s0 = (0 : Int32) →
    (a3 = (1 : Int32) →
      ∀ _ : zT κ a0 = 10,
      zRun C 0 mPa_take [.ref a0] κ (oV (fun κ5 =>
        ∀ _ : zW C n0 κ5,
        ∀ _ : zM (zn κ) κ κ5,
        w_Pa_behindPlace_159 C n0 Q X  a0 s0 κ5) noX)) ∧
    (¬ a3 = (1 : Int32) →
      (a3 = (2 : Int32) →
        ∀ _ : zT κ a0 = 10,
        zRun C 0 mPa_take [.ref a0] κ (oV (fun κ9 =>
          ∀ _ : zW C n0 κ9,
          ∀ _ : zM (zn κ) κ κ9,
          w_Pa_behindPlace_159 C n0 Q X  a0 s0 κ9) noX)) ∧
      (¬ a3 = (2 : Int32) →
        (¬ a3 = (4 : Int32) →
          w_Pa_behindPlace_159 C n0 Q X  a0 s0 κ) ∧
        (a3 = (4 : Int32) →
          ∀ _ : zT κ a0 = 10,
          zRun C 0 mPa_take [.ref a0] κ (oV (fun κ13 =>
            ∀ _ : zW C n0 κ13,
            ∀ _ : zM (zn κ) κ κ13,
            w_Pa_behindPlace_159 C n0 Q X  a0 s0 κ13) noX)))))
theorem t_Pa_behindPlace_133 {C : zC} {n0 : Nat} {Q : Int32 → zS → Prop} {X : zXp}   {a0 : Nat} {a3 : Int32} {s0 : Int32} {κ : zS} (W : zW C n0 κ) (Ta0 : zT κ a0 = 10) (F : w_Pa_behindPlace_133 C n0 Q X  a0 a3 s0 κ) : zG C n0 10 mPa_behindPlace 133 [some (.ref a0), none, none, some (.int a3), none] [.int s0] κ (oI Q X) := by
  unfold w_Pa_behindPlace_133 at F
  refine y_is dX7_behindPlace_133 (Nat.le_of_ble_eq_true rfl) rfl ?_
  show zG _ _ _ _ _ [some (.ref a0), none, none, some (.int a3), some (.int s0)] _ _ _
  refine y_il dX7_behindPlace_135 rfl ?_
  refine y_in (s0 = (0 : Int32)) dX7_behindPlace_137 (t := 155) rfl rfl (fun c9 => ?_) (fun c9 => ?_)
  · replace F := F.1 c9
    refine y_aln dX7_behindPlace_155 rfl ?_
    replace F := F Ta0
    refine k_X7_72 W dX7_behindPlace_156 rfl (Nat.le_of_ble_eq_true rfl) (Nat.le_of_ble_eq_true rfl) (Or.inl Ta0) F (fun  κ1 Wκ1 Mκ1 F => ?_) (fun _ _ h9 => False.elim h9)
    replace F := F Wκ1 Mκ1
    have h4 := (ztm W Mκ1 Ta0)
    exact y_k (t_Pa_behindPlace_159  Wκ1 h4 F) ⟨rfl, rfl, trivial⟩
  · replace F := F.2 c9
    refine y_iln dX7_behindPlace_140 rfl ?_
    refine y_ic dX7_behindPlace_141 zi_1 ?_
    refine y_ii (a3 = (1 : Int32)) dX7_behindPlace_142 (t := 155) rfl rfl (fun c9 => ?_) (fun c9 => ?_)
    · replace F := F.1 c9
      refine y_aln dX7_behindPlace_155 rfl ?_
      replace F := F Ta0
      refine k_X7_72 W dX7_behindPlace_156 rfl (Nat.le_of_ble_eq_true rfl) (Nat.le_of_ble_eq_true rfl) (Or.inl Ta0) F (fun  κ5 Wκ5 Mκ5 F => ?_) (fun _ _ h9 => False.elim h9)
      replace F := F Wκ5 Mκ5
      have h8 := (ztm W Mκ5 Ta0)
      exact y_k (t_Pa_behindPlace_159  Wκ5 h8 F) ⟨rfl, rfl, trivial⟩
    · replace F := F.2 c9
      refine y_iln dX7_behindPlace_145 rfl ?_
      refine y_ic dX7_behindPlace_146 zi_2 ?_
      refine y_ii (a3 = (2 : Int32)) dX7_behindPlace_147 (t := 155) rfl rfl (fun c9 => ?_) (fun c9 => ?_)
      · replace F := F.1 c9
        refine y_aln dX7_behindPlace_155 rfl ?_
        replace F := F Ta0
        refine k_X7_72 W dX7_behindPlace_156 rfl (Nat.le_of_ble_eq_true rfl) (Nat.le_of_ble_eq_true rfl) (Or.inl Ta0) F (fun  κ9 Wκ9 Mκ9 F => ?_) (fun _ _ h9 => False.elim h9)
        replace F := F Wκ9 Mκ9
        have h12 := (ztm W Mκ9 Ta0)
        exact y_k (t_Pa_behindPlace_159  Wκ9 h12 F) ⟨rfl, rfl, trivial⟩
      · replace F := F.2 c9
        refine y_iln dX7_behindPlace_150 rfl ?_
        refine y_ic dX7_behindPlace_151 zi_4 ?_
        refine y_iin (a3 = (4 : Int32)) dX7_behindPlace_152 (t := 159) rfl rfl (fun c9 => ?_) (fun c9 => ?_)
        · replace F := F.1 c9
          exact y_k (t_Pa_behindPlace_159  W Ta0 F) ⟨rfl, rfl, trivial⟩
        · replace F := F.2 c9
          refine y_aln dX7_behindPlace_155 rfl ?_
          replace F := F Ta0
          refine k_X7_72 W dX7_behindPlace_156 rfl (Nat.le_of_ble_eq_true rfl) (Nat.le_of_ble_eq_true rfl) (Or.inl Ta0) F (fun  κ13 Wκ13 Mκ13 F => ?_) (fun _ _ h9 => False.elim h9)
          replace F := F Wκ13 Mκ13
          have h16 := (ztm W Mκ13 Ta0)
          exact y_k (t_Pa_behindPlace_159  Wκ13 h16 F) ⟨rfl, rfl, trivial⟩

def w_Pa_behindPlace_91 (C : zC) (n0 : Nat) (Q : Int32 → zS → Prop) (X : zXp)  (a0 : Nat) (a1 : Int32) (a3 : Int32) (κ : zS) : Prop :=
  ∀ _ : zT κ (zR κ paCode a0) = 5,
  zRun C 0 mCo_setColumn [.ref (zR κ paCode a0), .int a1, .int (0 : Int32), .int a3] κ (oV (fun κ1 =>
    ∀ _ : zW C n0 κ1,
    ∀ _ : zM (zn κ) κ κ1,
    (¬ a3 = (0 : Int32) →
      w_Pa_behindPlace_133 C n0 Q X  a0 a3 (0 : Int32) κ1) ∧
    (a3 = (0 : Int32) →
      (¬ (zI κ1 paKind a0) = (140 : Int32) →
        w_Pa_behindPlace_133 C n0 Q X  a0 a3 (0 : Int32) κ1) ∧
      ((zI κ1 paKind a0) = (140 : Int32) →
        ∀ _ : zT κ1 (zR κ1 paCode a0) = 5,
        zRun C 0 mCo_column [.ref (zR κ1 paCode a0), .int a1, .int (1 : Int32)] κ1 (oI (fun r7 κ6 =>
          ∀ _ : zW C n0 κ6,
          ∀ _ : zM (zn κ1) κ1 κ6,
          (r7 = (3 : Int32) →
            w_Pa_behindPlace_133 C n0 Q X  a0 a3 (0 : Int32) κ6) ∧
          (¬ r7 = (3 : Int32) →
            w_Pa_behindPlace_133 C n0 Q X  a0 a3 (1 : Int32) κ6)) noX)))) noX)
theorem t_Pa_behindPlace_91 {C : zC} {n0 : Nat} {Q : Int32 → zS → Prop} {X : zXp}   {a0 : Nat} {a1 : Int32} {a3 : Int32} {κ : zS} (W : zW C n0 κ) (Ta0 : zT κ a0 = 10) (F : w_Pa_behindPlace_91 C n0 Q X  a0 a1 a3 κ) : zG C n0 10 mPa_behindPlace 91 [some (.ref a0), some (.int a1), none, some (.int a3), none] [] κ (oI Q X) := by
  unfold w_Pa_behindPlace_91 at F
  refine y_aln dX7_behindPlace_91 rfl ?_
  refine gf_X7_15 W dX7_behindPlace_92 rfl Ta0 ?_
  refine y_iln dX7_behindPlace_95 rfl ?_
  refine y_ic dX7_behindPlace_96 zi_0 ?_
  refine y_iln dX7_behindPlace_97 rfl ?_
  replace F := F (ty_paCode W Ta0)
  refine k_X7_201 W dX7_behindPlace_98 rfl (Nat.le_of_ble_eq_true rfl) (Nat.le_of_ble_eq_true rfl) (Or.inl (ty_paCode W Ta0)) F (fun  κ1 Wκ1 Mκ1 F => ?_) (fun _ _ h9 => False.elim h9)
  replace F := F Wκ1 Mκ1
  refine y_iln dX7_behindPlace_101 rfl ?_
  refine y_in (a3 = (0 : Int32)) dX7_behindPlace_102 (t := 132) rfl rfl (fun c9 => ?_) (fun c9 => ?_)
  · replace F := F.1 c9
    refine y_ic dX7_behindPlace_132 zi_0 ?_
    have h4 := (ztm W Mκ1 Ta0)
    exact y_k (t_Pa_behindPlace_133  Wκ1 h4 F) ⟨rfl, rfl, trivial⟩
  · replace F := F.2 c9
    refine y_aln dX7_behindPlace_105 rfl ?_
    have h5 := (ztm W Mκ1 Ta0)
    refine gf_X7_78 dX7_behindPlace_106 rfl (Or.inl h5) ?_
    refine y_si dX7_behindPlace_109 zs_140 ?_
    refine y_iin ((zI κ1 paKind a0) = (140 : Int32)) dX7_behindPlace_112 (t := 132) rfl rfl (fun c9 => ?_) (fun c9 => ?_)
    · replace F := F.1 c9
      refine y_ic dX7_behindPlace_132 zi_0 ?_
      exact y_k (t_Pa_behindPlace_133  Wκ1 h5 F) ⟨rfl, rfl, trivial⟩
    · replace F := F.2 c9
      refine y_aln dX7_behindPlace_115 rfl ?_
      refine gf_X7_15 Wκ1 dX7_behindPlace_116 rfl h5 ?_
      refine y_iln dX7_behindPlace_119 rfl ?_
      refine y_ic dX7_behindPlace_120 zi_1 ?_
      replace F := F (ty_paCode Wκ1 h5)
      refine k_X7_194 Wκ1 dX7_behindPlace_121 rfl (Nat.le_of_ble_eq_true rfl) (Nat.le_of_ble_eq_true rfl) (Or.inl (ty_paCode Wκ1 h5)) F (fun r7 κ6 Wκ6 Mκ6 F => ?_) (fun _ _ h9 => False.elim h9)
      replace F := F Wκ6 Mκ6
      refine y_ic dX7_behindPlace_124 zi_3 ?_
      refine y_ii (r7 = (3 : Int32)) dX7_behindPlace_125 (t := 132) rfl rfl (fun c9 => ?_) (fun c9 => ?_)
      · replace F := F.1 c9
        refine y_ic dX7_behindPlace_132 zi_0 ?_
        have h9 := (ztm Wκ1 Mκ6 h5)
        exact y_k (t_Pa_behindPlace_133  Wκ6 h9 F) ⟨rfl, rfl, trivial⟩
      · replace F := F.2 c9
        refine y_ic dX7_behindPlace_128 zi_1 ?_
        refine y_goto dX7_behindPlace_129 (t := 133) rfl ?_
        have h10 := (ztm Wκ1 Mκ6 h5)
        exact y_k (t_Pa_behindPlace_133  Wκ6 h10 F) ⟨rfl, rfl, trivial⟩

def w_Pa_behindPlace_63 (C : zC) (n0 : Nat) (Q : Int32 → zS → Prop) (X : zXp)  (a0 : Nat) (a1 : Int32) (s0 : Int32) (κ : zS) : Prop :=
  (¬ s0 = (2 : Int32) →
    w_Pa_behindPlace_91 C n0 Q X  a0 a1 s0 κ) ∧
  (s0 = (2 : Int32) →
    ∀ _ : zT κ a0 = 10,
    zRun C 9 mPa_expect [.ref a0, .int (161 : Int32)] κ (oV (fun κ1 =>
      ∀ _ : zW C n0 κ1,
      ∀ _ : zM (zn κ) κ κ1,
      w_Pa_behindPlace_91 C n0 Q X  a0 a1 s0 κ1) X))
theorem t_Pa_behindPlace_63 {C : zC} {n0 : Nat} {Q : Int32 → zS → Prop} {X : zXp}   {a0 : Nat} {a1 : Int32} {s0 : Int32} {κ : zS} (W : zW C n0 κ) (Ta0 : zT κ a0 = 10) (F : w_Pa_behindPlace_63 C n0 Q X  a0 a1 s0 κ) : zG C n0 10 mPa_behindPlace 63 [some (.ref a0), some (.int a1), none, none, none] [.int s0] κ (oI Q X) := by
  unfold w_Pa_behindPlace_63 at F
  refine y_isn dX7_behindPlace_63 (Nat.le_of_ble_eq_true rfl) rfl ?_
  show zG _ _ _ _ _ [some (.ref a0), some (.int a1), none, some (.int s0), none] _ _ _
  refine y_iln dX7_behindPlace_64 rfl ?_
  refine y_ic dX7_behindPlace_65 zi_2 ?_
  refine y_iin (s0 = (2 : Int32)) dX7_behindPlace_66 (t := 91) rfl rfl (fun c9 => ?_) (fun c9 => ?_)
  · replace F := F.1 c9
    exact y_k (t_Pa_behindPlace_91  W Ta0 F) ⟨rfl, rfl, rfl, trivial⟩
  · replace F := F.2 c9
    refine y_aln dX7_behindPlace_69 rfl ?_
    refine y_si dX7_behindPlace_70 zs_161 ?_
    replace F := F Ta0
    refine k_X7_127 W dX7_behindPlace_73 rfl (Nat.le_of_ble_eq_true rfl) (Nat.le_of_ble_eq_true rfl) (Or.inl Ta0) F (fun  κ1 Wκ1 Mκ1 F => ?_) (fun cls9 κ9 h9 => Or.inr ⟨_, rfl, h9⟩)
    replace F := F Wκ1 Mκ1
    refine y_goto dX7_behindPlace_76 (t := 91) rfl ?_
    have h4 := (ztm W Mκ1 Ta0)
    exact y_k (t_Pa_behindPlace_91  Wκ1 h4 F) ⟨rfl, rfl, rfl, trivial⟩

def w_Pa_behindPlace_25 (C : zC) (n0 : Nat) (Q : Int32 → zS → Prop) (X : zXp)  (a0 : Nat) (a1 : Int32) (a2 : Int32) (κ : zS) : Prop :=
  ∀ _ : zT κ a0 = 10,
  zRun C 0 mPa_take [.ref a0] κ (oV (fun κ1 =>
    ∀ _ : zW C n0 κ1,
    ∀ _ : zM (zn κ) κ κ1,
    (a2 = (0 : Int32) →
      (¬ (zI κ1 paKind a0) = (162 : Int32) →
        w_Pa_behindPlace_91 C n0 Q X  a0 a1 (0 : Int32) κ1) ∧
      ((zI κ1 paKind a0) = (162 : Int32) →
        w_Pa_behindPlace_91 C n0 Q X  a0 a1 (4 : Int32) κ1)) ∧
    (¬ a2 = (0 : Int32) →
      (¬ (zI κ1 paKind a0) = (123 : Int32) →
        (¬ (zI κ1 paKind a0) = (160 : Int32) →
          w_Pa_behindPlace_63 C n0 Q X  a0 a1 (2 : Int32) κ1) ∧
        ((zI κ1 paKind a0) = (160 : Int32) →
          w_Pa_behindPlace_63 C n0 Q X  a0 a1 (1 : Int32) κ1)) ∧
      ((zI κ1 paKind a0) = (123 : Int32) →
        w_Pa_behindPlace_63 C n0 Q X  a0 a1 (3 : Int32) κ1))) noX)
theorem t_Pa_behindPlace_25 {C : zC} {n0 : Nat} {Q : Int32 → zS → Prop} {X : zXp}   {a0 : Nat} {a1 : Int32} {a2 : Int32} {κ : zS} (W : zW C n0 κ) (Ta0 : zT κ a0 = 10) (F : w_Pa_behindPlace_25 C n0 Q X  a0 a1 a2 κ) : zG C n0 10 mPa_behindPlace 25 [some (.ref a0), some (.int a1), some (.int a2), none, none] [] κ (oI Q X) := by
  unfold w_Pa_behindPlace_25 at F
  refine y_aln dX7_behindPlace_25 rfl ?_
  replace F := F Ta0
  refine k_X7_72 W dX7_behindPlace_26 rfl (Nat.le_of_ble_eq_true rfl) (Nat.le_of_ble_eq_true rfl) (Or.inl Ta0) F (fun  κ1 Wκ1 Mκ1 F => ?_) (fun _ _ h9 => False.elim h9)
  replace F := F Wκ1 Mκ1
  refine y_ic dX7_behindPlace_29 zi_0 ?_
  refine y_isn dX7_behindPlace_30 (Nat.le_of_ble_eq_true rfl) rfl ?_
  show zG _ _ _ _ _ [some (.ref a0), some (.int a1), some (.int a2), some (.int (0 : Int32)), none] _ _ _
  refine y_iln dX7_behindPlace_31 rfl ?_
  refine y_i (a2 = (0 : Int32)) dX7_behindPlace_32 (t := 79) rfl rfl (fun c9 => ?_) (fun c9 => ?_)
  · replace F := F.1 c9
    refine y_aln dX7_behindPlace_79 rfl ?_
    have h4 := (ztm W Mκ1 Ta0)
    refine gf_X7_78 dX7_behindPlace_80 rfl (Or.inl h4) ?_
    refine y_si dX7_behindPlace_83 zs_162 ?_
    refine y_iin ((zI κ1 paKind a0) = (162 : Int32)) dX7_behindPlace_86 (t := 91) rfl rfl (fun c9 => ?_) (fun c9 => ?_)
    · replace F := F.1 c9
      exact y_k (t_Pa_behindPlace_91  Wκ1 h4 F) ⟨rfl, rfl, rfl, trivial⟩
    · replace F := F.2 c9
      refine y_ic dX7_behindPlace_89 zi_4 ?_
      refine y_isn dX7_behindPlace_90 (Nat.le_of_ble_eq_true rfl) rfl ?_
      show zG _ _ _ _ _ [some (.ref a0), some (.int a1), some (.int a2), some (.int (4 : Int32)), none] _ _ _
      exact y_k (t_Pa_behindPlace_91  Wκ1 h4 F) ⟨rfl, rfl, rfl, trivial⟩
  · replace F := F.2 c9
    refine y_aln dX7_behindPlace_35 rfl ?_
    have h5 := (ztm W Mκ1 Ta0)
    refine gf_X7_78 dX7_behindPlace_36 rfl (Or.inl h5) ?_
    refine y_bi1 dX7_behindPlace_39 zb_123 ?_
    refine y_iin ((zI κ1 paKind a0) = (123 : Int32)) dX7_behindPlace_41 (t := 48) rfl rfl (fun c9 => ?_) (fun c9 => ?_)
    · replace F := F.1 c9
      refine y_aln dX7_behindPlace_48 rfl ?_
      refine gf_X7_78 dX7_behindPlace_49 rfl (Or.inl h5) ?_
      refine y_si dX7_behindPlace_52 zs_160 ?_
      refine y_iin ((zI κ1 paKind a0) = (160 : Int32)) dX7_behindPlace_55 (t := 62) rfl rfl (fun c9 => ?_) (fun c9 => ?_)
      · replace F := F.1 c9
        refine y_ic dX7_behindPlace_62 zi_2 ?_
        exact y_k (t_Pa_behindPlace_63  Wκ1 h5 F) ⟨rfl, rfl, trivial⟩
      · replace F := F.2 c9
        refine y_ic dX7_behindPlace_58 zi_1 ?_
        refine y_goto dX7_behindPlace_59 (t := 63) rfl ?_
        exact y_k (t_Pa_behindPlace_63  Wκ1 h5 F) ⟨rfl, rfl, trivial⟩
    · replace F := F.2 c9
      refine y_ic dX7_behindPlace_44 zi_3 ?_
      refine y_goto dX7_behindPlace_45 (t := 63) rfl ?_
      exact y_k (t_Pa_behindPlace_63  Wκ1 h5 F) ⟨rfl, rfl, trivial⟩

def w_Pa_behindPlace_14 (C : zC) (n0 : Nat) (Q : Int32 → zS → Prop) (X : zXp)  (a0 : Nat) (a1 : Int32) (s0 : Int32) (κ : zS) : Prop :=
  (¬ s0 = (0 : Int32) →
    w_Pa_behindPlace_25 C n0 Q X  a0 a1 s0 κ) ∧
  (s0 = (0 : Int32) →
    ∀ _ : zT κ a0 = 10,
    zRun C 9 mPa_expect [.ref a0, .int (61 : Int32)] κ (oV (fun κ1 =>
      ∀ _ : zW C n0 κ1,
      ∀ _ : zM (zn κ) κ κ1,
      w_Pa_behindPlace_25 C n0 Q X  a0 a1 s0 κ1) X))
theorem t_Pa_behindPlace_14 {C : zC} {n0 : Nat} {Q : Int32 → zS → Prop} {X : zXp}   {a0 : Nat} {a1 : Int32} {s0 : Int32} {κ : zS} (W : zW C n0 κ) (Ta0 : zT κ a0 = 10) (F : w_Pa_behindPlace_14 C n0 Q X  a0 a1 s0 κ) : zG C n0 10 mPa_behindPlace 14 [some (.ref a0), some (.int a1), none, none, none] [.int s0] κ (oI Q X) := by
  unfold w_Pa_behindPlace_14 at F
  refine y_isn dX7_behindPlace_14 (Nat.le_of_ble_eq_true rfl) rfl ?_
  show zG _ _ _ _ _ [some (.ref a0), some (.int a1), some (.int s0), none, none] _ _ _
  refine y_iln dX7_behindPlace_15 rfl ?_
  refine y_in (s0 = (0 : Int32)) dX7_behindPlace_16 (t := 25) rfl rfl (fun c9 => ?_) (fun c9 => ?_)
  · replace F := F.1 c9
    exact y_k (t_Pa_behindPlace_25  W Ta0 F) ⟨rfl, rfl, rfl, trivial⟩
  · replace F := F.2 c9
    refine y_aln dX7_behindPlace_19 rfl ?_
    refine y_bi1 dX7_behindPlace_20 zb_61 ?_
    replace F := F Ta0
    refine k_X7_127 W dX7_behindPlace_22 rfl (Nat.le_of_ble_eq_true rfl) (Nat.le_of_ble_eq_true rfl) (Or.inl Ta0) F (fun  κ1 Wκ1 Mκ1 F => ?_) (fun cls9 κ9 h9 => Or.inr ⟨_, rfl, h9⟩)
    replace F := F Wκ1 Mκ1
    have h4 := (ztm W Mκ1 Ta0)
    exact y_k (t_Pa_behindPlace_25  Wκ1 h4 F) ⟨rfl, rfl, rfl, trivial⟩

def w_Pa_behindPlace_0 (C : zC) (n0 : Nat) (Q : Int32 → zS → Prop) (X : zXp)  (a0 : Nat) (a1 : Int32) (κ : zS) : Prop :=
  (¬ (zI κ paKind a0) = (126 : Int32) →
    w_Pa_behindPlace_14 C n0 Q X  a0 a1 (0 : Int32) κ) ∧
  ((zI κ paKind a0) = (126 : Int32) →
    w_Pa_behindPlace_14 C n0 Q X  a0 a1 (1 : Int32) κ)
theorem t_Pa_behindPlace_0 {C : zC} {n0 : Nat} {Q : Int32 → zS → Prop} {X : zXp}   {a0 : Nat} {a1 : Int32} {κ : zS} (W : zW C n0 κ) (Ta0 : zT κ a0 = 10) (F : w_Pa_behindPlace_0 C n0 Q X  a0 a1 κ) : zG C n0 10 mPa_behindPlace 0 [some (.ref a0), some (.int a1), none, none, none] [] κ (oI Q X) := by
  unfold w_Pa_behindPlace_0 at F
  refine y_aln dX7_behindPlace_0 rfl ?_
  refine gf_X7_78 dX7_behindPlace_1 rfl (Or.inl Ta0) ?_
  refine y_bi1 dX7_behindPlace_4 zb_126 ?_
  refine y_iin ((zI κ paKind a0) = (126 : Int32)) dX7_behindPlace_6 (t := 13) rfl rfl (fun c9 => ?_) (fun c9 => ?_)
  · replace F := F.1 c9
    refine y_ic dX7_behindPlace_13 zi_0 ?_
    exact y_k (t_Pa_behindPlace_14  W Ta0 F) ⟨rfl, rfl, trivial⟩
  · replace F := F.2 c9
    refine y_ic dX7_behindPlace_9 zi_1 ?_
    refine y_goto dX7_behindPlace_10 (t := 14) rfl ?_
    exact y_k (t_Pa_behindPlace_14  W Ta0 F) ⟨rfl, rfl, trivial⟩

theorem Pa_behindPlace_run {C : zC} {n0 : Nat} {Q : Int32 → zS → Prop} {X : zXp} {a0 : Nat} {a1 : Int32} {κ : zS} (W : zW C n0 κ) (Ta0 : zT κ a0 = 10) (F : w_Pa_behindPlace_0 C (zn κ) Q X a0 a1 κ) : zRun C 10 mPa_behindPlace [.ref a0, .int a1] κ (oI Q X) := z_run (m_ent _ 3) (t_Pa_behindPlace_0 (W.lo (Nat.le_trans W.1.2.1 W.1.2.2) (Nat.le_refl _)) Ta0 F)

theorem dX7_spread_0 : decode cX7_spread 0 = .ok (.aload_n 0, 1) := by decide +kernel
theorem dX7_spread_1 : decode cX7_spread 1 = .ok (.bipush 123, 2) := by decide +kernel
theorem dX7_spread_3 : decode cX7_spread 3 = .ok (.invokevirtual 166, 3) := by decide +kernel
theorem dX7_spread_6 : decode cX7_spread 6 = .ok (.iconst 1, 1) := by decide +kernel
theorem dX7_spread_7 : decode cX7_spread 7 = .ok (.istore_n 2, 1) := by decide +kernel
theorem dX7_spread_8 : decode cX7_spread 8 = .ok (.iconst 0, 1) := by decide +kernel
theorem dX7_spread_9 : decode cX7_spread 9 = .ok (.istore_n 3, 1) := by decide +kernel
theorem dX7_spread_10 : decode cX7_spread 10 = .ok (.iload_n 2, 1) := by decide +kernel
theorem dX7_spread_11 : decode cX7_spread 11 = .ok (.ifCond .eq 76, 3) := by decide +kernel
theorem dX7_spread_14 : decode cX7_spread 14 = .ok (.iload_n 3, 1) := by decide +kernel
theorem dX7_spread_15 : decode cX7_spread 15 = .ok (.bipush 8, 2) := by decide +kernel
theorem dX7_spread_17 : decode cX7_spread 17 = .ok (.if_icmp .gt 70, 3) := by decide +kernel
theorem dX7_spread_20 : decode cX7_spread 20 = .ok (.aload_n 0, 1) := by decide +kernel
theorem dX7_spread_21 : decode cX7_spread 21 = .ok (.iload_n 1, 1) := by decide +kernel
theorem dX7_spread_22 : decode cX7_spread 22 = .ok (.iconst (-1), 1) := by decide +kernel
theorem dX7_spread_23 : decode cX7_spread 23 = .ok (.invokevirtual 220, 3) := by decide +kernel
theorem dX7_spread_26 : decode cX7_spread 26 = .ok (.aload_n 0, 1) := by decide +kernel
theorem dX7_spread_27 : decode cX7_spread 27 = .ok (.bipush 58, 2) := by decide +kernel
theorem dX7_spread_29 : decode cX7_spread 29 = .ok (.invokevirtual 127, 3) := by decide +kernel
theorem dX7_spread_32 : decode cX7_spread 32 = .ok (.iload_n 3, 1) := by decide +kernel
theorem dX7_spread_33 : decode cX7_spread 33 = .ok (.bipush 8, 2) := by decide +kernel
theorem dX7_spread_35 : decode cX7_spread 35 = .ok (.if_icmp .lt 13, 3) := by decide +kernel
theorem dX7_spread_38 : decode cX7_spread 38 = .ok (.aload_n 0, 1) := by decide +kernel
theorem dX7_spread_39 : decode cX7_spread 39 = .ok (.bipush 15, 2) := by decide +kernel
theorem dX7_spread_41 : decode cX7_spread 41 = .ok (.aload_n 0, 1) := by decide +kernel
theorem dX7_spread_42 : decode cX7_spread 42 = .ok (.getfield 55, 3) := by decide +kernel
theorem dX7_spread_45 : decode cX7_spread 45 = .ok (.invokevirtual 123, 3) := by decide +kernel
theorem dX7_spread_48 : decode cX7_spread 48 = .ok (.aload_n 0, 1) := by decide +kernel
theorem dX7_spread_49 : decode cX7_spread 49 = .ok (.invokevirtual 72, 3) := by decide +kernel
theorem dX7_spread_52 : decode cX7_spread 52 = .ok (.aload_n 0, 1) := by decide +kernel
theorem dX7_spread_53 : decode cX7_spread 53 = .ok (.iload_n 1, 1) := by decide +kernel
theorem dX7_spread_54 : decode cX7_spread 54 = .ok (.iconst (-1), 1) := by decide +kernel
theorem dX7_spread_55 : decode cX7_spread 55 = .ok (.invokevirtual 220, 3) := by decide +kernel
theorem dX7_spread_58 : decode cX7_spread 58 = .ok (.aload_n 0, 1) := by decide +kernel
theorem dX7_spread_59 : decode cX7_spread 59 = .ok (.getfield 78, 3) := by decide +kernel
theorem dX7_spread_62 : decode cX7_spread 62 = .ok (.bipush 44, 2) := by decide +kernel
theorem dX7_spread_64 : decode cX7_spread 64 = .ok (.if_icmp .ne 7, 3) := by decide +kernel
theorem dX7_spread_67 : decode cX7_spread 67 = .ok (.iconst 1, 1) := by decide +kernel
theorem dX7_spread_68 : decode cX7_spread 68 = .ok (.goto 4, 3) := by decide +kernel
theorem dX7_spread_71 : decode cX7_spread 71 = .ok (.iconst 0, 1) := by decide +kernel
theorem dX7_spread_72 : decode cX7_spread 72 = .ok (.istore_n 2, 1) := by decide +kernel
theorem dX7_spread_73 : decode cX7_spread 73 = .ok (.iload_n 2, 1) := by decide +kernel
theorem dX7_spread_74 : decode cX7_spread 74 = .ok (.ifCond .eq 7, 3) := by decide +kernel
theorem dX7_spread_77 : decode cX7_spread 77 = .ok (.aload_n 0, 1) := by decide +kernel
theorem dX7_spread_78 : decode cX7_spread 78 = .ok (.invokevirtual 72, 3) := by decide +kernel
theorem dX7_spread_81 : decode cX7_spread 81 = .ok (.iinc 3 1, 3) := by decide +kernel
theorem dX7_spread_84 : decode cX7_spread 84 = .ok (.goto (-74), 3) := by decide +kernel
theorem dX7_spread_87 : decode cX7_spread 87 = .ok (.aload_n 0, 1) := by decide +kernel
theorem dX7_spread_88 : decode cX7_spread 88 = .ok (.bipush 125, 2) := by decide +kernel
theorem dX7_spread_90 : decode cX7_spread 90 = .ok (.invokevirtual 169, 3) := by decide +kernel
theorem dX7_spread_93 : decode cX7_spread 93 = .ok (.return_, 1) := by decide +kernel
def w_Pa_spread_72 (C : zC) (n0 : Nat) (Q : zS → Prop) (X : zXp) (B10 : Nat → Int32 → Int32 → Int32 → zS → Prop) (a0 : Nat) (a1 : Int32) (a3 : Int32) (s0 : Int32) (κ : zS) : Prop :=
  (s0 = (0 : Int32) →
    ∀ v3_1 : Int32, v3_1 = a3 + (1 : Int32) →
    B10 a0 a1 s0 v3_1 κ) ∧
  (¬ s0 = (0 : Int32) →
    ∀ _ : zT κ a0 = 10,
    zRun C 0 mPa_take [.ref a0] κ (oV (fun κ2 =>
      ∀ _ : zW C n0 κ2,
      ∀ _ : zM (zn κ) κ κ2,
      ∀ v3_5 : Int32, v3_5 = a3 + (1 : Int32) →
      B10 a0 a1 s0 v3_5 κ2) noX))
theorem t_Pa_spread_72 {C : zC} {n0 : Nat} {Q : zS → Prop} {X : zXp} {B10 : Nat → Int32 → Int32 → Int32 → zS → Prop} (hB10 : ∀ a0' a1' a2' a3' τ, zW C n0 τ → zT τ a0' = 10 → B10 a0' a1' a2' a3' τ → zG C n0 12 mPa_spread 10 [some (.ref a0'), some (.int a1'), some (.int a2'), some (.int a3')] [] τ (oV Q X)) {a0 : Nat} {a1 : Int32} {a3 : Int32} {s0 : Int32} {κ : zS} (W : zW C n0 κ) (Ta0 : zT κ a0 = 10) (F : w_Pa_spread_72 C n0 Q X B10 a0 a1 a3 s0 κ) : zG C n0 12 mPa_spread 72 [some (.ref a0), some (.int a1), none, some (.int a3)] [.int s0] κ (oV Q X) := by
  unfold w_Pa_spread_72 at F
  refine y_isn dX7_spread_72 (Nat.le_of_ble_eq_true rfl) rfl ?_
  show zG _ _ _ _ _ [some (.ref a0), some (.int a1), some (.int s0), some (.int a3)] _ _ _
  refine y_iln dX7_spread_73 rfl ?_
  refine y_i (s0 = (0 : Int32)) dX7_spread_74 (t := 81) rfl rfl (fun c9 => ?_) (fun c9 => ?_)
  · replace F := F.1 c9
    refine y_incb dX7_spread_81 zi_1 rfl (Nat.le_of_ble_eq_true rfl) (fun v3_1 ev3_1 => ?_)
    replace F := F v3_1 ev3_1
    show zG _ _ _ _ _ [some (.ref a0), some (.int a1), some (.int s0), some (.int v3_1)] _ _ _
    refine y_goto dX7_spread_84 (t := 10) rfl ?_
    exact y_k (hB10 _ _ _ _ _ W Ta0 F) ⟨rfl, rfl, rfl, rfl, trivial⟩
  · replace F := F.2 c9
    refine y_aln dX7_spread_77 rfl ?_
    replace F := F Ta0
    refine k_X7_72 W dX7_spread_78 rfl (Nat.le_of_ble_eq_true rfl) (Nat.le_of_ble_eq_true rfl) (Or.inl Ta0) F (fun  κ2 Wκ2 Mκ2 F => ?_) (fun _ _ h9 => False.elim h9)
    replace F := F Wκ2 Mκ2
    refine y_incb dX7_spread_81 zi_1 rfl (Nat.le_of_ble_eq_true rfl) (fun v3_5 ev3_5 => ?_)
    replace F := F v3_5 ev3_5
    show zG _ _ _ _ _ [some (.ref a0), some (.int a1), some (.int s0), some (.int v3_5)] _ _ _
    refine y_goto dX7_spread_84 (t := 10) rfl ?_
    have h6 := (ztm W Mκ2 Ta0)
    exact y_k (hB10 _ _ _ _ _ Wκ2 h6 F) ⟨rfl, rfl, rfl, rfl, trivial⟩

def w_Pa_spread_48 (C : zC) (n0 : Nat) (Q : zS → Prop) (X : zXp) (B10 : Nat → Int32 → Int32 → Int32 → zS → Prop) (a0 : Nat) (a1 : Int32) (a3 : Int32) (κ : zS) : Prop :=
  ∀ _ : zT κ a0 = 10,
  zRun C 0 mPa_take [.ref a0] κ (oV (fun κ1 =>
    ∀ _ : zW C n0 κ1,
    ∀ _ : zM (zn κ) κ κ1,
    ∀ _ : zT κ1 a0 = 10,
    zRun C 11 mPa_expression [.ref a0, .int a1, .int (-1 : Int32)] κ1 (oV (fun κ4 =>
      ∀ _ : zW C n0 κ4,
      ∀ _ : zM (zn κ1) κ1 κ4,
      (¬ (zI κ4 paKind a0) = (44 : Int32) →
        w_Pa_spread_72 C n0 Q X B10 a0 a1 a3 (0 : Int32) κ4) ∧
      ((zI κ4 paKind a0) = (44 : Int32) →
        w_Pa_spread_72 C n0 Q X B10 a0 a1 a3 (1 : Int32) κ4)) X)) noX)
theorem t_Pa_spread_48 {C : zC} {n0 : Nat} {Q : zS → Prop} {X : zXp} {B10 : Nat → Int32 → Int32 → Int32 → zS → Prop} (hB10 : ∀ a0' a1' a2' a3' τ, zW C n0 τ → zT τ a0' = 10 → B10 a0' a1' a2' a3' τ → zG C n0 12 mPa_spread 10 [some (.ref a0'), some (.int a1'), some (.int a2'), some (.int a3')] [] τ (oV Q X)) {a0 : Nat} {a1 : Int32} {a3 : Int32} {κ : zS} (W : zW C n0 κ) (Ta0 : zT κ a0 = 10) (F : w_Pa_spread_48 C n0 Q X B10 a0 a1 a3 κ) : zG C n0 12 mPa_spread 48 [some (.ref a0), some (.int a1), none, some (.int a3)] [] κ (oV Q X) := by
  unfold w_Pa_spread_48 at F
  refine y_aln dX7_spread_48 rfl ?_
  replace F := F Ta0
  refine k_X7_72 W dX7_spread_49 rfl (Nat.le_of_ble_eq_true rfl) (Nat.le_of_ble_eq_true rfl) (Or.inl Ta0) F (fun  κ1 Wκ1 Mκ1 F => ?_) (fun _ _ h9 => False.elim h9)
  replace F := F Wκ1 Mκ1
  refine y_aln dX7_spread_52 rfl ?_
  refine y_iln dX7_spread_53 rfl ?_
  refine y_ic dX7_spread_54 zi_m1 ?_
  have h6 := (ztm W Mκ1 Ta0)
  replace F := F h6
  refine k_X7_220 Wκ1 dX7_spread_55 rfl (Nat.le_of_ble_eq_true rfl) (Nat.le_of_ble_eq_true rfl) (Or.inl h6) F (fun  κ4 Wκ4 Mκ4 F => ?_) (fun cls9 κ9 h9 => Or.inr ⟨_, rfl, h9⟩)
  replace F := F Wκ4 Mκ4
  refine y_aln dX7_spread_58 rfl ?_
  have h8 := (ztm Wκ1 Mκ4 h6)
  refine gf_X7_78 dX7_spread_59 rfl (Or.inl h8) ?_
  refine y_bi1 dX7_spread_62 zb_44 ?_
  refine y_iin ((zI κ4 paKind a0) = (44 : Int32)) dX7_spread_64 (t := 71) rfl rfl (fun c9 => ?_) (fun c9 => ?_)
  · replace F := F.1 c9
    refine y_ic dX7_spread_71 zi_0 ?_
    exact y_k (t_Pa_spread_72 hB10 Wκ4 h8 F) ⟨rfl, rfl, rfl, trivial⟩
  · replace F := F.2 c9
    refine y_ic dX7_spread_67 zi_1 ?_
    refine y_goto dX7_spread_68 (t := 72) rfl ?_
    exact y_k (t_Pa_spread_72 hB10 Wκ4 h8 F) ⟨rfl, rfl, rfl, trivial⟩

def w_Pa_spread_10 (C : zC) (n0 : Nat) (Q : zS → Prop) (X : zXp)  (a0 : Nat) (a1 : Int32) (a2 : Int32) (a3 : Int32) (κ : zS) : Prop :=
  ∃ I : Nat → Nat → Int32 → Int32 → Int32 → zS → Prop, (∃ n, I n a0 a1 a2 a3 κ) ∧ ∀ n a0 a1 a2 a3 κ, zW C n0 κ → zT κ a0 = 10 → I n a0 a1 a2 a3 κ →
    (a2 = (0 : Int32) →
      ∀ _ : zT κ a0 = 10,
      zRun C 9 mPa_closeSign [.ref a0, .int (125 : Int32)] κ (oV (fun κ1 =>
        ∀ _ : zW C n0 κ1,
        ∀ _ : zM (zn κ) κ κ1,
        Q κ1) X)) ∧
    (¬ a2 = (0 : Int32) →
      ((8 : Int32) < a3 →
        ∀ _ : zT κ a0 = 10,
        zRun C 9 mPa_closeSign [.ref a0, .int (125 : Int32)] κ (oV (fun κ4 =>
          ∀ _ : zW C n0 κ4,
          ∀ _ : zM (zn κ) κ κ4,
          Q κ4) X)) ∧
      (¬ (8 : Int32) < a3 →
        ∀ _ : zT κ a0 = 10,
        zRun C 11 mPa_expression [.ref a0, .int a1, .int (-1 : Int32)] κ (oV (fun κ7 =>
          ∀ _ : zW C n0 κ7,
          ∀ _ : zM (zn κ) κ κ7,
          ∀ _ : zT κ7 a0 = 10,
          zRun C 9 mPa_expect [.ref a0, .int (58 : Int32)] κ7 (oV (fun κ10 =>
            ∀ _ : zW C n0 κ10,
            ∀ _ : zM (zn κ7) κ7 κ10,
            (a3 < (8 : Int32) →
              w_Pa_spread_48 C n0 Q X (fun a0' a1' a2' a3' τ => ∃ k < n, I k a0' a1' a2' a3' τ) a0 a1 a3 κ10) ∧
            (¬ a3 < (8 : Int32) →
              ∀ _ : zT κ10 a0 = 10,
              zRun C 8 mPa_refuse [.ref a0, .int (15 : Int32), .int (zI κ10 paAt a0)] κ10 (oV (fun κ16 =>
                ∀ _ : zW C n0 κ16,
                ∀ _ : zM (zn κ10) κ10 κ16,
                w_Pa_spread_48 C n0 Q X (fun a0' a1' a2' a3' τ => ∃ k < n, I k a0' a1' a2' a3' τ) a0 a1 a3 κ16) X))) X)) X)))
theorem t_Pa_spread_10 {C : zC} {n0 : Nat} {Q : zS → Prop} {X : zXp}   {a0 : Nat} {a1 : Int32} {a2 : Int32} {a3 : Int32} {κ : zS} (W : zW C n0 κ) (Ta0 : zT κ a0 = 10) (F : w_Pa_spread_10 C n0 Q X  a0 a1 a2 a3 κ) : zG C n0 12 mPa_spread 10 [some (.ref a0), some (.int a1), some (.int a2), some (.int a3)] [] κ (oV Q X) := by
  obtain ⟨I, ⟨m0, hI0⟩, F0⟩ := F
  have key : ∀ n a0 a1 a2 a3 κ, zW C n0 κ → zT κ a0 = 10 → I n a0 a1 a2 a3 κ → zG C n0 12 mPa_spread 10 [some (.ref a0), some (.int a1), some (.int a2), some (.int a3)] [] κ (oV Q X) := by
    intro n
    induction n using Nat.strongRecOn with
    | _ n ih =>
      intro a0 a1 a2 a3 κ W Ta0 hI
      have F := F0 n a0 a1 a2 a3 κ W Ta0 hI
      clear hI hI0
      refine y_iln dX7_spread_10 rfl ?_
      refine y_i (a2 = (0 : Int32)) dX7_spread_11 (t := 87) rfl rfl (fun c9 => ?_) (fun c9 => ?_)
      · replace F := F.1 c9
        refine y_aln dX7_spread_87 rfl ?_
        refine y_bi1 dX7_spread_88 zb_125 ?_
        replace F := F Ta0
        refine k_X7_169 W dX7_spread_90 rfl (Nat.le_of_ble_eq_true rfl) (Nat.le_of_ble_eq_true rfl) (Or.inl Ta0) F (fun  κ1 Wκ1 Mκ1 F => ?_) (fun cls9 κ9 h9 => Or.inr ⟨_, rfl, h9⟩)
        replace F := F Wκ1 Mκ1
        exact y_rv Wκ1 dX7_spread_93 rfl F
      · replace F := F.2 c9
        refine y_iln dX7_spread_14 rfl ?_
        refine y_bi1 dX7_spread_15 zb_8 ?_
        refine y_ii ((8 : Int32) < a3) dX7_spread_17 (t := 87) rfl rfl (fun c9 => ?_) (fun c9 => ?_)
        · replace F := F.1 c9
          refine y_aln dX7_spread_87 rfl ?_
          refine y_bi1 dX7_spread_88 zb_125 ?_
          replace F := F Ta0
          refine k_X7_169 W dX7_spread_90 rfl (Nat.le_of_ble_eq_true rfl) (Nat.le_of_ble_eq_true rfl) (Or.inl Ta0) F (fun  κ4 Wκ4 Mκ4 F => ?_) (fun cls9 κ9 h9 => Or.inr ⟨_, rfl, h9⟩)
          replace F := F Wκ4 Mκ4
          exact y_rv Wκ4 dX7_spread_93 rfl F
        · replace F := F.2 c9
          refine y_aln dX7_spread_20 rfl ?_
          refine y_iln dX7_spread_21 rfl ?_
          refine y_ic dX7_spread_22 zi_m1 ?_
          replace F := F Ta0
          refine k_X7_220 W dX7_spread_23 rfl (Nat.le_of_ble_eq_true rfl) (Nat.le_of_ble_eq_true rfl) (Or.inl Ta0) F (fun  κ7 Wκ7 Mκ7 F => ?_) (fun cls9 κ9 h9 => Or.inr ⟨_, rfl, h9⟩)
          replace F := F Wκ7 Mκ7
          refine y_aln dX7_spread_26 rfl ?_
          refine y_bi1 dX7_spread_27 zb_58 ?_
          have h12 := (ztm W Mκ7 Ta0)
          replace F := F h12
          refine k_X7_127 Wκ7 dX7_spread_29 rfl (Nat.le_of_ble_eq_true rfl) (Nat.le_of_ble_eq_true rfl) (Or.inl h12) F (fun  κ10 Wκ10 Mκ10 F => ?_) (fun cls9 κ9 h9 => Or.inr ⟨_, rfl, h9⟩)
          replace F := F Wκ10 Mκ10
          refine y_iln dX7_spread_32 rfl ?_
          refine y_bi1 dX7_spread_33 zb_8 ?_
          refine y_ii (a3 < (8 : Int32)) dX7_spread_35 (t := 48) rfl rfl (fun c9 => ?_) (fun c9 => ?_)
          · replace F := F.1 c9
            have h14 := (ztm Wκ7 Mκ10 h12)
            exact y_k (t_Pa_spread_48 (fun a0' a1' a2' a3' τ w9 f09 hb => by obtain ⟨k, hk, hI⟩ := hb; exact ih k hk a0' a1' a2' a3' τ w9 f09 hI) Wκ10 h14 F) ⟨rfl, rfl, rfl, trivial⟩
          · replace F := F.2 c9
            refine y_aln dX7_spread_38 rfl ?_
            refine y_bi1 dX7_spread_39 zb_15 ?_
            refine y_aln dX7_spread_41 rfl ?_
            have h15 := (ztm Wκ7 Mκ10 h12)
            refine gf_X7_55 dX7_spread_42 rfl (Or.inl h15) ?_
            replace F := F h15
            refine k_X7_123 Wκ10 dX7_spread_45 rfl (Nat.le_of_ble_eq_true rfl) (Nat.le_of_ble_eq_true rfl) (Or.inl h15) F (fun  κ16 Wκ16 Mκ16 F => ?_) (fun cls9 κ9 h9 => Or.inr ⟨_, rfl, h9⟩)
            replace F := F Wκ16 Mκ16
            have h19 := (ztm Wκ10 Mκ16 h15)
            exact y_k (t_Pa_spread_48 (fun a0' a1' a2' a3' τ w9 f09 hb => by obtain ⟨k, hk, hI⟩ := hb; exact ih k hk a0' a1' a2' a3' τ w9 f09 hI) Wκ16 h19 F) ⟨rfl, rfl, rfl, trivial⟩
  exact key m0 a0 a1 a2 a3 κ W Ta0 hI0

def w_Pa_spread_0 (C : zC) (n0 : Nat) (Q : zS → Prop) (X : zXp)  (a0 : Nat) (a1 : Int32) (κ : zS) : Prop :=
  ∀ _ : zT κ a0 = 10,
  zRun C 9 mPa_openSign [.ref a0, .int (123 : Int32)] κ (oV (fun κ1 =>
    ∀ _ : zW C n0 κ1,
    ∀ _ : zM (zn κ) κ κ1,
    w_Pa_spread_10 C n0 Q X  a0 a1 (1 : Int32) (0 : Int32) κ1) X)
theorem t_Pa_spread_0 {C : zC} {n0 : Nat} {Q : zS → Prop} {X : zXp}   {a0 : Nat} {a1 : Int32} {κ : zS} (W : zW C n0 κ) (Ta0 : zT κ a0 = 10) (F : w_Pa_spread_0 C n0 Q X  a0 a1 κ) : zG C n0 12 mPa_spread 0 [some (.ref a0), some (.int a1), none, none] [] κ (oV Q X) := by
  unfold w_Pa_spread_0 at F
  refine y_aln dX7_spread_0 rfl ?_
  refine y_bi1 dX7_spread_1 zb_123 ?_
  replace F := F Ta0
  refine k_X7_166 W dX7_spread_3 rfl (Nat.le_of_ble_eq_true rfl) (Nat.le_of_ble_eq_true rfl) (Or.inl Ta0) F (fun  κ1 Wκ1 Mκ1 F => ?_) (fun cls9 κ9 h9 => Or.inr ⟨_, rfl, h9⟩)
  replace F := F Wκ1 Mκ1
  refine y_ic dX7_spread_6 zi_1 ?_
  refine y_isn dX7_spread_7 (Nat.le_of_ble_eq_true rfl) rfl ?_
  show zG _ _ _ _ _ [some (.ref a0), some (.int a1), some (.int (1 : Int32)), none] _ _ _
  refine y_ic dX7_spread_8 zi_0 ?_
  refine y_isn dX7_spread_9 (Nat.le_of_ble_eq_true rfl) rfl ?_
  show zG _ _ _ _ _ [some (.ref a0), some (.int a1), some (.int (1 : Int32)), some (.int (0 : Int32))] _ _ _
  have h4 := (ztm W Mκ1 Ta0)
  exact y_k (t_Pa_spread_10  Wκ1 h4 F) ⟨rfl, rfl, rfl, rfl, trivial⟩

theorem Pa_spread_run {C : zC} {n0 : Nat} {Q : zS → Prop} {X : zXp} {a0 : Nat} {a1 : Int32} {κ : zS} (W : zW C n0 κ) (Ta0 : zT κ a0 = 10) (F : w_Pa_spread_0 C (zn κ) Q X a0 a1 κ) : zRun C 12 mPa_spread [.ref a0, .int a1] κ (oV Q X) := z_run (m_ent _ 2) (t_Pa_spread_0 (W.lo (Nat.le_trans W.1.2.1 W.1.2.2) (Nat.le_refl _)) Ta0 F)

theorem dX7_finish_0 : decode cX7_finish 0 = .ok (.iload_n 2, 1) := by decide +kernel
theorem dX7_finish_1 : decode cX7_finish 1 = .ok (.ifCond .ne 18, 3) := by decide +kernel
theorem dX7_finish_4 : decode cX7_finish 4 = .ok (.aload_n 0, 1) := by decide +kernel
theorem dX7_finish_5 : decode cX7_finish 5 = .ok (.iload_n 1, 1) := by decide +kernel
theorem dX7_finish_6 : decode cX7_finish 6 = .ok (.aload_n 0, 1) := by decide +kernel
theorem dX7_finish_7 : decode cX7_finish 7 = .ok (.getfield 15, 3) := by decide +kernel
theorem dX7_finish_10 : decode cX7_finish 10 = .ok (.iload_n 1, 1) := by decide +kernel
theorem dX7_finish_11 : decode cX7_finish 11 = .ok (.iconst 5, 1) := by decide +kernel
theorem dX7_finish_12 : decode cX7_finish 12 = .ok (.invokevirtual 194, 3) := by decide +kernel
theorem dX7_finish_15 : decode cX7_finish 15 = .ok (.invokevirtual 220, 3) := by decide +kernel
theorem dX7_finish_18 : decode cX7_finish 18 = .ok (.return_, 1) := by decide +kernel
theorem dX7_finish_19 : decode cX7_finish 19 = .ok (.aload_n 0, 1) := by decide +kernel
theorem dX7_finish_20 : decode cX7_finish 20 = .ok (.bipush 40, 2) := by decide +kernel
theorem dX7_finish_22 : decode cX7_finish 22 = .ok (.invokevirtual 166, 3) := by decide +kernel
theorem dX7_finish_25 : decode cX7_finish 25 = .ok (.iload_n 2, 1) := by decide +kernel
theorem dX7_finish_26 : decode cX7_finish 26 = .ok (.iconst 5, 1) := by decide +kernel
theorem dX7_finish_27 : decode cX7_finish 27 = .ok (.if_icmp .ne 12, 3) := by decide +kernel
theorem dX7_finish_30 : decode cX7_finish 30 = .ok (.aload_n 0, 1) := by decide +kernel
theorem dX7_finish_31 : decode cX7_finish 31 = .ok (.getfield 78, 3) := by decide +kernel
theorem dX7_finish_34 : decode cX7_finish 34 = .ok (.bipush 41, 2) := by decide +kernel
theorem dX7_finish_36 : decode cX7_finish 36 = .ok (.if_icmp .eq 7, 3) := by decide +kernel
theorem dX7_finish_39 : decode cX7_finish 39 = .ok (.iconst 1, 1) := by decide +kernel
theorem dX7_finish_40 : decode cX7_finish 40 = .ok (.goto 4, 3) := by decide +kernel
theorem dX7_finish_43 : decode cX7_finish 43 = .ok (.iconst 0, 1) := by decide +kernel
theorem dX7_finish_44 : decode cX7_finish 44 = .ok (.istore_n 3, 1) := by decide +kernel
theorem dX7_finish_45 : decode cX7_finish 45 = .ok (.iconst 0, 1) := by decide +kernel
theorem dX7_finish_46 : decode cX7_finish 46 = .ok (.istore 4, 2) := by decide +kernel
theorem dX7_finish_48 : decode cX7_finish 48 = .ok (.iload_n 3, 1) := by decide +kernel
theorem dX7_finish_49 : decode cX7_finish 49 = .ok (.ifCond .eq 75, 3) := by decide +kernel
theorem dX7_finish_52 : decode cX7_finish 52 = .ok (.iload 4, 2) := by decide +kernel
theorem dX7_finish_54 : decode cX7_finish 54 = .ok (.aload_n 0, 1) := by decide +kernel
theorem dX7_finish_55 : decode cX7_finish 55 = .ok (.getfield 9, 3) := by decide +kernel
theorem dX7_finish_58 : decode cX7_finish 58 = .ok (.getfield 75, 3) := by decide +kernel
theorem dX7_finish_61 : decode cX7_finish 61 = .ok (.if_icmp .gt 63, 3) := by decide +kernel
theorem dX7_finish_64 : decode cX7_finish 64 = .ok (.aload_n 0, 1) := by decide +kernel
theorem dX7_finish_65 : decode cX7_finish 65 = .ok (.iload_n 1, 1) := by decide +kernel
theorem dX7_finish_66 : decode cX7_finish 66 = .ok (.iconst (-1), 1) := by decide +kernel
theorem dX7_finish_67 : decode cX7_finish 67 = .ok (.invokevirtual 220, 3) := by decide +kernel
theorem dX7_finish_70 : decode cX7_finish 70 = .ok (.iload_n 2, 1) := by decide +kernel
theorem dX7_finish_71 : decode cX7_finish 71 = .ok (.iconst 5, 1) := by decide +kernel
theorem dX7_finish_72 : decode cX7_finish 72 = .ok (.if_icmp .ne 20, 3) := by decide +kernel
theorem dX7_finish_75 : decode cX7_finish 75 = .ok (.aload_n 0, 1) := by decide +kernel
theorem dX7_finish_76 : decode cX7_finish 76 = .ok (.getfield 78, 3) := by decide +kernel
theorem dX7_finish_79 : decode cX7_finish 79 = .ok (.bipush 44, 2) := by decide +kernel
theorem dX7_finish_81 : decode cX7_finish 81 = .ok (.if_icmp .ne 7, 3) := by decide +kernel
theorem dX7_finish_84 : decode cX7_finish 84 = .ok (.iconst 1, 1) := by decide +kernel
theorem dX7_finish_85 : decode cX7_finish 85 = .ok (.goto 22, 3) := by decide +kernel
theorem dX7_finish_88 : decode cX7_finish 88 = .ok (.iconst 0, 1) := by decide +kernel
theorem dX7_finish_89 : decode cX7_finish 89 = .ok (.goto 18, 3) := by decide +kernel
theorem dX7_finish_92 : decode cX7_finish 92 = .ok (.iload_n 2, 1) := by decide +kernel
theorem dX7_finish_93 : decode cX7_finish 93 = .ok (.iconst 2, 1) := by decide +kernel
theorem dX7_finish_94 : decode cX7_finish 94 = .ok (.if_icmp .ne 12, 3) := by decide +kernel
theorem dX7_finish_97 : decode cX7_finish 97 = .ok (.iload 4, 2) := by decide +kernel
theorem dX7_finish_99 : decode cX7_finish 99 = .ok (.ifCond .ne 7, 3) := by decide +kernel
theorem dX7_finish_102 : decode cX7_finish 102 = .ok (.iconst 1, 1) := by decide +kernel
theorem dX7_finish_103 : decode cX7_finish 103 = .ok (.goto 4, 3) := by decide +kernel
theorem dX7_finish_106 : decode cX7_finish 106 = .ok (.iconst 0, 1) := by decide +kernel
theorem dX7_finish_107 : decode cX7_finish 107 = .ok (.istore_n 3, 1) := by decide +kernel
theorem dX7_finish_108 : decode cX7_finish 108 = .ok (.iload_n 3, 1) := by decide +kernel
theorem dX7_finish_109 : decode cX7_finish 109 = .ok (.ifCond .eq 9, 3) := by decide +kernel
theorem dX7_finish_112 : decode cX7_finish 112 = .ok (.aload_n 0, 1) := by decide +kernel
theorem dX7_finish_113 : decode cX7_finish 113 = .ok (.bipush 44, 2) := by decide +kernel
theorem dX7_finish_115 : decode cX7_finish 115 = .ok (.invokevirtual 160, 3) := by decide +kernel
theorem dX7_finish_118 : decode cX7_finish 118 = .ok (.iinc 4 1, 3) := by decide +kernel
theorem dX7_finish_121 : decode cX7_finish 121 = .ok (.goto (-73), 3) := by decide +kernel
theorem dX7_finish_124 : decode cX7_finish 124 = .ok (.aload_n 0, 1) := by decide +kernel
theorem dX7_finish_125 : decode cX7_finish 125 = .ok (.bipush 41, 2) := by decide +kernel
theorem dX7_finish_127 : decode cX7_finish 127 = .ok (.invokevirtual 169, 3) := by decide +kernel
theorem dX7_finish_130 : decode cX7_finish 130 = .ok (.return_, 1) := by decide +kernel
def w_Pa_finish_107 (C : zC) (n0 : Nat) (Q : zS → Prop) (X : zXp) (B48 : Nat → Int32 → Int32 → Int32 → Int32 → zS → Prop) (a0 : Nat) (a1 : Int32) (a2 : Int32) (a4 : Int32) (s0 : Int32) (κ : zS) : Prop :=
  (s0 = (0 : Int32) →
    ∀ v4_1 : Int32, v4_1 = a4 + (1 : Int32) →
    B48 a0 a1 a2 s0 v4_1 κ) ∧
  (¬ s0 = (0 : Int32) →
    ∀ _ : zT κ a0 = 10,
    zRun C 9 mPa_pass [.ref a0, .int (44 : Int32)] κ (oV (fun κ2 =>
      ∀ _ : zW C n0 κ2,
      ∀ _ : zM (zn κ) κ κ2,
      ∀ v4_5 : Int32, v4_5 = a4 + (1 : Int32) →
      B48 a0 a1 a2 s0 v4_5 κ2) X))
theorem t_Pa_finish_107 {C : zC} {n0 : Nat} {Q : zS → Prop} {X : zXp} {B48 : Nat → Int32 → Int32 → Int32 → Int32 → zS → Prop} (hB48 : ∀ a0' a1' a2' a3' a4' τ, zW C n0 τ → zT τ a0' = 10 → B48 a0' a1' a2' a3' a4' τ → zG C n0 12 mPa_finish 48 [some (.ref a0'), some (.int a1'), some (.int a2'), some (.int a3'), some (.int a4')] [] τ (oV Q X)) {a0 : Nat} {a1 : Int32} {a2 : Int32} {a4 : Int32} {s0 : Int32} {κ : zS} (W : zW C n0 κ) (Ta0 : zT κ a0 = 10) (F : w_Pa_finish_107 C n0 Q X B48 a0 a1 a2 a4 s0 κ) : zG C n0 12 mPa_finish 107 [some (.ref a0), some (.int a1), some (.int a2), none, some (.int a4)] [.int s0] κ (oV Q X) := by
  unfold w_Pa_finish_107 at F
  refine y_isn dX7_finish_107 (Nat.le_of_ble_eq_true rfl) rfl ?_
  show zG _ _ _ _ _ [some (.ref a0), some (.int a1), some (.int a2), some (.int s0), some (.int a4)] _ _ _
  refine y_iln dX7_finish_108 rfl ?_
  refine y_i (s0 = (0 : Int32)) dX7_finish_109 (t := 118) rfl rfl (fun c9 => ?_) (fun c9 => ?_)
  · replace F := F.1 c9
    refine y_incb dX7_finish_118 zi_1 rfl (Nat.le_of_ble_eq_true rfl) (fun v4_1 ev4_1 => ?_)
    replace F := F v4_1 ev4_1
    show zG _ _ _ _ _ [some (.ref a0), some (.int a1), some (.int a2), some (.int s0), some (.int v4_1)] _ _ _
    refine y_goto dX7_finish_121 (t := 48) rfl ?_
    exact y_k (hB48 _ _ _ _ _ _ W Ta0 F) ⟨rfl, rfl, rfl, rfl, rfl, trivial⟩
  · replace F := F.2 c9
    refine y_aln dX7_finish_112 rfl ?_
    refine y_bi1 dX7_finish_113 zb_44 ?_
    replace F := F Ta0
    refine k_X7_160 W dX7_finish_115 rfl (Nat.le_of_ble_eq_true rfl) (Nat.le_of_ble_eq_true rfl) (Or.inl Ta0) F (fun  κ2 Wκ2 Mκ2 F => ?_) (fun cls9 κ9 h9 => Or.inr ⟨_, rfl, h9⟩)
    replace F := F Wκ2 Mκ2
    refine y_incb dX7_finish_118 zi_1 rfl (Nat.le_of_ble_eq_true rfl) (fun v4_5 ev4_5 => ?_)
    replace F := F v4_5 ev4_5
    show zG _ _ _ _ _ [some (.ref a0), some (.int a1), some (.int a2), some (.int s0), some (.int v4_5)] _ _ _
    refine y_goto dX7_finish_121 (t := 48) rfl ?_
    have h6 := (ztm W Mκ2 Ta0)
    exact y_k (hB48 _ _ _ _ _ _ Wκ2 h6 F) ⟨rfl, rfl, rfl, rfl, rfl, trivial⟩

def w_Pa_finish_48 (C : zC) (n0 : Nat) (Q : zS → Prop) (X : zXp)  (a0 : Nat) (a1 : Int32) (a2 : Int32) (a3 : Int32) (a4 : Int32) (κ : zS) : Prop :=
  ∃ I : Nat → Nat → Int32 → Int32 → Int32 → Int32 → zS → Prop, (∃ n, I n a0 a1 a2 a3 a4 κ) ∧ ∀ n a0 a1 a2 a3 a4 κ, zW C n0 κ → zT κ a0 = 10 → I n a0 a1 a2 a3 a4 κ →
    (a3 = (0 : Int32) →
      ∀ _ : zT κ a0 = 10,
      zRun C 9 mPa_closeSign [.ref a0, .int (41 : Int32)] κ (oV (fun κ1 =>
        ∀ _ : zW C n0 κ1,
        ∀ _ : zM (zn κ) κ κ1,
        Q κ1) X)) ∧
    (¬ a3 = (0 : Int32) →
      ((zI κ taTotal (zR κ paTape a0)) < a4 →
        ∀ _ : zT κ a0 = 10,
        zRun C 9 mPa_closeSign [.ref a0, .int (41 : Int32)] κ (oV (fun κ4 =>
          ∀ _ : zW C n0 κ4,
          ∀ _ : zM (zn κ) κ κ4,
          Q κ4) X)) ∧
      (¬ (zI κ taTotal (zR κ paTape a0)) < a4 →
        ∀ _ : zT κ a0 = 10,
        zRun C 11 mPa_expression [.ref a0, .int a1, .int (-1 : Int32)] κ (oV (fun κ7 =>
          ∀ _ : zW C n0 κ7,
          ∀ _ : zM (zn κ) κ κ7,
          (¬ a2 = (5 : Int32) →
            (¬ a2 = (2 : Int32) →
              w_Pa_finish_107 C n0 Q X (fun a0' a1' a2' a3' a4' τ => ∃ k < n, I k a0' a1' a2' a3' a4' τ) a0 a1 a2 a4 (0 : Int32) κ7) ∧
            (a2 = (2 : Int32) →
              (¬ a4 = (0 : Int32) →
                w_Pa_finish_107 C n0 Q X (fun a0' a1' a2' a3' a4' τ => ∃ k < n, I k a0' a1' a2' a3' a4' τ) a0 a1 a2 a4 (0 : Int32) κ7) ∧
              (a4 = (0 : Int32) →
                w_Pa_finish_107 C n0 Q X (fun a0' a1' a2' a3' a4' τ => ∃ k < n, I k a0' a1' a2' a3' a4' τ) a0 a1 a2 a4 (1 : Int32) κ7))) ∧
          (a2 = (5 : Int32) →
            (¬ (zI κ7 paKind a0) = (44 : Int32) →
              w_Pa_finish_107 C n0 Q X (fun a0' a1' a2' a3' a4' τ => ∃ k < n, I k a0' a1' a2' a3' a4' τ) a0 a1 a2 a4 (0 : Int32) κ7) ∧
            ((zI κ7 paKind a0) = (44 : Int32) →
              w_Pa_finish_107 C n0 Q X (fun a0' a1' a2' a3' a4' τ => ∃ k < n, I k a0' a1' a2' a3' a4' τ) a0 a1 a2 a4 (1 : Int32) κ7))) X)))
theorem t_Pa_finish_48 {C : zC} {n0 : Nat} {Q : zS → Prop} {X : zXp}   {a0 : Nat} {a1 : Int32} {a2 : Int32} {a3 : Int32} {a4 : Int32} {κ : zS} (W : zW C n0 κ) (Ta0 : zT κ a0 = 10) (F : w_Pa_finish_48 C n0 Q X  a0 a1 a2 a3 a4 κ) : zG C n0 12 mPa_finish 48 [some (.ref a0), some (.int a1), some (.int a2), some (.int a3), some (.int a4)] [] κ (oV Q X) := by
  obtain ⟨I, ⟨m0, hI0⟩, F0⟩ := F
  have key : ∀ n a0 a1 a2 a3 a4 κ, zW C n0 κ → zT κ a0 = 10 → I n a0 a1 a2 a3 a4 κ → zG C n0 12 mPa_finish 48 [some (.ref a0), some (.int a1), some (.int a2), some (.int a3), some (.int a4)] [] κ (oV Q X) := by
    intro n
    induction n using Nat.strongRecOn with
    | _ n ih =>
      intro a0 a1 a2 a3 a4 κ W Ta0 hI
      have F := F0 n a0 a1 a2 a3 a4 κ W Ta0 hI
      clear hI hI0
      refine y_iln dX7_finish_48 rfl ?_
      refine y_i (a3 = (0 : Int32)) dX7_finish_49 (t := 124) rfl rfl (fun c9 => ?_) (fun c9 => ?_)
      · replace F := F.1 c9
        refine y_aln dX7_finish_124 rfl ?_
        refine y_bi1 dX7_finish_125 zb_41 ?_
        replace F := F Ta0
        refine k_X7_169 W dX7_finish_127 rfl (Nat.le_of_ble_eq_true rfl) (Nat.le_of_ble_eq_true rfl) (Or.inl Ta0) F (fun  κ1 Wκ1 Mκ1 F => ?_) (fun cls9 κ9 h9 => Or.inr ⟨_, rfl, h9⟩)
        replace F := F Wκ1 Mκ1
        exact y_rv Wκ1 dX7_finish_130 rfl F
      · replace F := F.2 c9
        refine y_il dX7_finish_52 rfl ?_
        refine y_aln dX7_finish_54 rfl ?_
        refine gf_X7_9 W dX7_finish_55 rfl Ta0 ?_
        refine gf_X7_75 dX7_finish_58 rfl (Or.inl (ty_paTape W Ta0)) ?_
        refine y_ii ((zI κ taTotal (zR κ paTape a0)) < a4) dX7_finish_61 (t := 124) rfl rfl (fun c9 => ?_) (fun c9 => ?_)
        · replace F := F.1 c9
          refine y_aln dX7_finish_124 rfl ?_
          refine y_bi1 dX7_finish_125 zb_41 ?_
          replace F := F Ta0
          refine k_X7_169 W dX7_finish_127 rfl (Nat.le_of_ble_eq_true rfl) (Nat.le_of_ble_eq_true rfl) (Or.inl Ta0) F (fun  κ4 Wκ4 Mκ4 F => ?_) (fun cls9 κ9 h9 => Or.inr ⟨_, rfl, h9⟩)
          replace F := F Wκ4 Mκ4
          exact y_rv Wκ4 dX7_finish_130 rfl F
        · replace F := F.2 c9
          refine y_aln dX7_finish_64 rfl ?_
          refine y_iln dX7_finish_65 rfl ?_
          refine y_ic dX7_finish_66 zi_m1 ?_
          replace F := F Ta0
          refine k_X7_220 W dX7_finish_67 rfl (Nat.le_of_ble_eq_true rfl) (Nat.le_of_ble_eq_true rfl) (Or.inl Ta0) F (fun  κ7 Wκ7 Mκ7 F => ?_) (fun cls9 κ9 h9 => Or.inr ⟨_, rfl, h9⟩)
          replace F := F Wκ7 Mκ7
          refine y_iln dX7_finish_70 rfl ?_
          refine y_ic dX7_finish_71 zi_5 ?_
          refine y_iin (a2 = (5 : Int32)) dX7_finish_72 (t := 92) rfl rfl (fun c9 => ?_) (fun c9 => ?_)
          · replace F := F.1 c9
            refine y_iln dX7_finish_92 rfl ?_
            refine y_ic dX7_finish_93 zi_2 ?_
            refine y_iin (a2 = (2 : Int32)) dX7_finish_94 (t := 106) rfl rfl (fun c9 => ?_) (fun c9 => ?_)
            · replace F := F.1 c9
              refine y_ic dX7_finish_106 zi_0 ?_
              have h10 := (ztm W Mκ7 Ta0)
              exact y_k (t_Pa_finish_107 (fun a0' a1' a2' a3' a4' τ w9 f09 hb => by obtain ⟨k, hk, hI⟩ := hb; exact ih k hk a0' a1' a2' a3' a4' τ w9 f09 hI) Wκ7 h10 F) ⟨rfl, rfl, rfl, rfl, trivial⟩
            · replace F := F.2 c9
              refine y_il dX7_finish_97 rfl ?_
              refine y_in (a4 = (0 : Int32)) dX7_finish_99 (t := 106) rfl rfl (fun c9 => ?_) (fun c9 => ?_)
              · replace F := F.1 c9
                refine y_ic dX7_finish_106 zi_0 ?_
                have h11 := (ztm W Mκ7 Ta0)
                exact y_k (t_Pa_finish_107 (fun a0' a1' a2' a3' a4' τ w9 f09 hb => by obtain ⟨k, hk, hI⟩ := hb; exact ih k hk a0' a1' a2' a3' a4' τ w9 f09 hI) Wκ7 h11 F) ⟨rfl, rfl, rfl, rfl, trivial⟩
              · replace F := F.2 c9
                refine y_ic dX7_finish_102 zi_1 ?_
                refine y_goto dX7_finish_103 (t := 107) rfl ?_
                have h12 := (ztm W Mκ7 Ta0)
                exact y_k (t_Pa_finish_107 (fun a0' a1' a2' a3' a4' τ w9 f09 hb => by obtain ⟨k, hk, hI⟩ := hb; exact ih k hk a0' a1' a2' a3' a4' τ w9 f09 hI) Wκ7 h12 F) ⟨rfl, rfl, rfl, rfl, trivial⟩
          · replace F := F.2 c9
            refine y_aln dX7_finish_75 rfl ?_
            have h13 := (ztm W Mκ7 Ta0)
            refine gf_X7_78 dX7_finish_76 rfl (Or.inl h13) ?_
            refine y_bi1 dX7_finish_79 zb_44 ?_
            refine y_iin ((zI κ7 paKind a0) = (44 : Int32)) dX7_finish_81 (t := 88) rfl rfl (fun c9 => ?_) (fun c9 => ?_)
            · replace F := F.1 c9
              refine y_ic dX7_finish_88 zi_0 ?_
              refine y_goto dX7_finish_89 (t := 107) rfl ?_
              exact y_k (t_Pa_finish_107 (fun a0' a1' a2' a3' a4' τ w9 f09 hb => by obtain ⟨k, hk, hI⟩ := hb; exact ih k hk a0' a1' a2' a3' a4' τ w9 f09 hI) Wκ7 h13 F) ⟨rfl, rfl, rfl, rfl, trivial⟩
            · replace F := F.2 c9
              refine y_ic dX7_finish_84 zi_1 ?_
              refine y_goto dX7_finish_85 (t := 107) rfl ?_
              exact y_k (t_Pa_finish_107 (fun a0' a1' a2' a3' a4' τ w9 f09 hb => by obtain ⟨k, hk, hI⟩ := hb; exact ih k hk a0' a1' a2' a3' a4' τ w9 f09 hI) Wκ7 h13 F) ⟨rfl, rfl, rfl, rfl, trivial⟩
  exact key m0 a0 a1 a2 a3 a4 κ W Ta0 hI0

def w_Pa_finish_44 (C : zC) (n0 : Nat) (Q : zS → Prop) (X : zXp)  (a0 : Nat) (a1 : Int32) (a2 : Int32) (s0 : Int32) (κ : zS) : Prop :=
  w_Pa_finish_48 C n0 Q X  a0 a1 a2 s0 (0 : Int32) κ
theorem t_Pa_finish_44 {C : zC} {n0 : Nat} {Q : zS → Prop} {X : zXp}   {a0 : Nat} {a1 : Int32} {a2 : Int32} {s0 : Int32} {κ : zS} (W : zW C n0 κ) (Ta0 : zT κ a0 = 10) (F : w_Pa_finish_44 C n0 Q X  a0 a1 a2 s0 κ) : zG C n0 12 mPa_finish 44 [some (.ref a0), some (.int a1), some (.int a2), none, none] [.int s0] κ (oV Q X) := by
  unfold w_Pa_finish_44 at F
  refine y_isn dX7_finish_44 (Nat.le_of_ble_eq_true rfl) rfl ?_
  show zG _ _ _ _ _ [some (.ref a0), some (.int a1), some (.int a2), some (.int s0), none] _ _ _
  refine y_ic dX7_finish_45 zi_0 ?_
  refine y_is dX7_finish_46 (Nat.le_of_ble_eq_true rfl) rfl ?_
  show zG _ _ _ _ _ [some (.ref a0), some (.int a1), some (.int a2), some (.int s0), some (.int (0 : Int32))] _ _ _
  exact y_k (t_Pa_finish_48  W Ta0 F) ⟨rfl, rfl, rfl, rfl, rfl, trivial⟩

def w_Pa_finish_0 (C : zC) (n0 : Nat) (Q : zS → Prop) (X : zXp)  (a0 : Nat) (a1 : Int32) (a2 : Int32) (κ : zS) : Prop :=
  (¬ a2 = (0 : Int32) →
    ∀ _ : zT κ a0 = 10,
    zRun C 9 mPa_openSign [.ref a0, .int (40 : Int32)] κ (oV (fun κ1 =>
      ∀ _ : zW C n0 κ1,
      ∀ _ : zM (zn κ) κ κ1,
      (¬ a2 = (5 : Int32) →
        w_Pa_finish_44 C n0 Q X  a0 a1 a2 (1 : Int32) κ1) ∧
      (a2 = (5 : Int32) →
        ((zI κ1 paKind a0) = (41 : Int32) →
          w_Pa_finish_44 C n0 Q X  a0 a1 a2 (0 : Int32) κ1) ∧
        (¬ (zI κ1 paKind a0) = (41 : Int32) →
          w_Pa_finish_44 C n0 Q X  a0 a1 a2 (1 : Int32) κ1))) X)) ∧
  (a2 = (0 : Int32) →
    ∀ _ : zT κ (zR κ paCode a0) = 5,
    zRun C 0 mCo_column [.ref (zR κ paCode a0), .int a1, .int (5 : Int32)] κ (oI (fun r7 κ6 =>
      ∀ _ : zW C n0 κ6,
      ∀ _ : zM (zn κ) κ κ6,
      ∀ _ : zT κ6 a0 = 10,
      zRun C 11 mPa_expression [.ref a0, .int a1, .int r7] κ6 (oV (fun κ9 =>
        ∀ _ : zW C n0 κ9,
        ∀ _ : zM (zn κ6) κ6 κ9,
        Q κ9) X)) noX))
theorem t_Pa_finish_0 {C : zC} {n0 : Nat} {Q : zS → Prop} {X : zXp}   {a0 : Nat} {a1 : Int32} {a2 : Int32} {κ : zS} (W : zW C n0 κ) (Ta0 : zT κ a0 = 10) (F : w_Pa_finish_0 C n0 Q X  a0 a1 a2 κ) : zG C n0 12 mPa_finish 0 [some (.ref a0), some (.int a1), some (.int a2), none, none] [] κ (oV Q X) := by
  unfold w_Pa_finish_0 at F
  refine y_iln dX7_finish_0 rfl ?_
  refine y_in (a2 = (0 : Int32)) dX7_finish_1 (t := 19) rfl rfl (fun c9 => ?_) (fun c9 => ?_)
  · replace F := F.1 c9
    refine y_aln dX7_finish_19 rfl ?_
    refine y_bi1 dX7_finish_20 zb_40 ?_
    replace F := F Ta0
    refine k_X7_166 W dX7_finish_22 rfl (Nat.le_of_ble_eq_true rfl) (Nat.le_of_ble_eq_true rfl) (Or.inl Ta0) F (fun  κ1 Wκ1 Mκ1 F => ?_) (fun cls9 κ9 h9 => Or.inr ⟨_, rfl, h9⟩)
    replace F := F Wκ1 Mκ1
    refine y_iln dX7_finish_25 rfl ?_
    refine y_ic dX7_finish_26 zi_5 ?_
    refine y_iin (a2 = (5 : Int32)) dX7_finish_27 (t := 39) rfl rfl (fun c9 => ?_) (fun c9 => ?_)
    · replace F := F.1 c9
      refine y_ic dX7_finish_39 zi_1 ?_
      refine y_goto dX7_finish_40 (t := 44) rfl ?_
      have h4 := (ztm W Mκ1 Ta0)
      exact y_k (t_Pa_finish_44  Wκ1 h4 F) ⟨rfl, rfl, rfl, trivial⟩
    · replace F := F.2 c9
      refine y_aln dX7_finish_30 rfl ?_
      have h5 := (ztm W Mκ1 Ta0)
      refine gf_X7_78 dX7_finish_31 rfl (Or.inl h5) ?_
      refine y_bi1 dX7_finish_34 zb_41 ?_
      refine y_ii ((zI κ1 paKind a0) = (41 : Int32)) dX7_finish_36 (t := 43) rfl rfl (fun c9 => ?_) (fun c9 => ?_)
      · replace F := F.1 c9
        refine y_ic dX7_finish_43 zi_0 ?_
        exact y_k (t_Pa_finish_44  Wκ1 h5 F) ⟨rfl, rfl, rfl, trivial⟩
      · replace F := F.2 c9
        refine y_ic dX7_finish_39 zi_1 ?_
        refine y_goto dX7_finish_40 (t := 44) rfl ?_
        exact y_k (t_Pa_finish_44  Wκ1 h5 F) ⟨rfl, rfl, rfl, trivial⟩
  · replace F := F.2 c9
    refine y_aln dX7_finish_4 rfl ?_
    refine y_iln dX7_finish_5 rfl ?_
    refine y_aln dX7_finish_6 rfl ?_
    refine gf_X7_15 W dX7_finish_7 rfl Ta0 ?_
    refine y_iln dX7_finish_10 rfl ?_
    refine y_ic dX7_finish_11 zi_5 ?_
    replace F := F (ty_paCode W Ta0)
    refine k_X7_194 W dX7_finish_12 rfl (Nat.le_of_ble_eq_true rfl) (Nat.le_of_ble_eq_true rfl) (Or.inl (ty_paCode W Ta0)) F (fun r7 κ6 Wκ6 Mκ6 F => ?_) (fun _ _ h9 => False.elim h9)
    replace F := F Wκ6 Mκ6
    have h11 := (ztm W Mκ6 Ta0)
    replace F := F h11
    refine k_X7_220 Wκ6 dX7_finish_15 rfl (Nat.le_of_ble_eq_true rfl) (Nat.le_of_ble_eq_true rfl) (Or.inl h11) F (fun  κ9 Wκ9 Mκ9 F => ?_) (fun cls9 κ9 h9 => Or.inr ⟨_, rfl, h9⟩)
    replace F := F Wκ9 Mκ9
    exact y_rv Wκ9 dX7_finish_18 rfl F

theorem Pa_finish_run {C : zC} {n0 : Nat} {Q : zS → Prop} {X : zXp} {a0 : Nat} {a1 : Int32} {a2 : Int32} {κ : zS} (W : zW C n0 κ) (Ta0 : zT κ a0 = 10) (F : w_Pa_finish_0 C (zn κ) Q X a0 a1 a2 κ) : zRun C 12 mPa_finish [.ref a0, .int a1, .int a2] κ (oV Q X) := z_run (m_ent _ 2) (t_Pa_finish_0 (W.lo (Nat.le_trans W.1.2.1 W.1.2.2) (Nat.le_refl _)) Ta0 F)

theorem dX7_statement_0 : decode cX7_statement 0 = .ok (.aload_n 0, 1) := by decide +kernel
theorem dX7_statement_1 : decode cX7_statement 1 = .ok (.getfield 78, 3) := by decide +kernel
theorem dX7_statement_4 : decode cX7_statement 4 = .ok (.sipush 153, 3) := by decide +kernel
theorem dX7_statement_7 : decode cX7_statement 7 = .ok (.if_icmp .ne 11, 3) := by decide +kernel
theorem dX7_statement_10 : decode cX7_statement 10 = .ok (.aload_n 0, 1) := by decide +kernel
theorem dX7_statement_11 : decode cX7_statement 11 = .ok (.iload_n 1, 1) := by decide +kernel
theorem dX7_statement_12 : decode cX7_statement 12 = .ok (.invokevirtual 208, 3) := by decide +kernel
theorem dX7_statement_15 : decode cX7_statement 15 = .ok (.goto 259, 3) := by decide +kernel
theorem dX7_statement_18 : decode cX7_statement 18 = .ok (.aload_n 0, 1) := by decide +kernel
theorem dX7_statement_19 : decode cX7_statement 19 = .ok (.getfield 78, 3) := by decide +kernel
theorem dX7_statement_22 : decode cX7_statement 22 = .ok (.sipush 140, 3) := by decide +kernel
theorem dX7_statement_25 : decode cX7_statement 25 = .ok (.if_icmp .eq 11, 3) := by decide +kernel
theorem dX7_statement_28 : decode cX7_statement 28 = .ok (.aload_n 0, 1) := by decide +kernel
theorem dX7_statement_29 : decode cX7_statement 29 = .ok (.iload_n 1, 1) := by decide +kernel
theorem dX7_statement_30 : decode cX7_statement 30 = .ok (.invokevirtual 211, 3) := by decide +kernel
theorem dX7_statement_33 : decode cX7_statement 33 = .ok (.goto 241, 3) := by decide +kernel
theorem dX7_statement_36 : decode cX7_statement 36 = .ok (.aload_n 0, 1) := by decide +kernel
theorem dX7_statement_37 : decode cX7_statement 37 = .ok (.getfield 55, 3) := by decide +kernel
theorem dX7_statement_40 : decode cX7_statement 40 = .ok (.istore_n 2, 1) := by decide +kernel
theorem dX7_statement_41 : decode cX7_statement 41 = .ok (.aload_n 0, 1) := by decide +kernel
theorem dX7_statement_42 : decode cX7_statement 42 = .ok (.invokevirtual 72, 3) := by decide +kernel
theorem dX7_statement_45 : decode cX7_statement 45 = .ok (.aload_n 0, 1) := by decide +kernel
theorem dX7_statement_46 : decode cX7_statement 46 = .ok (.getfield 78, 3) := by decide +kernel
theorem dX7_statement_49 : decode cX7_statement 49 = .ok (.bipush 91, 2) := by decide +kernel
theorem dX7_statement_51 : decode cX7_statement 51 = .ok (.if_icmp .ne 35, 3) := by decide +kernel
theorem dX7_statement_54 : decode cX7_statement 54 = .ok (.aload_n 0, 1) := by decide +kernel
theorem dX7_statement_55 : decode cX7_statement 55 = .ok (.iload_n 1, 1) := by decide +kernel
theorem dX7_statement_56 : decode cX7_statement 56 = .ok (.iconst 3, 1) := by decide +kernel
theorem dX7_statement_57 : decode cX7_statement 57 = .ok (.aload_n 0, 1) := by decide +kernel
theorem dX7_statement_58 : decode cX7_statement 58 = .ok (.iload_n 2, 1) := by decide +kernel
theorem dX7_statement_59 : decode cX7_statement 59 = .ok (.invokevirtual 214, 3) := by decide +kernel
theorem dX7_statement_62 : decode cX7_statement 62 = .ok (.invokevirtual 217, 3) := by decide +kernel
theorem dX7_statement_65 : decode cX7_statement 65 = .ok (.aload_n 0, 1) := by decide +kernel
theorem dX7_statement_66 : decode cX7_statement 66 = .ok (.bipush 91, 2) := by decide +kernel
theorem dX7_statement_68 : decode cX7_statement 68 = .ok (.invokevirtual 166, 3) := by decide +kernel
theorem dX7_statement_71 : decode cX7_statement 71 = .ok (.aload_n 0, 1) := by decide +kernel
theorem dX7_statement_72 : decode cX7_statement 72 = .ok (.iconst (-1), 1) := by decide +kernel
theorem dX7_statement_73 : decode cX7_statement 73 = .ok (.iconst (-1), 1) := by decide +kernel
theorem dX7_statement_74 : decode cX7_statement 74 = .ok (.invokevirtual 220, 3) := by decide +kernel
theorem dX7_statement_77 : decode cX7_statement 77 = .ok (.aload_n 0, 1) := by decide +kernel
theorem dX7_statement_78 : decode cX7_statement 78 = .ok (.bipush 93, 2) := by decide +kernel
theorem dX7_statement_80 : decode cX7_statement 80 = .ok (.invokevirtual 169, 3) := by decide +kernel
theorem dX7_statement_83 : decode cX7_statement 83 = .ok (.goto 68, 3) := by decide +kernel
theorem dX7_statement_86 : decode cX7_statement 86 = .ok (.aload_n 0, 1) := by decide +kernel
theorem dX7_statement_87 : decode cX7_statement 87 = .ok (.getfield 78, 3) := by decide +kernel
theorem dX7_statement_90 : decode cX7_statement 90 = .ok (.bipush 61, 2) := by decide +kernel
theorem dX7_statement_92 : decode cX7_statement 92 = .ok (.if_icmp .eq 12, 3) := by decide +kernel
theorem dX7_statement_95 : decode cX7_statement 95 = .ok (.aload_n 0, 1) := by decide +kernel
theorem dX7_statement_96 : decode cX7_statement 96 = .ok (.getfield 78, 3) := by decide +kernel
theorem dX7_statement_99 : decode cX7_statement 99 = .ok (.bipush 126, 2) := by decide +kernel
theorem dX7_statement_101 : decode cX7_statement 101 = .ok (.if_icmp .ne 50, 3) := by decide +kernel
theorem dX7_statement_104 : decode cX7_statement 104 = .ok (.aload_n 0, 1) := by decide +kernel
theorem dX7_statement_105 : decode cX7_statement 105 = .ok (.iload_n 2, 1) := by decide +kernel
theorem dX7_statement_106 : decode cX7_statement 106 = .ok (.invokevirtual 223, 3) := by decide +kernel
theorem dX7_statement_109 : decode cX7_statement 109 = .ok (.istore_n 3, 1) := by decide +kernel
theorem dX7_statement_110 : decode cX7_statement 110 = .ok (.aload_n 0, 1) := by decide +kernel
theorem dX7_statement_111 : decode cX7_statement 111 = .ok (.iload_n 1, 1) := by decide +kernel
theorem dX7_statement_112 : decode cX7_statement 112 = .ok (.iload_n 3, 1) := by decide +kernel
theorem dX7_statement_113 : decode cX7_statement 113 = .ok (.ifCond .lt 7, 3) := by decide +kernel
theorem dX7_statement_116 : decode cX7_statement 116 = .ok (.iconst 2, 1) := by decide +kernel
theorem dX7_statement_117 : decode cX7_statement 117 = .ok (.goto 4, 3) := by decide +kernel
theorem dX7_statement_120 : decode cX7_statement 120 = .ok (.iconst 1, 1) := by decide +kernel
theorem dX7_statement_121 : decode cX7_statement 121 = .ok (.iload_n 3, 1) := by decide +kernel
theorem dX7_statement_122 : decode cX7_statement 122 = .ok (.ifCond .lt 7, 3) := by decide +kernel
theorem dX7_statement_125 : decode cX7_statement 125 = .ok (.iload_n 3, 1) := by decide +kernel
theorem dX7_statement_126 : decode cX7_statement 126 = .ok (.goto 22, 3) := by decide +kernel
theorem dX7_statement_129 : decode cX7_statement 129 = .ok (.aload_n 0, 1) := by decide +kernel
theorem dX7_statement_130 : decode cX7_statement 130 = .ok (.getfield 9, 3) := by decide +kernel
theorem dX7_statement_133 : decode cX7_statement 133 = .ok (.aload_n 0, 1) := by decide +kernel
theorem dX7_statement_134 : decode cX7_statement 134 = .ok (.getfield 19, 3) := by decide +kernel
theorem dX7_statement_137 : decode cX7_statement 137 = .ok (.aload_n 0, 1) := by decide +kernel
theorem dX7_statement_138 : decode cX7_statement 138 = .ok (.getfield 15, 3) := by decide +kernel
theorem dX7_statement_141 : decode cX7_statement 141 = .ok (.getfield 130, 3) := by decide +kernel
theorem dX7_statement_144 : decode cX7_statement 144 = .ok (.iload_n 2, 1) := by decide +kernel
theorem dX7_statement_145 : decode cX7_statement 145 = .ok (.invokevirtual 133, 3) := by decide +kernel
theorem dX7_statement_148 : decode cX7_statement 148 = .ok (.invokevirtual 217, 3) := by decide +kernel
theorem dX7_statement_151 : decode cX7_statement 151 = .ok (.aload_n 0, 1) := by decide +kernel
theorem dX7_statement_152 : decode cX7_statement 152 = .ok (.getfield 78, 3) := by decide +kernel
theorem dX7_statement_155 : decode cX7_statement 155 = .ok (.bipush 40, 2) := by decide +kernel
theorem dX7_statement_157 : decode cX7_statement 157 = .ok (.if_icmp .ne 19, 3) := by decide +kernel
theorem dX7_statement_160 : decode cX7_statement 160 = .ok (.aload_n 0, 1) := by decide +kernel
theorem dX7_statement_161 : decode cX7_statement 161 = .ok (.getfield 15, 3) := by decide +kernel
theorem dX7_statement_164 : decode cX7_statement 164 = .ok (.iload_n 1, 1) := by decide +kernel
theorem dX7_statement_165 : decode cX7_statement 165 = .ok (.iconst 1, 1) := by decide +kernel
theorem dX7_statement_166 : decode cX7_statement 166 = .ok (.invokevirtual 194, 3) := by decide +kernel
theorem dX7_statement_169 : decode cX7_statement 169 = .ok (.ifCond .ne 7, 3) := by decide +kernel
theorem dX7_statement_172 : decode cX7_statement 172 = .ok (.iconst 1, 1) := by decide +kernel
theorem dX7_statement_173 : decode cX7_statement 173 = .ok (.goto 4, 3) := by decide +kernel
theorem dX7_statement_176 : decode cX7_statement 176 = .ok (.iconst 0, 1) := by decide +kernel
theorem dX7_statement_177 : decode cX7_statement 177 = .ok (.istore_n 3, 1) := by decide +kernel
theorem dX7_statement_178 : decode cX7_statement 178 = .ok (.iload_n 3, 1) := by decide +kernel
theorem dX7_statement_179 : decode cX7_statement 179 = .ok (.ifCond .eq 7, 3) := by decide +kernel
theorem dX7_statement_182 : decode cX7_statement 182 = .ok (.iload_n 2, 1) := by decide +kernel
theorem dX7_statement_183 : decode cX7_statement 183 = .ok (.goto 8, 3) := by decide +kernel
theorem dX7_statement_186 : decode cX7_statement 186 = .ok (.aload_n 0, 1) := by decide +kernel
theorem dX7_statement_187 : decode cX7_statement 187 = .ok (.iload_n 1, 1) := by decide +kernel
theorem dX7_statement_188 : decode cX7_statement 188 = .ok (.invokevirtual 226, 3) := by decide +kernel
theorem dX7_statement_191 : decode cX7_statement 191 = .ok (.istore 4, 2) := by decide +kernel
theorem dX7_statement_193 : decode cX7_statement 193 = .ok (.aload_n 0, 1) := by decide +kernel
theorem dX7_statement_194 : decode cX7_statement 194 = .ok (.getfield 15, 3) := by decide +kernel
theorem dX7_statement_197 : decode cX7_statement 197 = .ok (.iload_n 1, 1) := by decide +kernel
theorem dX7_statement_198 : decode cX7_statement 198 = .ok (.iconst 5, 1) := by decide +kernel
theorem dX7_statement_199 : decode cX7_statement 199 = .ok (.iload 4, 2) := by decide +kernel
theorem dX7_statement_201 : decode cX7_statement 201 = .ok (.invokevirtual 201, 3) := by decide +kernel
theorem dX7_statement_204 : decode cX7_statement 204 = .ok (.iload_n 3, 1) := by decide +kernel
theorem dX7_statement_205 : decode cX7_statement 205 = .ok (.ifCond .ne 18, 3) := by decide +kernel
theorem dX7_statement_208 : decode cX7_statement 208 = .ok (.iload 4, 2) := by decide +kernel
theorem dX7_statement_210 : decode cX7_statement 210 = .ok (.iconst (-1), 1) := by decide +kernel
theorem dX7_statement_211 : decode cX7_statement 211 = .ok (.if_icmp .eq 22, 3) := by decide +kernel
theorem dX7_statement_214 : decode cX7_statement 214 = .ok (.aload_n 0, 1) := by decide +kernel
theorem dX7_statement_215 : decode cX7_statement 215 = .ok (.getfield 78, 3) := by decide +kernel
theorem dX7_statement_218 : decode cX7_statement 218 = .ok (.bipush 40, 2) := by decide +kernel
theorem dX7_statement_220 : decode cX7_statement 220 = .ok (.if_icmp .ne 13, 3) := by decide +kernel
theorem dX7_statement_223 : decode cX7_statement 223 = .ok (.aload_n 0, 1) := by decide +kernel
theorem dX7_statement_224 : decode cX7_statement 224 = .ok (.getfield 15, 3) := by decide +kernel
theorem dX7_statement_227 : decode cX7_statement 227 = .ok (.iload_n 1, 1) := by decide +kernel
theorem dX7_statement_228 : decode cX7_statement 228 = .ok (.iconst 0, 1) := by decide +kernel
theorem dX7_statement_229 : decode cX7_statement 229 = .ok (.iconst 5, 1) := by decide +kernel
theorem dX7_statement_230 : decode cX7_statement 230 = .ok (.invokevirtual 201, 3) := by decide +kernel
theorem dX7_statement_233 : decode cX7_statement 233 = .ok (.aload_n 0, 1) := by decide +kernel
theorem dX7_statement_234 : decode cX7_statement 234 = .ok (.getfield 15, 3) := by decide +kernel
theorem dX7_statement_237 : decode cX7_statement 237 = .ok (.iload_n 1, 1) := by decide +kernel
theorem dX7_statement_238 : decode cX7_statement 238 = .ok (.iconst 0, 1) := by decide +kernel
theorem dX7_statement_239 : decode cX7_statement 239 = .ok (.invokevirtual 194, 3) := by decide +kernel
theorem dX7_statement_242 : decode cX7_statement 242 = .ok (.iconst 3, 1) := by decide +kernel
theorem dX7_statement_243 : decode cX7_statement 243 = .ok (.if_icmp .ne 11, 3) := by decide +kernel
theorem dX7_statement_246 : decode cX7_statement 246 = .ok (.aload_n 0, 1) := by decide +kernel
theorem dX7_statement_247 : decode cX7_statement 247 = .ok (.iload_n 1, 1) := by decide +kernel
theorem dX7_statement_248 : decode cX7_statement 248 = .ok (.invokevirtual 229, 3) := by decide +kernel
theorem dX7_statement_251 : decode cX7_statement 251 = .ok (.goto 17, 3) := by decide +kernel
theorem dX7_statement_254 : decode cX7_statement 254 = .ok (.aload_n 0, 1) := by decide +kernel
theorem dX7_statement_255 : decode cX7_statement 255 = .ok (.iload_n 1, 1) := by decide +kernel
theorem dX7_statement_256 : decode cX7_statement 256 = .ok (.aload_n 0, 1) := by decide +kernel
theorem dX7_statement_257 : decode cX7_statement 257 = .ok (.getfield 15, 3) := by decide +kernel
theorem dX7_statement_260 : decode cX7_statement 260 = .ok (.iload_n 1, 1) := by decide +kernel
theorem dX7_statement_261 : decode cX7_statement 261 = .ok (.iconst 0, 1) := by decide +kernel
theorem dX7_statement_262 : decode cX7_statement 262 = .ok (.invokevirtual 194, 3) := by decide +kernel
theorem dX7_statement_265 : decode cX7_statement 265 = .ok (.invokevirtual 232, 3) := by decide +kernel
theorem dX7_statement_268 : decode cX7_statement 268 = .ok (.aload_n 0, 1) := by decide +kernel
theorem dX7_statement_269 : decode cX7_statement 269 = .ok (.bipush 59, 2) := by decide +kernel
theorem dX7_statement_271 : decode cX7_statement 271 = .ok (.invokevirtual 160, 3) := by decide +kernel
theorem dX7_statement_274 : decode cX7_statement 274 = .ok (.return_, 1) := by decide +kernel
def w_Pa_statement_268 (C : zC) (n0 : Nat) (Q : zS → Prop) (X : zXp)  (a0 : Nat) (κ : zS) : Prop :=
  ∀ _ : zT κ a0 = 10,
  zRun C 9 mPa_pass [.ref a0, .int (59 : Int32)] κ (oV (fun κ1 =>
    ∀ _ : zW C n0 κ1,
    ∀ _ : zM (zn κ) κ κ1,
    Q κ1) X)
theorem t_Pa_statement_268 {C : zC} {n0 : Nat} {Q : zS → Prop} {X : zXp}   {a0 : Nat} {κ : zS} (W : zW C n0 κ) (Ta0 : zT κ a0 = 10) (F : w_Pa_statement_268 C n0 Q X  a0 κ) : zG C n0 13 mPa_statement 268 [some (.ref a0), none, none, none, none] [] κ (oV Q X) := by
  unfold w_Pa_statement_268 at F
  refine y_aln dX7_statement_268 rfl ?_
  refine y_bi1 dX7_statement_269 zb_59 ?_
  replace F := F Ta0
  refine k_X7_160 W dX7_statement_271 rfl (Nat.le_of_ble_eq_true rfl) (Nat.le_of_ble_eq_true rfl) (Or.inl Ta0) F (fun  κ1 Wκ1 Mκ1 F => ?_) (fun cls9 κ9 h9 => Or.inr ⟨_, rfl, h9⟩)
  replace F := F Wκ1 Mκ1
  exact y_rv Wκ1 dX7_statement_274 rfl F

def w_Pa_statement_233 (C : zC) (n0 : Nat) (Q : zS → Prop) (X : zXp)  (a0 : Nat) (a1 : Int32) (κ : zS) : Prop :=
  ∀ _ : zT κ (zR κ paCode a0) = 5,
  zRun C 0 mCo_column [.ref (zR κ paCode a0), .int a1, .int (0 : Int32)] κ (oI (fun r2 κ1 =>
    ∀ _ : zW C n0 κ1,
    ∀ _ : zM (zn κ) κ κ1,
    (¬ r2 = (3 : Int32) →
      ∀ _ : zT κ1 (zR κ1 paCode a0) = 5,
      zRun C 0 mCo_column [.ref (zR κ1 paCode a0), .int a1, .int (0 : Int32)] κ1 (oI (fun r6 κ5 =>
        ∀ _ : zW C n0 κ5,
        ∀ _ : zM (zn κ1) κ1 κ5,
        ∀ _ : zT κ5 a0 = 10,
        zRun C 12 mPa_finish [.ref a0, .int a1, .int r6] κ5 (oV (fun κ8 =>
          ∀ _ : zW C n0 κ8,
          ∀ _ : zM (zn κ5) κ5 κ8,
          w_Pa_statement_268 C n0 Q X  a0 κ8) X)) noX)) ∧
    (r2 = (3 : Int32) →
      ∀ _ : zT κ1 a0 = 10,
      zRun C 12 mPa_spread [.ref a0, .int a1] κ1 (oV (fun κ13 =>
        ∀ _ : zW C n0 κ13,
        ∀ _ : zM (zn κ1) κ1 κ13,
        w_Pa_statement_268 C n0 Q X  a0 κ13) X))) noX)
theorem t_Pa_statement_233 {C : zC} {n0 : Nat} {Q : zS → Prop} {X : zXp}   {a0 : Nat} {a1 : Int32} {κ : zS} (W : zW C n0 κ) (Ta0 : zT κ a0 = 10) (F : w_Pa_statement_233 C n0 Q X  a0 a1 κ) : zG C n0 13 mPa_statement 233 [some (.ref a0), some (.int a1), none, none, none] [] κ (oV Q X) := by
  unfold w_Pa_statement_233 at F
  refine y_aln dX7_statement_233 rfl ?_
  refine gf_X7_15 W dX7_statement_234 rfl Ta0 ?_
  refine y_iln dX7_statement_237 rfl ?_
  refine y_ic dX7_statement_238 zi_0 ?_
  replace F := F (ty_paCode W Ta0)
  refine k_X7_194 W dX7_statement_239 rfl (Nat.le_of_ble_eq_true rfl) (Nat.le_of_ble_eq_true rfl) (Or.inl (ty_paCode W Ta0)) F (fun r2 κ1 Wκ1 Mκ1 F => ?_) (fun _ _ h9 => False.elim h9)
  replace F := F Wκ1 Mκ1
  refine y_ic dX7_statement_242 zi_3 ?_
  refine y_iin (r2 = (3 : Int32)) dX7_statement_243 (t := 254) rfl rfl (fun c9 => ?_) (fun c9 => ?_)
  · replace F := F.1 c9
    refine y_aln dX7_statement_254 rfl ?_
    refine y_iln dX7_statement_255 rfl ?_
    refine y_aln dX7_statement_256 rfl ?_
    have h4 := (ztm W Mκ1 Ta0)
    refine gf_X7_15 Wκ1 dX7_statement_257 rfl h4 ?_
    refine y_iln dX7_statement_260 rfl ?_
    refine y_ic dX7_statement_261 zi_0 ?_
    replace F := F (ty_paCode Wκ1 h4)
    refine k_X7_194 Wκ1 dX7_statement_262 rfl (Nat.le_of_ble_eq_true rfl) (Nat.le_of_ble_eq_true rfl) (Or.inl (ty_paCode Wκ1 h4)) F (fun r6 κ5 Wκ5 Mκ5 F => ?_) (fun _ _ h9 => False.elim h9)
    replace F := F Wκ5 Mκ5
    have h10 := (ztm Wκ1 Mκ5 h4)
    replace F := F h10
    refine k_X7_232 Wκ5 dX7_statement_265 rfl (Nat.le_of_ble_eq_true rfl) (Nat.le_of_ble_eq_true rfl) (Or.inl h10) F (fun  κ8 Wκ8 Mκ8 F => ?_) (fun cls9 κ9 h9 => Or.inr ⟨_, rfl, h9⟩)
    replace F := F Wκ8 Mκ8
    have h12 := (ztm Wκ5 Mκ8 h10)
    exact y_k (t_Pa_statement_268  Wκ8 h12 F) ⟨rfl, trivial⟩
  · replace F := F.2 c9
    refine y_aln dX7_statement_246 rfl ?_
    refine y_iln dX7_statement_247 rfl ?_
    have h15 := (ztm W Mκ1 Ta0)
    replace F := F h15
    refine k_X7_229 Wκ1 dX7_statement_248 rfl (Nat.le_of_ble_eq_true rfl) (Nat.le_of_ble_eq_true rfl) (Or.inl h15) F (fun  κ13 Wκ13 Mκ13 F => ?_) (fun cls9 κ9 h9 => Or.inr ⟨_, rfl, h9⟩)
    replace F := F Wκ13 Mκ13
    refine y_goto dX7_statement_251 (t := 268) rfl ?_
    have h17 := (ztm Wκ1 Mκ13 h15)
    exact y_k (t_Pa_statement_268  Wκ13 h17 F) ⟨rfl, trivial⟩

def w_Pa_statement_223 (C : zC) (n0 : Nat) (Q : zS → Prop) (X : zXp)  (a0 : Nat) (a1 : Int32) (κ : zS) : Prop :=
  ∀ _ : zT κ (zR κ paCode a0) = 5,
  zRun C 0 mCo_setColumn [.ref (zR κ paCode a0), .int a1, .int (0 : Int32), .int (5 : Int32)] κ (oV (fun κ1 =>
    ∀ _ : zW C n0 κ1,
    ∀ _ : zM (zn κ) κ κ1,
    w_Pa_statement_233 C n0 Q X  a0 a1 κ1) noX)
theorem t_Pa_statement_223 {C : zC} {n0 : Nat} {Q : zS → Prop} {X : zXp}   {a0 : Nat} {a1 : Int32} {κ : zS} (W : zW C n0 κ) (Ta0 : zT κ a0 = 10) (F : w_Pa_statement_223 C n0 Q X  a0 a1 κ) : zG C n0 13 mPa_statement 223 [some (.ref a0), some (.int a1), none, none, none] [] κ (oV Q X) := by
  unfold w_Pa_statement_223 at F
  refine y_aln dX7_statement_223 rfl ?_
  refine gf_X7_15 W dX7_statement_224 rfl Ta0 ?_
  refine y_iln dX7_statement_227 rfl ?_
  refine y_ic dX7_statement_228 zi_0 ?_
  refine y_ic dX7_statement_229 zi_5 ?_
  replace F := F (ty_paCode W Ta0)
  refine k_X7_201 W dX7_statement_230 rfl (Nat.le_of_ble_eq_true rfl) (Nat.le_of_ble_eq_true rfl) (Or.inl (ty_paCode W Ta0)) F (fun  κ1 Wκ1 Mκ1 F => ?_) (fun _ _ h9 => False.elim h9)
  replace F := F Wκ1 Mκ1
  have h4 := (ztm W Mκ1 Ta0)
  exact y_k (t_Pa_statement_233  Wκ1 h4 F) ⟨rfl, rfl, trivial⟩

def w_Pa_statement_191 (C : zC) (n0 : Nat) (Q : zS → Prop) (X : zXp)  (a0 : Nat) (a1 : Int32) (a3 : Int32) (s0 : Int32) (κ : zS) : Prop :=
  ∀ _ : zT κ (zR κ paCode a0) = 5,
  zRun C 0 mCo_setColumn [.ref (zR κ paCode a0), .int a1, .int (5 : Int32), .int s0] κ (oV (fun κ1 =>
    ∀ _ : zW C n0 κ1,
    ∀ _ : zM (zn κ) κ κ1,
    (¬ a3 = (0 : Int32) →
      w_Pa_statement_223 C n0 Q X  a0 a1 κ1) ∧
    (a3 = (0 : Int32) →
      (s0 = (-1 : Int32) →
        w_Pa_statement_233 C n0 Q X  a0 a1 κ1) ∧
      (¬ s0 = (-1 : Int32) →
        (¬ (zI κ1 paKind a0) = (40 : Int32) →
          w_Pa_statement_233 C n0 Q X  a0 a1 κ1) ∧
        ((zI κ1 paKind a0) = (40 : Int32) →
          w_Pa_statement_223 C n0 Q X  a0 a1 κ1)))) noX)
theorem t_Pa_statement_191 {C : zC} {n0 : Nat} {Q : zS → Prop} {X : zXp}   {a0 : Nat} {a1 : Int32} {a3 : Int32} {s0 : Int32} {κ : zS} (W : zW C n0 κ) (Ta0 : zT κ a0 = 10) (F : w_Pa_statement_191 C n0 Q X  a0 a1 a3 s0 κ) : zG C n0 13 mPa_statement 191 [some (.ref a0), some (.int a1), none, some (.int a3), none] [.int s0] κ (oV Q X) := by
  unfold w_Pa_statement_191 at F
  refine y_is dX7_statement_191 (Nat.le_of_ble_eq_true rfl) rfl ?_
  show zG _ _ _ _ _ [some (.ref a0), some (.int a1), none, some (.int a3), some (.int s0)] _ _ _
  refine y_aln dX7_statement_193 rfl ?_
  refine gf_X7_15 W dX7_statement_194 rfl Ta0 ?_
  refine y_iln dX7_statement_197 rfl ?_
  refine y_ic dX7_statement_198 zi_5 ?_
  refine y_il dX7_statement_199 rfl ?_
  replace F := F (ty_paCode W Ta0)
  refine k_X7_201 W dX7_statement_201 rfl (Nat.le_of_ble_eq_true rfl) (Nat.le_of_ble_eq_true rfl) (Or.inl (ty_paCode W Ta0)) F (fun  κ1 Wκ1 Mκ1 F => ?_) (fun _ _ h9 => False.elim h9)
  replace F := F Wκ1 Mκ1
  refine y_iln dX7_statement_204 rfl ?_
  refine y_in (a3 = (0 : Int32)) dX7_statement_205 (t := 223) rfl rfl (fun c9 => ?_) (fun c9 => ?_)
  · replace F := F.1 c9
    have h4 := (ztm W Mκ1 Ta0)
    exact y_k (t_Pa_statement_223  Wκ1 h4 F) ⟨rfl, rfl, trivial⟩
  · replace F := F.2 c9
    refine y_il dX7_statement_208 rfl ?_
    refine y_ic dX7_statement_210 zi_m1 ?_
    refine y_ii (s0 = (-1 : Int32)) dX7_statement_211 (t := 233) rfl rfl (fun c9 => ?_) (fun c9 => ?_)
    · replace F := F.1 c9
      have h5 := (ztm W Mκ1 Ta0)
      exact y_k (t_Pa_statement_233  Wκ1 h5 F) ⟨rfl, rfl, trivial⟩
    · replace F := F.2 c9
      refine y_aln dX7_statement_214 rfl ?_
      have h6 := (ztm W Mκ1 Ta0)
      refine gf_X7_78 dX7_statement_215 rfl (Or.inl h6) ?_
      refine y_bi1 dX7_statement_218 zb_40 ?_
      refine y_iin ((zI κ1 paKind a0) = (40 : Int32)) dX7_statement_220 (t := 233) rfl rfl (fun c9 => ?_) (fun c9 => ?_)
      · replace F := F.1 c9
        exact y_k (t_Pa_statement_233  Wκ1 h6 F) ⟨rfl, rfl, trivial⟩
      · replace F := F.2 c9
        exact y_k (t_Pa_statement_223  Wκ1 h6 F) ⟨rfl, rfl, trivial⟩

def w_Pa_statement_177 (C : zC) (n0 : Nat) (Q : zS → Prop) (X : zXp)  (a0 : Nat) (a1 : Int32) (a2 : Int32) (s0 : Int32) (κ : zS) : Prop :=
  (s0 = (0 : Int32) →
    ∀ _ : zT κ a0 = 10,
    zRun C 10 mPa_behindPlace [.ref a0, .int a1] κ (oI (fun r2 κ1 =>
      ∀ _ : zW C n0 κ1,
      ∀ _ : zM (zn κ) κ κ1,
      w_Pa_statement_191 C n0 Q X  a0 a1 s0 r2 κ1) X)) ∧
  (¬ s0 = (0 : Int32) →
    w_Pa_statement_191 C n0 Q X  a0 a1 s0 a2 κ)
theorem t_Pa_statement_177 {C : zC} {n0 : Nat} {Q : zS → Prop} {X : zXp}   {a0 : Nat} {a1 : Int32} {a2 : Int32} {s0 : Int32} {κ : zS} (W : zW C n0 κ) (Ta0 : zT κ a0 = 10) (F : w_Pa_statement_177 C n0 Q X  a0 a1 a2 s0 κ) : zG C n0 13 mPa_statement 177 [some (.ref a0), some (.int a1), some (.int a2), none, none] [.int s0] κ (oV Q X) := by
  unfold w_Pa_statement_177 at F
  refine y_isn dX7_statement_177 (Nat.le_of_ble_eq_true rfl) rfl ?_
  show zG _ _ _ _ _ [some (.ref a0), some (.int a1), some (.int a2), some (.int s0), none] _ _ _
  refine y_iln dX7_statement_178 rfl ?_
  refine y_i (s0 = (0 : Int32)) dX7_statement_179 (t := 186) rfl rfl (fun c9 => ?_) (fun c9 => ?_)
  · replace F := F.1 c9
    refine y_aln dX7_statement_186 rfl ?_
    refine y_iln dX7_statement_187 rfl ?_
    replace F := F Ta0
    refine k_X7_226 W dX7_statement_188 rfl (Nat.le_of_ble_eq_true rfl) (Nat.le_of_ble_eq_true rfl) (Or.inl Ta0) F (fun r2 κ1 Wκ1 Mκ1 F => ?_) (fun cls9 κ9 h9 => Or.inr ⟨_, rfl, h9⟩)
    replace F := F Wκ1 Mκ1
    have h4 := (ztm W Mκ1 Ta0)
    exact y_k (t_Pa_statement_191  Wκ1 h4 F) ⟨rfl, rfl, rfl, trivial⟩
  · replace F := F.2 c9
    refine y_iln dX7_statement_182 rfl ?_
    refine y_goto dX7_statement_183 (t := 191) rfl ?_
    exact y_k (t_Pa_statement_191  W Ta0 F) ⟨rfl, rfl, rfl, trivial⟩

def w_Pa_statement_151 (C : zC) (n0 : Nat) (Q : zS → Prop) (X : zXp)  (a0 : Nat) (a1 : Int32) (a2 : Int32) (κ : zS) : Prop :=
  (¬ (zI κ paKind a0) = (40 : Int32) →
    w_Pa_statement_177 C n0 Q X  a0 a1 a2 (0 : Int32) κ) ∧
  ((zI κ paKind a0) = (40 : Int32) →
    ∀ _ : zT κ (zR κ paCode a0) = 5,
    zRun C 0 mCo_column [.ref (zR κ paCode a0), .int a1, .int (1 : Int32)] κ (oI (fun r2 κ1 =>
      ∀ _ : zW C n0 κ1,
      ∀ _ : zM (zn κ) κ κ1,
      (¬ r2 = (0 : Int32) →
        w_Pa_statement_177 C n0 Q X  a0 a1 a2 (0 : Int32) κ1) ∧
      (r2 = (0 : Int32) →
        w_Pa_statement_177 C n0 Q X  a0 a1 a2 (1 : Int32) κ1)) noX))
theorem t_Pa_statement_151 {C : zC} {n0 : Nat} {Q : zS → Prop} {X : zXp}   {a0 : Nat} {a1 : Int32} {a2 : Int32} {κ : zS} (W : zW C n0 κ) (Ta0 : zT κ a0 = 10) (F : w_Pa_statement_151 C n0 Q X  a0 a1 a2 κ) : zG C n0 13 mPa_statement 151 [some (.ref a0), some (.int a1), some (.int a2), none, none] [] κ (oV Q X) := by
  unfold w_Pa_statement_151 at F
  refine y_aln dX7_statement_151 rfl ?_
  refine gf_X7_78 dX7_statement_152 rfl (Or.inl Ta0) ?_
  refine y_bi1 dX7_statement_155 zb_40 ?_
  refine y_iin ((zI κ paKind a0) = (40 : Int32)) dX7_statement_157 (t := 176) rfl rfl (fun c9 => ?_) (fun c9 => ?_)
  · replace F := F.1 c9
    refine y_ic dX7_statement_176 zi_0 ?_
    exact y_k (t_Pa_statement_177  W Ta0 F) ⟨rfl, rfl, rfl, trivial⟩
  · replace F := F.2 c9
    refine y_aln dX7_statement_160 rfl ?_
    refine gf_X7_15 W dX7_statement_161 rfl Ta0 ?_
    refine y_iln dX7_statement_164 rfl ?_
    refine y_ic dX7_statement_165 zi_1 ?_
    replace F := F (ty_paCode W Ta0)
    refine k_X7_194 W dX7_statement_166 rfl (Nat.le_of_ble_eq_true rfl) (Nat.le_of_ble_eq_true rfl) (Or.inl (ty_paCode W Ta0)) F (fun r2 κ1 Wκ1 Mκ1 F => ?_) (fun _ _ h9 => False.elim h9)
    replace F := F Wκ1 Mκ1
    refine y_in (r2 = (0 : Int32)) dX7_statement_169 (t := 176) rfl rfl (fun c9 => ?_) (fun c9 => ?_)
    · replace F := F.1 c9
      refine y_ic dX7_statement_176 zi_0 ?_
      have h4 := (ztm W Mκ1 Ta0)
      exact y_k (t_Pa_statement_177  Wκ1 h4 F) ⟨rfl, rfl, rfl, trivial⟩
    · replace F := F.2 c9
      refine y_ic dX7_statement_172 zi_1 ?_
      refine y_goto dX7_statement_173 (t := 177) rfl ?_
      have h5 := (ztm W Mκ1 Ta0)
      exact y_k (t_Pa_statement_177  Wκ1 h5 F) ⟨rfl, rfl, rfl, trivial⟩

def w_Pa_statement_121 (C : zC) (n0 : Nat) (Q : zS → Prop) (X : zXp)  (a0 : Nat) (a1 : Int32) (a2 : Int32) (a3 : Int32) (s0 : Nat) (s1 : Int32) (s2 : Int32) (κ : zS) : Prop :=
  (a3 < (0 : Int32) →
    ∀ _ : zT κ (zR κ paTape a0) = 13,
    ∀ _ : zT κ (zR κ paVarNames a0) = 20,
    zRun C 0 mTa_findName [.ref (zR κ paTape a0), .ref (zR κ paVarNames a0), .int (zI κ coVars (zR κ paCode a0)), .int a2] κ (oI (fun r2 κ1 =>
      ∀ _ : zW C n0 κ1,
      ∀ _ : zM (zn κ) κ κ1,
      ∀ _ : zT κ1 s0 = 10,
      zRun C 1 mPa_setPlace [.ref s0, .int s1, .int s2, .int r2] κ1 (oV (fun κ4 =>
        ∀ _ : zW C n0 κ4,
        ∀ _ : zM (zn κ1) κ1 κ4,
        w_Pa_statement_151 C n0 Q X  a0 a1 a2 κ4) noX)) noX)) ∧
  (¬ a3 < (0 : Int32) →
    ∀ _ : zT κ s0 = 10,
    zRun C 1 mPa_setPlace [.ref s0, .int s1, .int s2, .int a3] κ (oV (fun κ9 =>
      ∀ _ : zW C n0 κ9,
      ∀ _ : zM (zn κ) κ κ9,
      w_Pa_statement_151 C n0 Q X  a0 a1 a2 κ9) noX))
theorem t_Pa_statement_121 {C : zC} {n0 : Nat} {Q : zS → Prop} {X : zXp}   {a0 : Nat} {a1 : Int32} {a2 : Int32} {a3 : Int32} {s0 : Nat} {s1 : Int32} {s2 : Int32} {κ : zS} (W : zW C n0 κ) (Ta0 : zT κ a0 = 10) (Ts0 : zT κ s0 = 10) (F : w_Pa_statement_121 C n0 Q X  a0 a1 a2 a3 s0 s1 s2 κ) : zG C n0 13 mPa_statement 121 [some (.ref a0), some (.int a1), some (.int a2), some (.int a3), none] [.int s2, .int s1, .ref s0] κ (oV Q X) := by
  unfold w_Pa_statement_121 at F
  refine y_iln dX7_statement_121 rfl ?_
  refine y_i (a3 < (0 : Int32)) dX7_statement_122 (t := 129) rfl rfl (fun c9 => ?_) (fun c9 => ?_)
  · replace F := F.1 c9
    refine y_aln dX7_statement_129 rfl ?_
    refine gf_X7_9 W dX7_statement_130 rfl Ta0 ?_
    refine y_aln dX7_statement_133 rfl ?_
    refine gf_X7_19 W dX7_statement_134 rfl Ta0 ?_
    refine y_aln dX7_statement_137 rfl ?_
    refine gf_X7_15 W dX7_statement_138 rfl Ta0 ?_
    refine gf_X7_130 dX7_statement_141 rfl (Or.inl (ty_paCode W Ta0)) ?_
    refine y_iln dX7_statement_144 rfl ?_
    replace F := F (ty_paTape W Ta0)
    replace F := F (ty_paVarNames W Ta0)
    refine k_X7_133 W dX7_statement_145 rfl (Nat.le_of_ble_eq_true rfl) (Nat.le_of_ble_eq_true rfl) (Or.inl (ty_paTape W Ta0)) F (fun r2 κ1 Wκ1 Mκ1 F => ?_) (fun _ _ h9 => False.elim h9)
    replace F := F Wκ1 Mκ1
    have h6 := (ztm W Mκ1 Ts0)
    replace F := F h6
    refine k_X7_217 Wκ1 dX7_statement_148 rfl (Nat.le_of_ble_eq_true rfl) (Nat.le_of_ble_eq_true rfl) (Or.inl h6) F (fun  κ4 Wκ4 Mκ4 F => ?_) (fun _ _ h9 => False.elim h9)
    replace F := F Wκ4 Mκ4
    have h8 := (ztm Wκ1 Mκ4 (ztm W Mκ1 Ta0))
    exact y_k (t_Pa_statement_151  Wκ4 h8 F) ⟨rfl, rfl, rfl, trivial⟩
  · replace F := F.2 c9
    refine y_iln dX7_statement_125 rfl ?_
    refine y_goto dX7_statement_126 (t := 148) rfl ?_
    replace F := F Ts0
    refine k_X7_217 W dX7_statement_148 rfl (Nat.le_of_ble_eq_true rfl) (Nat.le_of_ble_eq_true rfl) (Or.inl Ts0) F (fun  κ9 Wκ9 Mκ9 F => ?_) (fun _ _ h9 => False.elim h9)
    replace F := F Wκ9 Mκ9
    have h12 := (ztm W Mκ9 Ta0)
    exact y_k (t_Pa_statement_151  Wκ9 h12 F) ⟨rfl, rfl, rfl, trivial⟩

def w_Pa_statement_104 (C : zC) (n0 : Nat) (Q : zS → Prop) (X : zXp)  (a0 : Nat) (a1 : Int32) (a2 : Int32) (κ : zS) : Prop :=
  ∀ _ : zT κ a0 = 10,
  zRun C 9 mPa_findVariable [.ref a0, .int a2] κ (oI (fun r2 κ1 =>
    ∀ _ : zW C n0 κ1,
    ∀ _ : zM (zn κ) κ κ1,
    (r2 < (0 : Int32) →
      w_Pa_statement_121 C n0 Q X  a0 a1 a2 r2 a0 a1 (1 : Int32) κ1) ∧
    (¬ r2 < (0 : Int32) →
      w_Pa_statement_121 C n0 Q X  a0 a1 a2 r2 a0 a1 (2 : Int32) κ1)) X)
theorem t_Pa_statement_104 {C : zC} {n0 : Nat} {Q : zS → Prop} {X : zXp}   {a0 : Nat} {a1 : Int32} {a2 : Int32} {κ : zS} (W : zW C n0 κ) (Ta0 : zT κ a0 = 10) (F : w_Pa_statement_104 C n0 Q X  a0 a1 a2 κ) : zG C n0 13 mPa_statement 104 [some (.ref a0), some (.int a1), some (.int a2), none, none] [] κ (oV Q X) := by
  unfold w_Pa_statement_104 at F
  refine y_aln dX7_statement_104 rfl ?_
  refine y_iln dX7_statement_105 rfl ?_
  replace F := F Ta0
  refine k_X7_223 W dX7_statement_106 rfl (Nat.le_of_ble_eq_true rfl) (Nat.le_of_ble_eq_true rfl) (Or.inl Ta0) F (fun r2 κ1 Wκ1 Mκ1 F => ?_) (fun cls9 κ9 h9 => Or.inr ⟨_, rfl, h9⟩)
  replace F := F Wκ1 Mκ1
  refine y_isn dX7_statement_109 (Nat.le_of_ble_eq_true rfl) rfl ?_
  show zG _ _ _ _ _ [some (.ref a0), some (.int a1), some (.int a2), some (.int r2), none] _ _ _
  refine y_aln dX7_statement_110 rfl ?_
  refine y_iln dX7_statement_111 rfl ?_
  refine y_iln dX7_statement_112 rfl ?_
  refine y_i (r2 < (0 : Int32)) dX7_statement_113 (t := 120) rfl rfl (fun c9 => ?_) (fun c9 => ?_)
  · replace F := F.1 c9
    refine y_ic dX7_statement_120 zi_1 ?_
    have h4 := (ztm W Mκ1 Ta0)
    exact y_k (t_Pa_statement_121  Wκ1 h4 h4 F) ⟨rfl, rfl, rfl, rfl, trivial⟩
  · replace F := F.2 c9
    refine y_ic dX7_statement_116 zi_2 ?_
    refine y_goto dX7_statement_117 (t := 121) rfl ?_
    have h5 := (ztm W Mκ1 Ta0)
    exact y_k (t_Pa_statement_121  Wκ1 h5 h5 F) ⟨rfl, rfl, rfl, rfl, trivial⟩

def w_Pa_statement_0 (C : zC) (n0 : Nat) (Q : zS → Prop) (X : zXp)  (a0 : Nat) (a1 : Int32) (κ : zS) : Prop :=
  (¬ (zI κ paKind a0) = (153 : Int32) →
    ((zI κ paKind a0) = (140 : Int32) →
      ∀ v2_1 : Int32, v2_1 = (zI κ paAt a0) →
      ∀ _ : zT κ a0 = 10,
      zRun C 0 mPa_take [.ref a0] κ (oV (fun κ2 =>
        ∀ _ : zW C n0 κ2,
        ∀ _ : zM (zn κ) κ κ2,
        (¬ (zI κ2 paKind a0) = (91 : Int32) →
          ((zI κ2 paKind a0) = (61 : Int32) →
            w_Pa_statement_104 C n0 Q X  a0 a1 v2_1 κ2) ∧
          (¬ (zI κ2 paKind a0) = (61 : Int32) →
            (¬ (zI κ2 paKind a0) = (126 : Int32) →
              w_Pa_statement_151 C n0 Q X  a0 a1 v2_1 κ2) ∧
            ((zI κ2 paKind a0) = (126 : Int32) →
              w_Pa_statement_104 C n0 Q X  a0 a1 v2_1 κ2))) ∧
        ((zI κ2 paKind a0) = (91 : Int32) →
          ∀ _ : zT κ2 a0 = 10,
          zRun C 9 mPa_findArray [.ref a0, .int v2_1] κ2 (oI (fun r7 κ6 =>
            ∀ _ : zW C n0 κ6,
            ∀ _ : zM (zn κ2) κ2 κ6,
            ∀ _ : zT κ6 a0 = 10,
            zRun C 1 mPa_setPlace [.ref a0, .int a1, .int (3 : Int32), .int r7] κ6 (oV (fun κ9 =>
              ∀ _ : zW C n0 κ9,
              ∀ _ : zM (zn κ6) κ6 κ9,
              ∀ _ : zT κ9 a0 = 10,
              zRun C 9 mPa_openSign [.ref a0, .int (91 : Int32)] κ9 (oV (fun κ13 =>
                ∀ _ : zW C n0 κ13,
                ∀ _ : zM (zn κ9) κ9 κ13,
                ∀ _ : zT κ13 a0 = 10,
                zRun C 11 mPa_expression [.ref a0, .int (-1 : Int32), .int (-1 : Int32)] κ13 (oV (fun κ17 =>
                  ∀ _ : zW C n0 κ17,
                  ∀ _ : zM (zn κ13) κ13 κ17,
                  ∀ _ : zT κ17 a0 = 10,
                  zRun C 9 mPa_closeSign [.ref a0, .int (93 : Int32)] κ17 (oV (fun κ21 =>
                    ∀ _ : zW C n0 κ21,
                    ∀ _ : zM (zn κ17) κ17 κ21,
                    w_Pa_statement_151 C n0 Q X  a0 a1 v2_1 κ21) X)) X)) X)) noX)) X))) noX)) ∧
    (¬ (zI κ paKind a0) = (140 : Int32) →
      ∀ _ : zT κ a0 = 10,
      zRun C 12 mPa_wordStatement [.ref a0, .int a1] κ (oV (fun κ26 =>
        ∀ _ : zW C n0 κ26,
        ∀ _ : zM (zn κ) κ κ26,
        Q κ26) X))) ∧
  ((zI κ paKind a0) = (153 : Int32) →
    ∀ _ : zT κ a0 = 10,
    zRun C 12 mPa_localStatement [.ref a0, .int a1] κ (oV (fun κ29 =>
      ∀ _ : zW C n0 κ29,
      ∀ _ : zM (zn κ) κ κ29,
      Q κ29) X))
theorem t_Pa_statement_0 {C : zC} {n0 : Nat} {Q : zS → Prop} {X : zXp}   {a0 : Nat} {a1 : Int32} {κ : zS} (W : zW C n0 κ) (Ta0 : zT κ a0 = 10) (F : w_Pa_statement_0 C n0 Q X  a0 a1 κ) : zG C n0 13 mPa_statement 0 [some (.ref a0), some (.int a1), none, none, none] [] κ (oV Q X) := by
  unfold w_Pa_statement_0 at F
  refine y_aln dX7_statement_0 rfl ?_
  refine gf_X7_78 dX7_statement_1 rfl (Or.inl Ta0) ?_
  refine y_si dX7_statement_4 zs_153 ?_
  refine y_iin ((zI κ paKind a0) = (153 : Int32)) dX7_statement_7 (t := 18) rfl rfl (fun c9 => ?_) (fun c9 => ?_)
  · replace F := F.1 c9
    refine y_aln dX7_statement_18 rfl ?_
    refine gf_X7_78 dX7_statement_19 rfl (Or.inl Ta0) ?_
    refine y_si dX7_statement_22 zs_140 ?_
    refine y_ii ((zI κ paKind a0) = (140 : Int32)) dX7_statement_25 (t := 36) rfl rfl (fun c9 => ?_) (fun c9 => ?_)
    · replace F := F.1 c9
      refine y_aln dX7_statement_36 rfl ?_
      refine gf_X7_55 dX7_statement_37 rfl (Or.inl Ta0) ?_
      refine y_isnb dX7_statement_40 (Nat.le_of_ble_eq_true rfl) (fun v2_1 ev2_1 => ?_)
      replace F := F v2_1 ev2_1
      show zG _ _ _ _ _ [some (.ref a0), some (.int a1), some (.int v2_1), none, none] _ _ _
      refine y_aln dX7_statement_41 rfl ?_
      replace F := F Ta0
      refine k_X7_72 W dX7_statement_42 rfl (Nat.le_of_ble_eq_true rfl) (Nat.le_of_ble_eq_true rfl) (Or.inl Ta0) F (fun  κ2 Wκ2 Mκ2 F => ?_) (fun _ _ h9 => False.elim h9)
      replace F := F Wκ2 Mκ2
      refine y_aln dX7_statement_45 rfl ?_
      have h5 := (ztm W Mκ2 Ta0)
      refine gf_X7_78 dX7_statement_46 rfl (Or.inl h5) ?_
      refine y_bi1 dX7_statement_49 zb_91 ?_
      refine y_iin ((zI κ2 paKind a0) = (91 : Int32)) dX7_statement_51 (t := 86) rfl rfl (fun c9 => ?_) (fun c9 => ?_)
      · replace F := F.1 c9
        refine y_aln dX7_statement_86 rfl ?_
        refine gf_X7_78 dX7_statement_87 rfl (Or.inl h5) ?_
        refine y_bi1 dX7_statement_90 zb_61 ?_
        refine y_ii ((zI κ2 paKind a0) = (61 : Int32)) dX7_statement_92 (t := 104) rfl rfl (fun c9 => ?_) (fun c9 => ?_)
        · replace F := F.1 c9
          exact y_k (t_Pa_statement_104  Wκ2 h5 F) ⟨rfl, rfl, rfl, trivial⟩
        · replace F := F.2 c9
          refine y_aln dX7_statement_95 rfl ?_
          refine gf_X7_78 dX7_statement_96 rfl (Or.inl h5) ?_
          refine y_bi1 dX7_statement_99 zb_126 ?_
          refine y_iin ((zI κ2 paKind a0) = (126 : Int32)) dX7_statement_101 (t := 151) rfl rfl (fun c9 => ?_) (fun c9 => ?_)
          · replace F := F.1 c9
            exact y_k (t_Pa_statement_151  Wκ2 h5 F) ⟨rfl, rfl, rfl, trivial⟩
          · replace F := F.2 c9
            exact y_k (t_Pa_statement_104  Wκ2 h5 F) ⟨rfl, rfl, rfl, trivial⟩
      · replace F := F.2 c9
        refine y_aln dX7_statement_54 rfl ?_
        refine y_iln dX7_statement_55 rfl ?_
        refine y_ic dX7_statement_56 zi_3 ?_
        refine y_aln dX7_statement_57 rfl ?_
        refine y_iln dX7_statement_58 rfl ?_
        replace F := F h5
        refine k_X7_214 Wκ2 dX7_statement_59 rfl (Nat.le_of_ble_eq_true rfl) (Nat.le_of_ble_eq_true rfl) (Or.inl h5) F (fun r7 κ6 Wκ6 Mκ6 F => ?_) (fun cls9 κ9 h9 => Or.inr ⟨_, rfl, h9⟩)
        replace F := F Wκ6 Mκ6
        have h11 := (ztm Wκ2 Mκ6 h5)
        replace F := F h11
        refine k_X7_217 Wκ6 dX7_statement_62 rfl (Nat.le_of_ble_eq_true rfl) (Nat.le_of_ble_eq_true rfl) (Or.inl h11) F (fun  κ9 Wκ9 Mκ9 F => ?_) (fun _ _ h9 => False.elim h9)
        replace F := F Wκ9 Mκ9
        refine y_aln dX7_statement_65 rfl ?_
        refine y_bi1 dX7_statement_66 zb_91 ?_
        have h15 := (ztm Wκ6 Mκ9 h11)
        replace F := F h15
        refine k_X7_166 Wκ9 dX7_statement_68 rfl (Nat.le_of_ble_eq_true rfl) (Nat.le_of_ble_eq_true rfl) (Or.inl h15) F (fun  κ13 Wκ13 Mκ13 F => ?_) (fun cls9 κ9 h9 => Or.inr ⟨_, rfl, h9⟩)
        replace F := F Wκ13 Mκ13
        refine y_aln dX7_statement_71 rfl ?_
        refine y_ic dX7_statement_72 zi_m1 ?_
        refine y_ic dX7_statement_73 zi_m1 ?_
        have h19 := (ztm Wκ9 Mκ13 h15)
        replace F := F h19
        refine k_X7_220 Wκ13 dX7_statement_74 rfl (Nat.le_of_ble_eq_true rfl) (Nat.le_of_ble_eq_true rfl) (Or.inl h19) F (fun  κ17 Wκ17 Mκ17 F => ?_) (fun cls9 κ9 h9 => Or.inr ⟨_, rfl, h9⟩)
        replace F := F Wκ17 Mκ17
        refine y_aln dX7_statement_77 rfl ?_
        refine y_bi1 dX7_statement_78 zb_93 ?_
        have h23 := (ztm Wκ13 Mκ17 h19)
        replace F := F h23
        refine k_X7_169 Wκ17 dX7_statement_80 rfl (Nat.le_of_ble_eq_true rfl) (Nat.le_of_ble_eq_true rfl) (Or.inl h23) F (fun  κ21 Wκ21 Mκ21 F => ?_) (fun cls9 κ9 h9 => Or.inr ⟨_, rfl, h9⟩)
        replace F := F Wκ21 Mκ21
        refine y_goto dX7_statement_83 (t := 151) rfl ?_
        have h25 := (ztm Wκ17 Mκ21 h23)
        exact y_k (t_Pa_statement_151  Wκ21 h25 F) ⟨rfl, rfl, rfl, trivial⟩
    · replace F := F.2 c9
      refine y_aln dX7_statement_28 rfl ?_
      refine y_iln dX7_statement_29 rfl ?_
      replace F := F Ta0
      refine k_X7_211 W dX7_statement_30 rfl (Nat.le_of_ble_eq_true rfl) (Nat.le_of_ble_eq_true rfl) (Or.inl Ta0) F (fun  κ26 Wκ26 Mκ26 F => ?_) (fun cls9 κ9 h9 => Or.inr ⟨_, rfl, h9⟩)
      replace F := F Wκ26 Mκ26
      refine y_goto dX7_statement_33 (t := 274) rfl ?_
      exact y_rv Wκ26 dX7_statement_274 rfl F
  · replace F := F.2 c9
    refine y_aln dX7_statement_10 rfl ?_
    refine y_iln dX7_statement_11 rfl ?_
    replace F := F Ta0
    refine k_X7_208 W dX7_statement_12 rfl (Nat.le_of_ble_eq_true rfl) (Nat.le_of_ble_eq_true rfl) (Or.inl Ta0) F (fun  κ29 Wκ29 Mκ29 F => ?_) (fun cls9 κ9 h9 => Or.inr ⟨_, rfl, h9⟩)
    replace F := F Wκ29 Mκ29
    refine y_goto dX7_statement_15 (t := 274) rfl ?_
    exact y_rv Wκ29 dX7_statement_274 rfl F

theorem Pa_statement_run {C : zC} {n0 : Nat} {Q : zS → Prop} {X : zXp} {a0 : Nat} {a1 : Int32} {κ : zS} (W : zW C n0 κ) (Ta0 : zT κ a0 = 10) (F : w_Pa_statement_0 C (zn κ) Q X a0 a1 κ) : zRun C 13 mPa_statement [.ref a0, .int a1] κ (oV Q X) := z_run (m_ent _ 3) (t_Pa_statement_0 (W.lo (Nat.le_trans W.1.2.1 W.1.2.2) (Nat.le_refl _)) Ta0 F)

theorem dX10_reads_0 : decode cX10_reads 0 = .ok (.iconst 0, 1) := by decide +kernel
theorem dX10_reads_1 : decode cX10_reads 1 = .ok (.istore 5, 2) := by decide +kernel
theorem dX10_reads_3 : decode cX10_reads 3 = .ok (.iload 5, 2) := by decide +kernel
theorem dX10_reads_5 : decode cX10_reads 5 = .ok (.iload_n 2, 1) := by decide +kernel
theorem dX10_reads_6 : decode cX10_reads 6 = .ok (.if_icmp .ge 43, 3) := by decide +kernel
theorem dX10_reads_9 : decode cX10_reads 9 = .ok (.iload 4, 2) := by decide +kernel
theorem dX10_reads_11 : decode cX10_reads 11 = .ok (.iload 5, 2) := by decide +kernel
theorem dX10_reads_13 : decode cX10_reads 13 = .ok (.iadd, 1) := by decide +kernel
theorem dX10_reads_14 : decode cX10_reads 14 = .ok (.aload_n 3, 1) := by decide +kernel
theorem dX10_reads_15 : decode cX10_reads 15 = .ok (.invokevirtual 78, 3) := by decide +kernel
theorem dX10_reads_18 : decode cX10_reads 18 = .ok (.if_icmp .ge 23, 3) := by decide +kernel
theorem dX10_reads_21 : decode cX10_reads 21 = .ok (.aload_n 0, 1) := by decide +kernel
theorem dX10_reads_22 : decode cX10_reads 22 = .ok (.iload_n 1, 1) := by decide +kernel
theorem dX10_reads_23 : decode cX10_reads 23 = .ok (.iload 5, 2) := by decide +kernel
theorem dX10_reads_25 : decode cX10_reads 25 = .ok (.iadd, 1) := by decide +kernel
theorem dX10_reads_26 : decode cX10_reads 26 = .ok (.invokevirtual 56, 3) := by decide +kernel
theorem dX10_reads_29 : decode cX10_reads 29 = .ok (.aload_n 3, 1) := by decide +kernel
theorem dX10_reads_30 : decode cX10_reads 30 = .ok (.iload 4, 2) := by decide +kernel
theorem dX10_reads_32 : decode cX10_reads 32 = .ok (.iload 5, 2) := by decide +kernel
theorem dX10_reads_34 : decode cX10_reads 34 = .ok (.iadd, 1) := by decide +kernel
theorem dX10_reads_35 : decode cX10_reads 35 = .ok (.invokevirtual 81, 3) := by decide +kernel
theorem dX10_reads_38 : decode cX10_reads 38 = .ok (.if_icmp .eq 5, 3) := by decide +kernel
theorem dX10_reads_41 : decode cX10_reads 41 = .ok (.iconst 0, 1) := by decide +kernel
theorem dX10_reads_42 : decode cX10_reads 42 = .ok (.ireturn, 1) := by decide +kernel
theorem dX10_reads_43 : decode cX10_reads 43 = .ok (.iinc 5 1, 3) := by decide +kernel
theorem dX10_reads_46 : decode cX10_reads 46 = .ok (.goto (-43), 3) := by decide +kernel
theorem dX10_reads_49 : decode cX10_reads 49 = .ok (.iconst 1, 1) := by decide +kernel
theorem dX10_reads_50 : decode cX10_reads 50 = .ok (.ireturn, 1) := by decide +kernel
def w_Ta_reads_3 (C : zC) (n0 : Nat) (Q : Int32 → zS → Prop)  (a0 : Nat) (a1 : Int32) (a2 : Int32) (a3 : Nat) (a4 : Int32) (a5 : Int32) (κ : zS) : Prop :=
  ∃ I : Nat → Nat → Int32 → Int32 → Nat → Int32 → Int32 → zS → Prop, (∃ n, I n a0 a1 a2 a3 a4 a5 κ) ∧ ∀ n a0 a1 a2 a3 a4 a5 κ, zW C n0 κ → zT κ a0 = 13 → isTx C a3 → I n a0 a1 a2 a3 a4 a5 κ →
    (a2 ≤ a5 →
      Q (1 : Int32) κ) ∧
    (¬ a2 ≤ a5 →
      ∀ _ : isTx C a3,
      zRun C 9 mSt_length [.ref a3] κ (oI (fun r2 κ1 =>
        ∀ _ : zW C n0 κ1,
        ∀ _ : zM (zn κ) κ κ1,
        (r2 ≤ (a4 + a5) →
          Q (0 : Int32) κ1) ∧
        (¬ r2 ≤ (a4 + a5) →
          ∀ _ : zT κ1 a0 = 13,
          zRun C 0 mTa_byteAt [.ref a0, .int (a1 + a5)] κ1 (oI (fun r5 κ4 =>
            ∀ _ : zW C n0 κ4,
            ∀ _ : zM (zn κ1) κ1 κ4,
            ∀ _ : isTx C a3,
            zRun C 9 mSt_charAt [.ref a3, .int (a4 + a5)] κ4 (oI (fun r9 κ8 =>
              ∀ _ : zW C n0 κ8,
              ∀ _ : zM (zn κ4) κ4 κ8,
              (r5 = r9 →
                ∀ v5_11 : Int32, v5_11 = a5 + (1 : Int32) →
                ∃ k < n, I k a0 a1 a2 a3 a4 v5_11 κ8) ∧
              (¬ r5 = r9 →
                Q (0 : Int32) κ8)) noX)) noX))) noX))
theorem t_Ta_reads_3 {C : zC} {n0 : Nat} {Q : Int32 → zS → Prop}   {a0 : Nat} {a1 : Int32} {a2 : Int32} {a3 : Nat} {a4 : Int32} {a5 : Int32} {κ : zS} (W : zW C n0 κ) (Ta0 : zT κ a0 = 13) (Ta3 : isTx C a3) (F : w_Ta_reads_3 C n0 Q  a0 a1 a2 a3 a4 a5 κ) : zG C n0 10 mTa_reads 3 [some (.ref a0), some (.int a1), some (.int a2), some (.ref a3), some (.int a4), some (.int a5)] [] κ (oI Q noX) := by
  obtain ⟨I, ⟨m0, hI0⟩, F0⟩ := F
  have key : ∀ n a0 a1 a2 a3 a4 a5 κ, zW C n0 κ → zT κ a0 = 13 → isTx C a3 → I n a0 a1 a2 a3 a4 a5 κ → zG C n0 10 mTa_reads 3 [some (.ref a0), some (.int a1), some (.int a2), some (.ref a3), some (.int a4), some (.int a5)] [] κ (oI Q noX) := by
    intro n
    induction n using Nat.strongRecOn with
    | _ n ih =>
      intro a0 a1 a2 a3 a4 a5 κ W Ta0 Ta3 hI
      have F := F0 n a0 a1 a2 a3 a4 a5 κ W Ta0 Ta3 hI
      clear hI hI0
      refine y_il dX10_reads_3 rfl ?_
      refine y_iln dX10_reads_5 rfl ?_
      refine y_ii (a2 ≤ a5) dX10_reads_6 (t := 49) rfl rfl (fun c9 => ?_) (fun c9 => ?_)
      · replace F := F.1 c9
        refine y_ic dX10_reads_49 zi_1 ?_
        exact y_ri W dX10_reads_50 rfl (nb_nar nb_1) F
      · replace F := F.2 c9
        refine y_il dX10_reads_9 rfl ?_
        refine y_il dX10_reads_11 rfl ?_
        refine y_iadd dX10_reads_13 ?_
        refine y_aln dX10_reads_14 rfl ?_
        replace F := F Ta3
        refine k_X10_78 W dX10_reads_15 rfl (Nat.le_of_ble_eq_true rfl) (Nat.le_of_ble_eq_true rfl) Ta3 F (fun r2 κ1 Wκ1 Mκ1 F => ?_) (fun _ _ h9 => False.elim h9)
        replace F := F Wκ1 Mκ1
        refine y_ii (r2 ≤ (a4 + a5)) dX10_reads_18 (t := 41) rfl rfl (fun c9 => ?_) (fun c9 => ?_)
        · replace F := F.1 c9
          refine y_ic dX10_reads_41 zi_0 ?_
          exact y_ri Wκ1 dX10_reads_42 rfl (nb_nar nb_0) F
        · replace F := F.2 c9
          refine y_aln dX10_reads_21 rfl ?_
          refine y_iln dX10_reads_22 rfl ?_
          refine y_il dX10_reads_23 rfl ?_
          refine y_iadd dX10_reads_25 ?_
          have h6 := (ztm W Mκ1 Ta0)
          replace F := F h6
          refine k_X10_56 Wκ1 dX10_reads_26 rfl (Nat.le_of_ble_eq_true rfl) (Nat.le_of_ble_eq_true rfl) (Or.inl h6) F (fun r5 κ4 Wκ4 Mκ4 F => ?_) (fun _ _ h9 => False.elim h9)
          replace F := F Wκ4 Mκ4
          refine y_aln dX10_reads_29 rfl ?_
          refine y_il dX10_reads_30 rfl ?_
          refine y_il dX10_reads_32 rfl ?_
          refine y_iadd dX10_reads_34 ?_
          replace F := F Ta3
          refine k_X10_81 Wκ4 dX10_reads_35 rfl (Nat.le_of_ble_eq_true rfl) (Nat.le_of_ble_eq_true rfl) Ta3 F (fun r9 κ8 Wκ8 Mκ8 F => ?_) (fun _ _ h9 => False.elim h9)
          replace F := F Wκ8 Mκ8
          refine y_ii (r5 = r9) dX10_reads_38 (t := 43) rfl rfl (fun c9 => ?_) (fun c9 => ?_)
          · replace F := F.1 c9
            refine y_incb dX10_reads_43 zi_1 rfl (Nat.le_of_ble_eq_true rfl) (fun v5_11 ev5_11 => ?_)
            replace F := F v5_11 ev5_11
            show zG _ _ _ _ _ [some (.ref a0), some (.int a1), some (.int a2), some (.ref a3), some (.int a4), some (.int v5_11)] _ _ _
            refine y_goto dX10_reads_46 (t := 3) rfl ?_
            have h12 := (ztm Wκ4 Mκ8 (ztm Wκ1 Mκ4 h6))
            obtain ⟨k, hk, hI⟩ := F
            exact y_k (ih k hk _ _ _ _ _ _ _ Wκ8 h12 Ta3 hI) ⟨rfl, rfl, rfl, rfl, rfl, rfl, trivial⟩
          · replace F := F.2 c9
            refine y_ic dX10_reads_41 zi_0 ?_
            exact y_ri Wκ8 dX10_reads_42 rfl (nb_nar nb_0) F
  exact key m0 a0 a1 a2 a3 a4 a5 κ W Ta0 Ta3 hI0

def w_Ta_reads_0 (C : zC) (n0 : Nat) (Q : Int32 → zS → Prop)  (a0 : Nat) (a1 : Int32) (a2 : Int32) (a3 : Nat) (a4 : Int32) (κ : zS) : Prop :=
  w_Ta_reads_3 C n0 Q  a0 a1 a2 a3 a4 (0 : Int32) κ
theorem t_Ta_reads_0 {C : zC} {n0 : Nat} {Q : Int32 → zS → Prop}   {a0 : Nat} {a1 : Int32} {a2 : Int32} {a3 : Nat} {a4 : Int32} {κ : zS} (W : zW C n0 κ) (Ta0 : zT κ a0 = 13) (Ta3 : isTx C a3) (F : w_Ta_reads_0 C n0 Q  a0 a1 a2 a3 a4 κ) : zG C n0 10 mTa_reads 0 [some (.ref a0), some (.int a1), some (.int a2), some (.ref a3), some (.int a4), none] [] κ (oI Q noX) := by
  unfold w_Ta_reads_0 at F
  refine y_ic dX10_reads_0 zi_0 ?_
  refine y_is dX10_reads_1 (Nat.le_of_ble_eq_true rfl) rfl ?_
  show zG _ _ _ _ _ [some (.ref a0), some (.int a1), some (.int a2), some (.ref a3), some (.int a4), some (.int (0 : Int32))] _ _ _
  exact y_k (t_Ta_reads_3  W Ta0 Ta3 F) ⟨rfl, rfl, rfl, rfl, rfl, rfl, trivial⟩

theorem Ta_reads_run {C : zC} {n0 : Nat} {Q : Int32 → zS → Prop} {a0 : Nat} {a1 : Int32} {a2 : Int32} {a3 : Nat} {a4 : Int32} {κ : zS} (W : zW C n0 κ) (Ta0 : zT κ a0 = 13) (Ta3 : isTx C a3) (F : w_Ta_reads_0 C (zn κ) Q a0 a1 a2 a3 a4 κ) : zRun C 10 mTa_reads [.ref a0, .int a1, .int a2, .ref a3, .int a4] κ (oI Q noX) := z_run (m_ent _ 1) (t_Ta_reads_0 (W.lo (Nat.le_trans W.1.2.1 W.1.2.2) (Nat.le_refl _)) Ta0 Ta3 F)

