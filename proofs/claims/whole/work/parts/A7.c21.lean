/-! methods of the class: Ch_note, Ch_perform, Ch_play, Ch_walk, Ch_played, Ch_independent, Ch_given -/
theorem dX12_note_0 : decode cX12_note 0 = .ok (.aload_n 0, 1) := by decide +kernel
theorem dX12_note_1 : decode cX12_note 1 = .ok (.getfield 40, 3) := by decide +kernel
theorem dX12_note_4 : decode cX12_note 4 = .ok (.getfield 345, 3) := by decide +kernel
theorem dX12_note_7 : decode cX12_note 7 = .ok (.istore 5, 2) := by decide +kernel
theorem dX12_note_9 : decode cX12_note 9 = .ok (.aload_n 0, 1) := by decide +kernel
theorem dX12_note_10 : decode cX12_note 10 = .ok (.getfield 87, 3) := by decide +kernel
theorem dX12_note_13 : decode cX12_note 13 = .ok (.iconst 0, 1) := by decide +kernel
theorem dX12_note_14 : decode cX12_note 14 = .ok (.iload 5, 2) := by decide +kernel
theorem dX12_note_16 : decode cX12_note 16 = .ok (.i2l, 1) := by decide +kernel
theorem dX12_note_17 : decode cX12_note 17 = .ok (.lastore, 1) := by decide +kernel
theorem dX12_note_18 : decode cX12_note 18 = .ok (.aload_n 0, 1) := by decide +kernel
theorem dX12_note_19 : decode cX12_note 19 = .ok (.getfield 87, 3) := by decide +kernel
theorem dX12_note_22 : decode cX12_note 22 = .ok (.iconst 1, 1) := by decide +kernel
theorem dX12_note_23 : decode cX12_note 23 = .ok (.iload 5, 2) := by decide +kernel
theorem dX12_note_25 : decode cX12_note 25 = .ok (.iconst 1, 1) := by decide +kernel
theorem dX12_note_26 : decode cX12_note 26 = .ok (.if_icmp .ne 14, 3) := by decide +kernel
theorem dX12_note_29 : decode cX12_note 29 = .ok (.aload_n 0, 1) := by decide +kernel
theorem dX12_note_30 : decode cX12_note 30 = .ok (.getfield 40, 3) := by decide +kernel
theorem dX12_note_33 : decode cX12_note 33 = .ok (.getfield 395, 3) := by decide +kernel
theorem dX12_note_36 : decode cX12_note 36 = .ok (.i2l, 1) := by decide +kernel
theorem dX12_note_37 : decode cX12_note 37 = .ok (.goto 21, 3) := by decide +kernel
theorem dX12_note_40 : decode cX12_note 40 = .ok (.iload 5, 2) := by decide +kernel
theorem dX12_note_42 : decode cX12_note 42 = .ok (.iconst 2, 1) := by decide +kernel
theorem dX12_note_43 : decode cX12_note 43 = .ok (.if_icmp .ne 14, 3) := by decide +kernel
theorem dX12_note_46 : decode cX12_note 46 = .ok (.aload_n 0, 1) := by decide +kernel
theorem dX12_note_47 : decode cX12_note 47 = .ok (.getfield 40, 3) := by decide +kernel
theorem dX12_note_50 : decode cX12_note 50 = .ok (.getfield 398, 3) := by decide +kernel
theorem dX12_note_53 : decode cX12_note 53 = .ok (.i2l, 1) := by decide +kernel
theorem dX12_note_54 : decode cX12_note 54 = .ok (.goto 4, 3) := by decide +kernel
theorem dX12_note_57 : decode cX12_note 57 = .ok (.lconst 0, 1) := by decide +kernel
theorem dX12_note_58 : decode cX12_note 58 = .ok (.lastore, 1) := by decide +kernel
theorem dX12_note_59 : decode cX12_note 59 = .ok (.aload_n 0, 1) := by decide +kernel
theorem dX12_note_60 : decode cX12_note 60 = .ok (.getfield 87, 3) := by decide +kernel
theorem dX12_note_63 : decode cX12_note 63 = .ok (.iconst 2, 1) := by decide +kernel
theorem dX12_note_64 : decode cX12_note 64 = .ok (.iload_n 1, 1) := by decide +kernel
theorem dX12_note_65 : decode cX12_note 65 = .ok (.i2l, 1) := by decide +kernel
theorem dX12_note_66 : decode cX12_note 66 = .ok (.lastore, 1) := by decide +kernel
theorem dX12_note_67 : decode cX12_note 67 = .ok (.aload_n 0, 1) := by decide +kernel
theorem dX12_note_68 : decode cX12_note 68 = .ok (.getfield 87, 3) := by decide +kernel
theorem dX12_note_71 : decode cX12_note 71 = .ok (.iconst 3, 1) := by decide +kernel
theorem dX12_note_72 : decode cX12_note 72 = .ok (.iload_n 2, 1) := by decide +kernel
theorem dX12_note_73 : decode cX12_note 73 = .ok (.i2l, 1) := by decide +kernel
theorem dX12_note_74 : decode cX12_note 74 = .ok (.lastore, 1) := by decide +kernel
theorem dX12_note_75 : decode cX12_note 75 = .ok (.aload_n 0, 1) := by decide +kernel
theorem dX12_note_76 : decode cX12_note 76 = .ok (.getfield 87, 3) := by decide +kernel
theorem dX12_note_79 : decode cX12_note 79 = .ok (.iconst 4, 1) := by decide +kernel
theorem dX12_note_80 : decode cX12_note 80 = .ok (.lload_n 3, 1) := by decide +kernel
theorem dX12_note_81 : decode cX12_note 81 = .ok (.lastore, 1) := by decide +kernel
theorem dX12_note_82 : decode cX12_note 82 = .ok (.aload_n 0, 1) := by decide +kernel
theorem dX12_note_83 : decode cX12_note 83 = .ok (.getfield 40, 3) := by decide +kernel
theorem dX12_note_86 : decode cX12_note 86 = .ok (.getfield 401, 3) := by decide +kernel
theorem dX12_note_89 : decode cX12_note 89 = .ok (.iconst 0, 1) := by decide +kernel
theorem dX12_note_90 : decode cX12_note 90 = .ok (.aload_n 0, 1) := by decide +kernel
theorem dX12_note_91 : decode cX12_note 91 = .ok (.getfield 91, 3) := by decide +kernel
theorem dX12_note_94 : decode cX12_note 94 = .ok (.iconst 0, 1) := by decide +kernel
theorem dX12_note_95 : decode cX12_note 95 = .ok (.aload_n 0, 1) := by decide +kernel
theorem dX12_note_96 : decode cX12_note 96 = .ok (.getfield 19, 3) := by decide +kernel
theorem dX12_note_99 : decode cX12_note 99 = .ok (.invokevirtual 226, 3) := by decide +kernel
theorem dX12_note_102 : decode cX12_note 102 = .ok (.bipush 34, 2) := by decide +kernel
theorem dX12_note_104 : decode cX12_note 104 = .ok (.invokestatic 404, 3) := by decide +kernel
theorem dX12_note_107 : decode cX12_note 107 = .ok (.invokestatic 409, 3) := by decide +kernel
theorem dX12_note_110 : decode cX12_note 110 = .ok (.aload_n 0, 1) := by decide +kernel
theorem dX12_note_111 : decode cX12_note 111 = .ok (.iconst 1, 1) := by decide +kernel
theorem dX12_note_112 : decode cX12_note 112 = .ok (.putfield 148, 3) := by decide +kernel
theorem dX12_note_115 : decode cX12_note 115 = .ok (.return_, 1) := by decide +kernel
def w_Ch_note_58 (C : zC) (n0 : Nat) (Q : zS → Prop)  (a0 : Nat) (a1 : Int32) (a2 : Int32) (a3 : Int64) (s0 : Nat) (s1 : Int32) (s2 : Int64) (κ : zS) : Prop :=
  inb s1 (zN κ s0) ∧
  ∀ κ1, κ1 = uj κ s0 (s1).toNatClampNeg s2 →
  ∀ _ : zW C n0 κ1,
  inb (2 : Int32) (zN κ1 (zR κ1 chRecord a0)) ∧
  ∀ κ3, κ3 = uj κ1 (zR κ1 chRecord a0) ((2 : Int32)).toNatClampNeg (Int32.toInt64 a1) →
  ∀ _ : zW C n0 κ3,
  inb (3 : Int32) (zN κ3 (zR κ3 chRecord a0)) ∧
  ∀ κ5, κ5 = uj κ3 (zR κ3 chRecord a0) ((3 : Int32)).toNatClampNeg (Int32.toInt64 a2) →
  ∀ _ : zW C n0 κ5,
  inb (4 : Int32) (zN κ5 (zR κ5 chRecord a0)) ∧
  ∀ κ7, κ7 = uj κ5 (zR κ5 chRecord a0) ((4 : Int32)).toNatClampNeg a3 →
  ∀ _ : zW C n0 κ7,
  ∀ _ : zT κ7 (zR κ7 chCode a0) = 5,
  zRun C 0 mCo_shared [.ref (zR κ7 chCode a0)] κ7 (oI (fun r10 κ9 =>
    ∀ _ : zW C n0 κ9,
    ∀ _ : zM (zn κ7) κ7 κ9,
    cpo κ9 (zR κ7 maMemory (zR κ7 chMachine a0)) (zR κ7 chLastShared a0) (0 : Int32) (0 : Int32) (if (34 : Int32) < r10 then (34 : Int32) else r10) ∧
    ∀ κ12, κ12 = uc κ9 (zR κ7 maMemory (zR κ7 chMachine a0)) (zR κ7 chLastShared a0) ((0 : Int32)).toNatClampNeg ((0 : Int32)).toNatClampNeg ((if (34 : Int32) < r10 then (34 : Int32) else r10)).toNatClampNeg →
    ∀ _ : zW C n0 κ12,
    ∀ κ15, κ15 = ui κ12 chPlayMade a0 (1 : Int32) →
    ∀ _ : zW C n0 κ15,
    Q κ15) noX)
theorem t_Ch_note_58 {C : zC} {n0 : Nat} {Q : zS → Prop}   {a0 : Nat} {a1 : Int32} {a2 : Int32} {a3 : Int64} {s0 : Nat} {s1 : Int32} {s2 : Int64} {κ : zS} (W : zW C n0 κ) (Ta0 : zT κ a0 = 15) (Ts0 : zT κ s0 = 22) (F : w_Ch_note_58 C n0 Q  a0 a1 a2 a3 s0 s1 s2 κ) : zG C n0 1 mCh_note 58 [some (.ref a0), some (.int a1), some (.int a2), some (.long a3), none, none] [.long s2, .int s1, .ref s0] κ (oV Q noX) := by
  unfold w_Ch_note_58 at F
  refine y_lst W dX12_note_58 Ts0 F.1 (fun κ1 eκ1 => ?_)
  replace F := F.2 κ1 eκ1
  have Wκ1 : zW C n0 κ1 := zW_uj W eκ1
  have Mκ1 : zM (zn κ) κ κ1 := by rw [eκ1]; exact zM.of rfl rfl rfl
  replace F := F Wκ1
  refine y_aln dX12_note_59 rfl ?_
  have h2 := (ztm W Mκ1 Ta0)
  refine gf_X12_87 Wκ1 dX12_note_60 rfl h2 ?_
  refine y_ic dX12_note_63 zi_2 ?_
  refine y_iln dX12_note_64 rfl ?_
  refine y_i2l dX12_note_65 ?_
  refine y_lst Wκ1 dX12_note_66 (ty_chRecord Wκ1 h2) F.1 (fun κ3 eκ3 => ?_)
  replace F := F.2 κ3 eκ3
  have Wκ3 : zW C n0 κ3 := zW_uj Wκ1 eκ3
  have Mκ3 : zM (zn κ1) κ1 κ3 := by rw [eκ3]; exact zM.of rfl rfl rfl
  replace F := F Wκ3
  refine y_aln dX12_note_67 rfl ?_
  have h4 := (ztm Wκ1 Mκ3 h2)
  refine gf_X12_87 Wκ3 dX12_note_68 rfl h4 ?_
  refine y_ic dX12_note_71 zi_3 ?_
  refine y_iln dX12_note_72 rfl ?_
  refine y_i2l dX12_note_73 ?_
  refine y_lst Wκ3 dX12_note_74 (ty_chRecord Wκ3 h4) F.1 (fun κ5 eκ5 => ?_)
  replace F := F.2 κ5 eκ5
  have Wκ5 : zW C n0 κ5 := zW_uj Wκ3 eκ5
  have Mκ5 : zM (zn κ3) κ3 κ5 := by rw [eκ5]; exact zM.of rfl rfl rfl
  replace F := F Wκ5
  refine y_aln dX12_note_75 rfl ?_
  have h6 := (ztm Wκ3 Mκ5 h4)
  refine gf_X12_87 Wκ5 dX12_note_76 rfl h6 ?_
  refine y_ic dX12_note_79 zi_4 ?_
  refine y_lln dX12_note_80 rfl ?_
  refine y_lst Wκ5 dX12_note_81 (ty_chRecord Wκ5 h6) F.1 (fun κ7 eκ7 => ?_)
  replace F := F.2 κ7 eκ7
  have Wκ7 : zW C n0 κ7 := zW_uj Wκ5 eκ7
  have Mκ7 : zM (zn κ5) κ5 κ7 := by rw [eκ7]; exact zM.of rfl rfl rfl
  replace F := F Wκ7
  refine y_aln dX12_note_82 rfl ?_
  have h8 := (ztm Wκ5 Mκ7 h6)
  refine gf_X12_40 Wκ7 dX12_note_83 rfl h8 ?_
  refine gf_X12_401 Wκ7 dX12_note_86 rfl (ty_chMachine Wκ7 h8) ?_
  refine y_ic dX12_note_89 zi_0 ?_
  refine y_aln dX12_note_90 rfl ?_
  refine gf_X12_91 Wκ7 dX12_note_91 rfl h8 ?_
  refine y_ic dX12_note_94 zi_0 ?_
  refine y_aln dX12_note_95 rfl ?_
  refine gf_X12_19 Wκ7 dX12_note_96 rfl h8 ?_
  replace F := F (ty_chCode Wκ7 h8)
  refine k_X12_226 Wκ7 dX12_note_99 rfl (Nat.le_of_ble_eq_true rfl) (Nat.le_of_ble_eq_true rfl) (Or.inl (ty_chCode Wκ7 h8)) F (fun r10 κ9 Wκ9 Mκ9 F => ?_) (fun _ _ h9 => False.elim h9)
  replace F := F Wκ9 Mκ9
  refine y_bi1 dX12_note_102 zb_34 ?_
  refine y_min dX12_note_104 rfl zbi_X12_404 (Nat.le_of_ble_eq_true rfl) (Nat.le_of_ble_eq_true rfl) ?_
  have h13 := (ztm Wκ7 Mκ9 (ty_maMemory Wκ7 (ty_chMachine Wκ7 h8)))
  have h14 := (ztm Wκ7 Mκ9 (ty_chLastShared Wκ7 h8))
  refine y_cpy (t := 0) Wκ9 dX12_note_107 rfl zbi_X12_409 h13 h14 (by decide) (Nat.le_of_ble_eq_true rfl) (Nat.le_of_ble_eq_true rfl) F.1 (fun κ12 eκ12 => ?_)
  replace F := F.2 κ12 eκ12
  have Wκ12 : zW C n0 κ12 := zW_uc Wκ9 eκ12 (h13.trans h14.symm)
  have Mκ12 : zM (zn κ9) κ9 κ12 := by rw [eκ12]; exact zM.of rfl rfl rfl
  replace F := F Wκ12
  refine y_aln dX12_note_110 rfl ?_
  refine y_ic dX12_note_111 zi_1 ?_
  have h16 := (ztm Wκ9 Mκ12 (ztm Wκ7 Mκ9 h8))
  refine pf_X12_148 Wκ12 dX12_note_112 rfl (nb_nar nb_1) (Or.inl h16) (fun κ15 eκ15 => ?_)
  replace F := F κ15 eκ15
  have Wκ15 : zW C n0 κ15 := zW_ui Wκ12 eκ15 (fun _ => nb_1)
  have Mκ15 : zM (zn κ12) κ12 κ15 := by rw [eκ15]; exact zM.of rfl rfl rfl
  replace F := F Wκ15
  exact y_rv Wκ15 dX12_note_115 rfl F

def w_Ch_note_0 (C : zC) (n0 : Nat) (Q : zS → Prop)  (a0 : Nat) (a1 : Int32) (a2 : Int32) (a3 : Int64) (κ : zS) : Prop :=
  ∀ v5_1 : Int32, v5_1 = (zI κ maOutcome (zR κ chMachine a0)) →
  inb (0 : Int32) (zN κ (zR κ chRecord a0)) ∧
  ∀ κ2, κ2 = uj κ (zR κ chRecord a0) ((0 : Int32)).toNatClampNeg (Int32.toInt64 v5_1) →
  ∀ _ : zW C n0 κ2,
  (¬ v5_1 = (1 : Int32) →
    (¬ v5_1 = (2 : Int32) →
      w_Ch_note_58 C n0 Q  a0 a1 a2 a3 (zR κ2 chRecord a0) (1 : Int32) (0 : Int64) κ2) ∧
    (v5_1 = (2 : Int32) →
      w_Ch_note_58 C n0 Q  a0 a1 a2 a3 (zR κ2 chRecord a0) (1 : Int32) (Int32.toInt64 (zI κ2 maFailure (zR κ2 chMachine a0))) κ2)) ∧
  (v5_1 = (1 : Int32) →
    w_Ch_note_58 C n0 Q  a0 a1 a2 a3 (zR κ2 chRecord a0) (1 : Int32) (Int32.toInt64 (zI κ2 maNumber (zR κ2 chMachine a0))) κ2)
theorem t_Ch_note_0 {C : zC} {n0 : Nat} {Q : zS → Prop}   {a0 : Nat} {a1 : Int32} {a2 : Int32} {a3 : Int64} {κ : zS} (W : zW C n0 κ) (Ta0 : zT κ a0 = 15) (F : w_Ch_note_0 C n0 Q  a0 a1 a2 a3 κ) : zG C n0 1 mCh_note 0 [some (.ref a0), some (.int a1), some (.int a2), some (.long a3), none, none] [] κ (oV Q noX) := by
  unfold w_Ch_note_0 at F
  refine y_aln dX12_note_0 rfl ?_
  refine gf_X12_40 W dX12_note_1 rfl Ta0 ?_
  refine gf_X12_345 dX12_note_4 rfl (Or.inl (ty_chMachine W Ta0)) ?_
  refine y_isb dX12_note_7 (Nat.le_of_ble_eq_true rfl) (fun v5_1 ev5_1 => ?_)
  replace F := F v5_1 ev5_1
  show zG _ _ _ _ _ [some (.ref a0), some (.int a1), some (.int a2), some (.long a3), none, some (.int v5_1)] _ _ _
  refine y_aln dX12_note_9 rfl ?_
  refine gf_X12_87 W dX12_note_10 rfl Ta0 ?_
  refine y_ic dX12_note_13 zi_0 ?_
  refine y_il dX12_note_14 rfl ?_
  refine y_i2l dX12_note_16 ?_
  refine y_lst W dX12_note_17 (ty_chRecord W Ta0) F.1 (fun κ2 eκ2 => ?_)
  replace F := F.2 κ2 eκ2
  have Wκ2 : zW C n0 κ2 := zW_uj W eκ2
  have Mκ2 : zM (zn κ) κ κ2 := by rw [eκ2]; exact zM.of rfl rfl rfl
  replace F := F Wκ2
  refine y_aln dX12_note_18 rfl ?_
  have h3 := (ztm W Mκ2 Ta0)
  refine gf_X12_87 Wκ2 dX12_note_19 rfl h3 ?_
  refine y_ic dX12_note_22 zi_1 ?_
  refine y_il dX12_note_23 rfl ?_
  refine y_ic dX12_note_25 zi_1 ?_
  refine y_iin (v5_1 = (1 : Int32)) dX12_note_26 (t := 40) rfl rfl (fun c9 => ?_) (fun c9 => ?_)
  · replace F := F.1 c9
    refine y_il dX12_note_40 rfl ?_
    refine y_ic dX12_note_42 zi_2 ?_
    refine y_iin (v5_1 = (2 : Int32)) dX12_note_43 (t := 57) rfl rfl (fun c9 => ?_) (fun c9 => ?_)
    · replace F := F.1 c9
      refine y_lc dX12_note_57 zl_0 ?_
      exact y_k (t_Ch_note_58  Wκ2 h3 (ty_chRecord Wκ2 h3) F) ⟨rfl, rfl, rfl, rfl, trivial⟩
    · replace F := F.2 c9
      refine y_aln dX12_note_46 rfl ?_
      refine gf_X12_40 Wκ2 dX12_note_47 rfl h3 ?_
      refine gf_X12_398 dX12_note_50 rfl (Or.inl (ty_chMachine Wκ2 h3)) ?_
      refine y_i2l dX12_note_53 ?_
      refine y_goto dX12_note_54 (t := 58) rfl ?_
      exact y_k (t_Ch_note_58  Wκ2 h3 (ty_chRecord Wκ2 h3) F) ⟨rfl, rfl, rfl, rfl, trivial⟩
  · replace F := F.2 c9
    refine y_aln dX12_note_29 rfl ?_
    refine gf_X12_40 Wκ2 dX12_note_30 rfl h3 ?_
    refine gf_X12_395 dX12_note_33 rfl (Or.inl (ty_chMachine Wκ2 h3)) ?_
    refine y_i2l dX12_note_36 ?_
    refine y_goto dX12_note_37 (t := 58) rfl ?_
    exact y_k (t_Ch_note_58  Wκ2 h3 (ty_chRecord Wκ2 h3) F) ⟨rfl, rfl, rfl, rfl, trivial⟩

theorem Ch_note_run {C : zC} {n0 : Nat} {Q : zS → Prop} {a0 : Nat} {a1 : Int32} {a2 : Int32} {a3 : Int64} {κ : zS} (W : zW C n0 κ) (Ta0 : zT κ a0 = 15) (F : w_Ch_note_0 C (zn κ) Q a0 a1 a2 a3 κ) : zRun C 1 mCh_note [.ref a0, .int a1, .int a2, .long a3] κ (oV Q noX) := z_run (m_ent _ 1) (t_Ch_note_0 (W.lo (Nat.le_trans W.1.2.1 W.1.2.2) (Nat.le_refl _)) Ta0 F)

theorem dX12_perform_0 : decode cX12_perform 0 = .ok (.aload_n 0, 1) := by decide +kernel
theorem dX12_perform_1 : decode cX12_perform 1 = .ok (.getfield 40, 3) := by decide +kernel
theorem dX12_perform_4 : decode cX12_perform 4 = .ok (.aload_n 0, 1) := by decide +kernel
theorem dX12_perform_5 : decode cX12_perform 5 = .ok (.getfield 19, 3) := by decide +kernel
theorem dX12_perform_8 : decode cX12_perform 8 = .ok (.invokevirtual 342, 3) := by decide +kernel
theorem dX12_perform_11 : decode cX12_perform 11 = .ok (.lload_n 2, 1) := by decide +kernel
theorem dX12_perform_12 : decode cX12_perform 12 = .ok (.lstore 5, 2) := by decide +kernel
theorem dX12_perform_14 : decode cX12_perform 14 = .ok (.iconst 0, 1) := by decide +kernel
theorem dX12_perform_15 : decode cX12_perform 15 = .ok (.istore 7, 2) := by decide +kernel
theorem dX12_perform_17 : decode cX12_perform 17 = .ok (.iconst 0, 1) := by decide +kernel
theorem dX12_perform_18 : decode cX12_perform 18 = .ok (.istore 8, 2) := by decide +kernel
theorem dX12_perform_20 : decode cX12_perform 20 = .ok (.lconst 0, 1) := by decide +kernel
theorem dX12_perform_21 : decode cX12_perform 21 = .ok (.lstore 9, 2) := by decide +kernel
theorem dX12_perform_23 : decode cX12_perform 23 = .ok (.iconst 0, 1) := by decide +kernel
theorem dX12_perform_24 : decode cX12_perform 24 = .ok (.istore 11, 2) := by decide +kernel
theorem dX12_perform_26 : decode cX12_perform 26 = .ok (.iload 11, 2) := by decide +kernel
theorem dX12_perform_28 : decode cX12_perform 28 = .ok (.iload 4, 2) := by decide +kernel
theorem dX12_perform_30 : decode cX12_perform 30 = .ok (.if_icmp .ge 150, 3) := by decide +kernel
theorem dX12_perform_33 : decode cX12_perform 33 = .ok (.aload_n 0, 1) := by decide +kernel
theorem dX12_perform_34 : decode cX12_perform 34 = .ok (.getfield 40, 3) := by decide +kernel
theorem dX12_perform_37 : decode cX12_perform 37 = .ok (.getfield 345, 3) := by decide +kernel
theorem dX12_perform_40 : decode cX12_perform 40 = .ok (.ifCond .ne 140, 3) := by decide +kernel
theorem dX12_perform_43 : decode cX12_perform 43 = .ok (.aload_n 0, 1) := by decide +kernel
theorem dX12_perform_44 : decode cX12_perform 44 = .ok (.getfield 40, 3) := by decide +kernel
theorem dX12_perform_47 : decode cX12_perform 47 = .ok (.invokevirtual 348, 3) := by decide +kernel
theorem dX12_perform_50 : decode cX12_perform 50 = .ok (.aload_n 0, 1) := by decide +kernel
theorem dX12_perform_51 : decode cX12_perform 51 = .ok (.getfield 40, 3) := by decide +kernel
theorem dX12_perform_54 : decode cX12_perform 54 = .ok (.getfield 351, 3) := by decide +kernel
theorem dX12_perform_57 : decode cX12_perform 57 = .ok (.iconst 4, 1) := by decide +kernel
theorem dX12_perform_58 : decode cX12_perform 58 = .ok (.if_icmp .ne 24, 3) := by decide +kernel
theorem dX12_perform_61 : decode cX12_perform 61 = .ok (.aload_n 0, 1) := by decide +kernel
theorem dX12_perform_62 : decode cX12_perform 62 = .ok (.getfield 40, 3) := by decide +kernel
theorem dX12_perform_65 : decode cX12_perform 65 = .ok (.aload_n 0, 1) := by decide +kernel
theorem dX12_perform_66 : decode cX12_perform 66 = .ok (.getfield 49, 3) := by decide +kernel
theorem dX12_perform_69 : decode cX12_perform 69 = .ok (.aload_n 0, 1) := by decide +kernel
theorem dX12_perform_70 : decode cX12_perform 70 = .ok (.getfield 40, 3) := by decide +kernel
theorem dX12_perform_73 : decode cX12_perform 73 = .ok (.invokevirtual 354, 3) := by decide +kernel
theorem dX12_perform_76 : decode cX12_perform 76 = .ok (.invokevirtual 358, 3) := by decide +kernel
theorem dX12_perform_79 : decode cX12_perform 79 = .ok (.goto 79, 3) := by decide +kernel
theorem dX12_perform_82 : decode cX12_perform 82 = .ok (.aload_n 0, 1) := by decide +kernel
theorem dX12_perform_83 : decode cX12_perform 83 = .ok (.getfield 40, 3) := by decide +kernel
theorem dX12_perform_86 : decode cX12_perform 86 = .ok (.getfield 351, 3) := by decide +kernel
theorem dX12_perform_89 : decode cX12_perform 89 = .ok (.iconst 3, 1) := by decide +kernel
theorem dX12_perform_90 : decode cX12_perform 90 = .ok (.if_icmp .ne 68, 3) := by decide +kernel
theorem dX12_perform_93 : decode cX12_perform 93 = .ok (.iload_n 1, 1) := by decide +kernel
theorem dX12_perform_94 : decode cX12_perform 94 = .ok (.ifCond .eq 15, 3) := by decide +kernel
theorem dX12_perform_97 : decode cX12_perform 97 = .ok (.iload 8, 2) := by decide +kernel
theorem dX12_perform_99 : decode cX12_perform 99 = .ok (.aload_n 0, 1) := by decide +kernel
theorem dX12_perform_100 : decode cX12_perform 100 = .ok (.getfield 305, 3) := by decide +kernel
theorem dX12_perform_103 : decode cX12_perform 103 = .ok (.if_icmp .lt 6, 3) := by decide +kernel
theorem dX12_perform_106 : decode cX12_perform 106 = .ok (.goto 74, 3) := by decide +kernel
theorem dX12_perform_109 : decode cX12_perform 109 = .ok (.lload 5, 2) := by decide +kernel
theorem dX12_perform_111 : decode cX12_perform 111 = .ok (.ldc2_w 361, 3) := by decide +kernel
theorem dX12_perform_114 : decode cX12_perform 114 = .ok (.lmul, 1) := by decide +kernel
theorem dX12_perform_115 : decode cX12_perform 115 = .ok (.ldc2_w 363, 3) := by decide +kernel
theorem dX12_perform_118 : decode cX12_perform 118 = .ok (.ladd, 1) := by decide +kernel
theorem dX12_perform_119 : decode cX12_perform 119 = .ok (.lstore 5, 2) := by decide +kernel
theorem dX12_perform_121 : decode cX12_perform 121 = .ok (.iload 8, 2) := by decide +kernel
theorem dX12_perform_123 : decode cX12_perform 123 = .ok (.aload_n 0, 1) := by decide +kernel
theorem dX12_perform_124 : decode cX12_perform 124 = .ok (.iload_n 1, 1) := by decide +kernel
theorem dX12_perform_125 : decode cX12_perform 125 = .ok (.ifCond .eq 13, 3) := by decide +kernel
theorem dX12_perform_128 : decode cX12_perform 128 = .ok (.aload_n 0, 1) := by decide +kernel
theorem dX12_perform_129 : decode cX12_perform 129 = .ok (.getfield 83, 3) := by decide +kernel
theorem dX12_perform_132 : decode cX12_perform 132 = .ok (.iload 8, 2) := by decide +kernel
theorem dX12_perform_134 : decode cX12_perform 134 = .ok (.iaload, 1) := by decide +kernel
theorem dX12_perform_135 : decode cX12_perform 135 = .ok (.goto 15, 3) := by decide +kernel
theorem dX12_perform_138 : decode cX12_perform 138 = .ok (.aload_n 0, 1) := by decide +kernel
theorem dX12_perform_139 : decode cX12_perform 139 = .ok (.getfield 40, 3) := by decide +kernel
theorem dX12_perform_142 : decode cX12_perform 142 = .ok (.lload 5, 2) := by decide +kernel
theorem dX12_perform_144 : decode cX12_perform 144 = .ok (.bipush 33, 2) := by decide +kernel
theorem dX12_perform_146 : decode cX12_perform 146 = .ok (.lushr, 1) := by decide +kernel
theorem dX12_perform_147 : decode cX12_perform 147 = .ok (.invokevirtual 365, 3) := by decide +kernel
theorem dX12_perform_150 : decode cX12_perform 150 = .ok (.iload 8, 2) := by decide +kernel
theorem dX12_perform_152 : decode cX12_perform 152 = .ok (.invokevirtual 369, 3) := by decide +kernel
theorem dX12_perform_155 : decode cX12_perform 155 = .ok (.iadd, 1) := by decide +kernel
theorem dX12_perform_156 : decode cX12_perform 156 = .ok (.istore 8, 2) := by decide +kernel
theorem dX12_perform_158 : decode cX12_perform 158 = .ok (.iinc 7 1, 3) := by decide +kernel
theorem dX12_perform_161 : decode cX12_perform 161 = .ok (.lload 9, 2) := by decide +kernel
theorem dX12_perform_163 : decode cX12_perform 163 = .ok (.aload_n 0, 1) := by decide +kernel
theorem dX12_perform_164 : decode cX12_perform 164 = .ok (.getfield 40, 3) := by decide +kernel
theorem dX12_perform_167 : decode cX12_perform 167 = .ok (.getfield 372, 3) := by decide +kernel
theorem dX12_perform_170 : decode cX12_perform 170 = .ok (.i2l, 1) := by decide +kernel
theorem dX12_perform_171 : decode cX12_perform 171 = .ok (.ladd, 1) := by decide +kernel
theorem dX12_perform_172 : decode cX12_perform 172 = .ok (.lstore 9, 2) := by decide +kernel
theorem dX12_perform_174 : decode cX12_perform 174 = .ok (.iinc 11 1, 3) := by decide +kernel
theorem dX12_perform_177 : decode cX12_perform 177 = .ok (.goto (-151), 3) := by decide +kernel
theorem dX12_perform_180 : decode cX12_perform 180 = .ok (.aload_n 0, 1) := by decide +kernel
theorem dX12_perform_181 : decode cX12_perform 181 = .ok (.iload 7, 2) := by decide +kernel
theorem dX12_perform_183 : decode cX12_perform 183 = .ok (.iload 8, 2) := by decide +kernel
theorem dX12_perform_185 : decode cX12_perform 185 = .ok (.lload 9, 2) := by decide +kernel
theorem dX12_perform_187 : decode cX12_perform 187 = .ok (.invokevirtual 375, 3) := by decide +kernel
theorem dX12_perform_190 : decode cX12_perform 190 = .ok (.aload_n 0, 1) := by decide +kernel
theorem dX12_perform_191 : decode cX12_perform 191 = .ok (.getfield 40, 3) := by decide +kernel
theorem dX12_perform_194 : decode cX12_perform 194 = .ok (.getfield 345, 3) := by decide +kernel
theorem dX12_perform_197 : decode cX12_perform 197 = .ok (.ireturn, 1) := by decide +kernel
def w_Ch_perform_158 (C : zC) (n0 : Nat) (Q : Int32 → zS → Prop) (B26 : Nat → Int32 → Int32 → Int64 → Int32 → Int32 → Int64 → Int32 → zS → Prop) (a0 : Nat) (a1 : Int32) (a4 : Int32) (a5 : Int64) (a7 : Int32) (a8 : Int32) (a9 : Int64) (a11 : Int32) (κ : zS) : Prop :=
  ∀ v7_1 : Int32, v7_1 = a7 + (1 : Int32) →
  ∀ v9_2 : Int64, v9_2 = (a9 + (Int32.toInt64 (zI κ maGained (zR κ chMachine a0)))) →
  ∀ v11_3 : Int32, v11_3 = a11 + (1 : Int32) →
  B26 a0 a1 a4 a5 v7_1 a8 v9_2 v11_3 κ
theorem t_Ch_perform_158 {C : zC} {n0 : Nat} {Q : Int32 → zS → Prop} {B26 : Nat → Int32 → Int32 → Int64 → Int32 → Int32 → Int64 → Int32 → zS → Prop} (hB26 : ∀ a0' a1' a4' a5' a7' a8' a9' a11' τ, zW C n0 τ → zT τ a0' = 15 → B26 a0' a1' a4' a5' a7' a8' a9' a11' τ → zG C n0 5 mCh_perform 26 [some (.ref a0'), some (.int a1'), none, none, some (.int a4'), some (.long a5'), none, some (.int a7'), some (.int a8'), some (.long a9'), none, some (.int a11')] [] τ (oI Q noX)) {a0 : Nat} {a1 : Int32} {a4 : Int32} {a5 : Int64} {a7 : Int32} {a8 : Int32} {a9 : Int64} {a11 : Int32} {κ : zS} (W : zW C n0 κ) (Ta0 : zT κ a0 = 15) (F : w_Ch_perform_158 C n0 Q B26 a0 a1 a4 a5 a7 a8 a9 a11 κ) : zG C n0 5 mCh_perform 158 [some (.ref a0), some (.int a1), none, none, some (.int a4), some (.long a5), none, some (.int a7), some (.int a8), some (.long a9), none, some (.int a11)] [] κ (oI Q noX) := by
  unfold w_Ch_perform_158 at F
  refine y_incb dX12_perform_158 zi_1 rfl (Nat.le_of_ble_eq_true rfl) (fun v7_1 ev7_1 => ?_)
  replace F := F v7_1 ev7_1
  show zG _ _ _ _ _ [some (.ref a0), some (.int a1), none, none, some (.int a4), some (.long a5), none, some (.int v7_1), some (.int a8), some (.long a9), none, some (.int a11)] _ _ _
  refine y_ll dX12_perform_161 rfl ?_
  refine y_aln dX12_perform_163 rfl ?_
  refine gf_X12_40 W dX12_perform_164 rfl Ta0 ?_
  refine gf_X12_372 dX12_perform_167 rfl (Or.inl (ty_chMachine W Ta0)) ?_
  refine y_i2l dX12_perform_170 ?_
  refine y_ladd dX12_perform_171 ?_
  refine y_lsb dX12_perform_172 (Nat.le_of_ble_eq_true rfl) (fun v9_2 ev9_2 => ?_)
  replace F := F v9_2 ev9_2
  show zG _ _ _ _ _ [some (.ref a0), some (.int a1), none, none, some (.int a4), some (.long a5), none, some (.int v7_1), some (.int a8), some (.long v9_2), none, some (.int a11)] _ _ _
  refine y_incb dX12_perform_174 zi_1 rfl (Nat.le_of_ble_eq_true rfl) (fun v11_3 ev11_3 => ?_)
  replace F := F v11_3 ev11_3
  show zG _ _ _ _ _ [some (.ref a0), some (.int a1), none, none, some (.int a4), some (.long a5), none, some (.int v7_1), some (.int a8), some (.long v9_2), none, some (.int v11_3)] _ _ _
  refine y_goto dX12_perform_177 (t := 26) rfl ?_
  exact y_k (hB26 _ _ _ _ _ _ _ _ _ W Ta0 F) ⟨rfl, rfl, rfl, rfl, rfl, rfl, rfl, rfl, trivial⟩

def w_Ch_perform_180 (C : zC) (n0 : Nat) (Q : Int32 → zS → Prop)  (a0 : Nat) (a7 : Int32) (a8 : Int32) (a9 : Int64) (κ : zS) : Prop :=
  ∀ _ : zT κ a0 = 15,
  zRun C 1 mCh_note [.ref a0, .int a7, .int a8, .long a9] κ (oV (fun κ1 =>
    ∀ _ : zW C n0 κ1,
    ∀ _ : zM (zn κ) κ κ1,
    Q (zI κ1 maOutcome (zR κ1 chMachine a0)) κ1) noX)
theorem t_Ch_perform_180 {C : zC} {n0 : Nat} {Q : Int32 → zS → Prop}   {a0 : Nat} {a7 : Int32} {a8 : Int32} {a9 : Int64} {κ : zS} (W : zW C n0 κ) (Ta0 : zT κ a0 = 15) (F : w_Ch_perform_180 C n0 Q  a0 a7 a8 a9 κ) : zG C n0 5 mCh_perform 180 [some (.ref a0), none, none, none, none, none, none, some (.int a7), some (.int a8), some (.long a9), none, none] [] κ (oI Q noX) := by
  unfold w_Ch_perform_180 at F
  refine y_aln dX12_perform_180 rfl ?_
  refine y_il dX12_perform_181 rfl ?_
  refine y_il dX12_perform_183 rfl ?_
  refine y_ll dX12_perform_185 rfl ?_
  replace F := F Ta0
  refine k_X12_375 W dX12_perform_187 rfl (Nat.le_of_ble_eq_true rfl) (Nat.le_of_ble_eq_true rfl) (Or.inl Ta0) F (fun  κ1 Wκ1 Mκ1 F => ?_) (fun _ _ h9 => False.elim h9)
  replace F := F Wκ1 Mκ1
  refine y_aln dX12_perform_190 rfl ?_
  have h4 := (ztm W Mκ1 Ta0)
  refine gf_X12_40 Wκ1 dX12_perform_191 rfl h4 ?_
  refine gf_X12_345 dX12_perform_194 rfl (Or.inl (ty_chMachine Wκ1 h4)) ?_
  exact y_ri Wκ1 dX12_perform_197 rfl in_nar F

def w_Ch_perform_150 (C : zC) (n0 : Nat) (Q : Int32 → zS → Prop) (B26 : Nat → Int32 → Int32 → Int64 → Int32 → Int32 → Int64 → Int32 → zS → Prop) (a0 : Nat) (a1 : Int32) (a4 : Int32) (a5 : Int64) (a7 : Int32) (a8 : Int32) (a9 : Int64) (a11 : Int32) (s0 : Int32) (s1 : Nat) (s2 : Int32) (κ : zS) : Prop :=
  ∀ _ : zT κ s1 = 15,
  zRun C 3 mCh_drawn [.ref s1, .int s2, .int a8] κ (oI (fun r2 κ1 =>
    ∀ _ : zW C n0 κ1,
    ∀ _ : zM (zn κ) κ κ1,
    ∀ v8_4 : Int32, v8_4 = (s0 + r2) →
    w_Ch_perform_158 C n0 Q B26 a0 a1 a4 a5 a7 v8_4 a9 a11 κ1) noX)
theorem t_Ch_perform_150 {C : zC} {n0 : Nat} {Q : Int32 → zS → Prop} {B26 : Nat → Int32 → Int32 → Int64 → Int32 → Int32 → Int64 → Int32 → zS → Prop} (hB26 : ∀ a0' a1' a4' a5' a7' a8' a9' a11' τ, zW C n0 τ → zT τ a0' = 15 → B26 a0' a1' a4' a5' a7' a8' a9' a11' τ → zG C n0 5 mCh_perform 26 [some (.ref a0'), some (.int a1'), none, none, some (.int a4'), some (.long a5'), none, some (.int a7'), some (.int a8'), some (.long a9'), none, some (.int a11')] [] τ (oI Q noX)) {a0 : Nat} {a1 : Int32} {a4 : Int32} {a5 : Int64} {a7 : Int32} {a8 : Int32} {a9 : Int64} {a11 : Int32} {s0 : Int32} {s1 : Nat} {s2 : Int32} {κ : zS} (W : zW C n0 κ) (Ta0 : zT κ a0 = 15) (Ts1 : zT κ s1 = 15) (F : w_Ch_perform_150 C n0 Q B26 a0 a1 a4 a5 a7 a8 a9 a11 s0 s1 s2 κ) : zG C n0 5 mCh_perform 150 [some (.ref a0), some (.int a1), none, none, some (.int a4), some (.long a5), none, some (.int a7), some (.int a8), some (.long a9), none, some (.int a11)] [.int s2, .ref s1, .int s0] κ (oI Q noX) := by
  unfold w_Ch_perform_150 at F
  refine y_il dX12_perform_150 rfl ?_
  replace F := F Ts1
  refine k_X12_369 W dX12_perform_152 rfl (Nat.le_of_ble_eq_true rfl) (Nat.le_of_ble_eq_true rfl) (Or.inl Ts1) F (fun r2 κ1 Wκ1 Mκ1 F => ?_) (fun _ _ h9 => False.elim h9)
  replace F := F Wκ1 Mκ1
  refine y_iadd dX12_perform_155 ?_
  refine y_isb dX12_perform_156 (Nat.le_of_ble_eq_true rfl) (fun v8_4 ev8_4 => ?_)
  replace F := F v8_4 ev8_4
  show zG _ _ _ _ _ [some (.ref a0), some (.int a1), none, none, some (.int a4), some (.long a5), none, some (.int a7), some (.int v8_4), some (.long a9), none, some (.int a11)] _ _ _
  have h5 := (ztm W Mκ1 Ta0)
  exact y_k (t_Ch_perform_158 hB26 Wκ1 h5 F) ⟨rfl, rfl, rfl, rfl, rfl, rfl, rfl, rfl, trivial⟩

def w_Ch_perform_109 (C : zC) (n0 : Nat) (Q : Int32 → zS → Prop) (B26 : Nat → Int32 → Int32 → Int64 → Int32 → Int32 → Int64 → Int32 → zS → Prop) (a0 : Nat) (a1 : Int32) (a4 : Int32) (a5 : Int64) (a7 : Int32) (a8 : Int32) (a9 : Int64) (a11 : Int32) (κ : zS) : Prop :=
  ∀ v5_1 : Int64, v5_1 = ((a5 * (6364136223846793005 : Int64)) + (1442695040888963407 : Int64)) →
  (a1 = (0 : Int32) →
    ∀ _ : zT κ (zR κ chMachine a0) = 7,
    zRun C 0 mMa_wayAt [.ref (zR κ chMachine a0), .long (Int64.toUInt64 v5_1 >>> (Int64.toUInt64 (Int32.toInt64 (33 : Int32)) &&& Int64.toUInt64 63)).toInt64] κ (oI (fun r3 κ2 =>
      ∀ _ : zW C n0 κ2,
      ∀ _ : zM (zn κ) κ κ2,
      w_Ch_perform_150 C n0 Q B26 a0 a1 a4 v5_1 a7 a8 a9 a11 a8 a0 r3 κ2) noX)) ∧
  (¬ a1 = (0 : Int32) →
    inb a8 (zN κ (zR κ chTold a0)) ∧
    w_Ch_perform_150 C n0 Q B26 a0 a1 a4 v5_1 a7 a8 a9 a11 a8 a0 (zA κ (zR κ chTold a0) (a8).toNatClampNeg) κ)
theorem t_Ch_perform_109 {C : zC} {n0 : Nat} {Q : Int32 → zS → Prop} {B26 : Nat → Int32 → Int32 → Int64 → Int32 → Int32 → Int64 → Int32 → zS → Prop} (hB26 : ∀ a0' a1' a4' a5' a7' a8' a9' a11' τ, zW C n0 τ → zT τ a0' = 15 → B26 a0' a1' a4' a5' a7' a8' a9' a11' τ → zG C n0 5 mCh_perform 26 [some (.ref a0'), some (.int a1'), none, none, some (.int a4'), some (.long a5'), none, some (.int a7'), some (.int a8'), some (.long a9'), none, some (.int a11')] [] τ (oI Q noX)) {a0 : Nat} {a1 : Int32} {a4 : Int32} {a5 : Int64} {a7 : Int32} {a8 : Int32} {a9 : Int64} {a11 : Int32} {κ : zS} (W : zW C n0 κ) (Ta0 : zT κ a0 = 15) (F : w_Ch_perform_109 C n0 Q B26 a0 a1 a4 a5 a7 a8 a9 a11 κ) : zG C n0 5 mCh_perform 109 [some (.ref a0), some (.int a1), none, none, some (.int a4), some (.long a5), none, some (.int a7), some (.int a8), some (.long a9), none, some (.int a11)] [] κ (oI Q noX) := by
  unfold w_Ch_perform_109 at F
  refine y_ll dX12_perform_109 rfl ?_
  refine y_ldcl dX12_perform_111 rfl zcl_X12_361 ?_
  refine y_lmul dX12_perform_114 ?_
  refine y_ldcl dX12_perform_115 rfl zcl_X12_363 ?_
  refine y_ladd dX12_perform_118 ?_
  refine y_lsb dX12_perform_119 (Nat.le_of_ble_eq_true rfl) (fun v5_1 ev5_1 => ?_)
  replace F := F v5_1 ev5_1
  show zG _ _ _ _ _ [some (.ref a0), some (.int a1), none, none, some (.int a4), some (.long v5_1), none, some (.int a7), some (.int a8), some (.long a9), none, some (.int a11)] _ _ _
  refine y_il dX12_perform_121 rfl ?_
  refine y_aln dX12_perform_123 rfl ?_
  refine y_iln dX12_perform_124 rfl ?_
  refine y_i (a1 = (0 : Int32)) dX12_perform_125 (t := 138) rfl rfl (fun c9 => ?_) (fun c9 => ?_)
  · replace F := F.1 c9
    refine y_aln dX12_perform_138 rfl ?_
    refine gf_X12_40 W dX12_perform_139 rfl Ta0 ?_
    refine y_ll dX12_perform_142 rfl ?_
    refine y_bi1 dX12_perform_144 zb_33 ?_
    refine y_lushr dX12_perform_146 ?_
    replace F := F (ty_chMachine W Ta0)
    refine k_X12_365 W dX12_perform_147 rfl (Nat.le_of_ble_eq_true rfl) (Nat.le_of_ble_eq_true rfl) (Or.inl (ty_chMachine W Ta0)) F (fun r3 κ2 Wκ2 Mκ2 F => ?_) (fun _ _ h9 => False.elim h9)
    replace F := F Wκ2 Mκ2
    have h5 := (ztm W Mκ2 Ta0)
    exact y_k (t_Ch_perform_150 hB26 Wκ2 h5 h5 F) ⟨rfl, rfl, rfl, rfl, rfl, rfl, rfl, rfl, trivial⟩
  · replace F := F.2 c9
    refine y_aln dX12_perform_128 rfl ?_
    refine gf_X12_83 W dX12_perform_129 rfl Ta0 ?_
    refine y_il dX12_perform_132 rfl ?_
    refine y_ald dX12_perform_134 (ty_chTold W Ta0) F.1 ?_
    replace F := F.2
    refine y_goto dX12_perform_135 (t := 150) rfl ?_
    exact y_k (t_Ch_perform_150 hB26 W Ta0 Ta0 F) ⟨rfl, rfl, rfl, rfl, rfl, rfl, rfl, rfl, trivial⟩

def w_Ch_perform_26 (C : zC) (n0 : Nat) (Q : Int32 → zS → Prop)  (a0 : Nat) (a1 : Int32) (a4 : Int32) (a5 : Int64) (a7 : Int32) (a8 : Int32) (a9 : Int64) (a11 : Int32) (κ : zS) : Prop :=
  ∃ I : Nat → Nat → Int32 → Int32 → Int64 → Int32 → Int32 → Int64 → Int32 → zS → Prop, (∃ n, I n a0 a1 a4 a5 a7 a8 a9 a11 κ) ∧ ∀ n a0 a1 a4 a5 a7 a8 a9 a11 κ, zW C n0 κ → zT κ a0 = 15 → I n a0 a1 a4 a5 a7 a8 a9 a11 κ →
    (a4 ≤ a11 →
      w_Ch_perform_180 C n0 Q  a0 a7 a8 a9 κ) ∧
    (¬ a4 ≤ a11 →
      (¬ (zI κ maOutcome (zR κ chMachine a0)) = (0 : Int32) →
        w_Ch_perform_180 C n0 Q  a0 a7 a8 a9 κ) ∧
      ((zI κ maOutcome (zR κ chMachine a0)) = (0 : Int32) →
        ∀ _ : zT κ (zR κ chMachine a0) = 7,
        zRun C 4 mMa_act [.ref (zR κ chMachine a0)] κ (oV (fun κ1 =>
          ∀ _ : zW C n0 κ1,
          ∀ _ : zM (zn κ) κ κ1,
          (¬ (zI κ1 maWants (zR κ1 chMachine a0)) = (4 : Int32) →
            (¬ (zI κ1 maWants (zR κ1 chMachine a0)) = (3 : Int32) →
              w_Ch_perform_158 C n0 Q (fun a0' a1' a4' a5' a7' a8' a9' a11' τ => ∃ k < n, I k a0' a1' a4' a5' a7' a8' a9' a11' τ) a0 a1 a4 a5 a7 a8 a9 a11 κ1) ∧
            ((zI κ1 maWants (zR κ1 chMachine a0)) = (3 : Int32) →
              (a1 = (0 : Int32) →
                w_Ch_perform_109 C n0 Q (fun a0' a1' a4' a5' a7' a8' a9' a11' τ => ∃ k < n, I k a0' a1' a4' a5' a7' a8' a9' a11' τ) a0 a1 a4 a5 a7 a8 a9 a11 κ1) ∧
              (¬ a1 = (0 : Int32) →
                (a8 < (zI κ1 chTolds a0) →
                  w_Ch_perform_109 C n0 Q (fun a0' a1' a4' a5' a7' a8' a9' a11' τ => ∃ k < n, I k a0' a1' a4' a5' a7' a8' a9' a11' τ) a0 a1 a4 a5 a7 a8 a9 a11 κ1) ∧
                (¬ a8 < (zI κ1 chTolds a0) →
                  w_Ch_perform_180 C n0 Q  a0 a7 a8 a9 κ1)))) ∧
          ((zI κ1 maWants (zR κ1 chMachine a0)) = (4 : Int32) →
            ∀ _ : zT κ1 (zR κ1 chAtlas a0) = 3,
            ∀ _ : zT κ1 (zR κ1 chMachine a0) = 7,
            zRun C 3 mAt_chosen [.ref (zR κ1 chAtlas a0), .ref (zR κ1 chMachine a0)] κ1 (oI (fun r6 κ5 =>
              ∀ _ : zW C n0 κ5,
              ∀ _ : zM (zn κ1) κ1 κ5,
              ∀ _ : zT κ5 (zR κ1 chMachine a0) = 7,
              zRun C 2 mMa_settle [.ref (zR κ1 chMachine a0), .int r6] κ5 (oV (fun κ8 =>
                ∀ _ : zW C n0 κ8,
                ∀ _ : zM (zn κ5) κ5 κ8,
                w_Ch_perform_158 C n0 Q (fun a0' a1' a4' a5' a7' a8' a9' a11' τ => ∃ k < n, I k a0' a1' a4' a5' a7' a8' a9' a11' τ) a0 a1 a4 a5 a7 a8 a9 a11 κ8) noX)) noX))) noX)))
theorem t_Ch_perform_26 {C : zC} {n0 : Nat} {Q : Int32 → zS → Prop}   {a0 : Nat} {a1 : Int32} {a4 : Int32} {a5 : Int64} {a7 : Int32} {a8 : Int32} {a9 : Int64} {a11 : Int32} {κ : zS} (W : zW C n0 κ) (Ta0 : zT κ a0 = 15) (F : w_Ch_perform_26 C n0 Q  a0 a1 a4 a5 a7 a8 a9 a11 κ) : zG C n0 5 mCh_perform 26 [some (.ref a0), some (.int a1), none, none, some (.int a4), some (.long a5), none, some (.int a7), some (.int a8), some (.long a9), none, some (.int a11)] [] κ (oI Q noX) := by
  obtain ⟨I, ⟨m0, hI0⟩, F0⟩ := F
  have key : ∀ n a0 a1 a4 a5 a7 a8 a9 a11 κ, zW C n0 κ → zT κ a0 = 15 → I n a0 a1 a4 a5 a7 a8 a9 a11 κ → zG C n0 5 mCh_perform 26 [some (.ref a0), some (.int a1), none, none, some (.int a4), some (.long a5), none, some (.int a7), some (.int a8), some (.long a9), none, some (.int a11)] [] κ (oI Q noX) := by
    intro n
    induction n using Nat.strongRecOn with
    | _ n ih =>
      intro a0 a1 a4 a5 a7 a8 a9 a11 κ W Ta0 hI
      have F := F0 n a0 a1 a4 a5 a7 a8 a9 a11 κ W Ta0 hI
      clear hI hI0
      refine y_il dX12_perform_26 rfl ?_
      refine y_il dX12_perform_28 rfl ?_
      refine y_ii (a4 ≤ a11) dX12_perform_30 (t := 180) rfl rfl (fun c9 => ?_) (fun c9 => ?_)
      · replace F := F.1 c9
        exact y_k (t_Ch_perform_180  W Ta0 F) ⟨rfl, rfl, rfl, rfl, trivial⟩
      · replace F := F.2 c9
        refine y_aln dX12_perform_33 rfl ?_
        refine gf_X12_40 W dX12_perform_34 rfl Ta0 ?_
        refine gf_X12_345 dX12_perform_37 rfl (Or.inl (ty_chMachine W Ta0)) ?_
        refine y_in ((zI κ maOutcome (zR κ chMachine a0)) = (0 : Int32)) dX12_perform_40 (t := 180) rfl rfl (fun c9 => ?_) (fun c9 => ?_)
        · replace F := F.1 c9
          exact y_k (t_Ch_perform_180  W Ta0 F) ⟨rfl, rfl, rfl, rfl, trivial⟩
        · replace F := F.2 c9
          refine y_aln dX12_perform_43 rfl ?_
          refine gf_X12_40 W dX12_perform_44 rfl Ta0 ?_
          replace F := F (ty_chMachine W Ta0)
          refine k_X12_348 W dX12_perform_47 rfl (Nat.le_of_ble_eq_true rfl) (Nat.le_of_ble_eq_true rfl) (Or.inl (ty_chMachine W Ta0)) F (fun  κ1 Wκ1 Mκ1 F => ?_) (fun _ _ h9 => False.elim h9)
          replace F := F Wκ1 Mκ1
          refine y_aln dX12_perform_50 rfl ?_
          have h4 := (ztm W Mκ1 Ta0)
          refine gf_X12_40 Wκ1 dX12_perform_51 rfl h4 ?_
          refine gf_X12_351 dX12_perform_54 rfl (Or.inl (ty_chMachine Wκ1 h4)) ?_
          refine y_ic dX12_perform_57 zi_4 ?_
          refine y_iin ((zI κ1 maWants (zR κ1 chMachine a0)) = (4 : Int32)) dX12_perform_58 (t := 82) rfl rfl (fun c9 => ?_) (fun c9 => ?_)
          · replace F := F.1 c9
            refine y_aln dX12_perform_82 rfl ?_
            refine gf_X12_40 Wκ1 dX12_perform_83 rfl h4 ?_
            refine gf_X12_351 dX12_perform_86 rfl (Or.inl (ty_chMachine Wκ1 h4)) ?_
            refine y_ic dX12_perform_89 zi_3 ?_
            refine y_iin ((zI κ1 maWants (zR κ1 chMachine a0)) = (3 : Int32)) dX12_perform_90 (t := 158) rfl rfl (fun c9 => ?_) (fun c9 => ?_)
            · replace F := F.1 c9
              exact y_k (t_Ch_perform_158 (fun a0' a1' a4' a5' a7' a8' a9' a11' τ w9 f09 hb => by obtain ⟨k, hk, hI⟩ := hb; exact ih k hk a0' a1' a4' a5' a7' a8' a9' a11' τ w9 f09 hI) Wκ1 h4 F) ⟨rfl, rfl, rfl, rfl, rfl, rfl, rfl, rfl, trivial⟩
            · replace F := F.2 c9
              refine y_iln dX12_perform_93 rfl ?_
              refine y_i (a1 = (0 : Int32)) dX12_perform_94 (t := 109) rfl rfl (fun c9 => ?_) (fun c9 => ?_)
              · replace F := F.1 c9
                exact y_k (t_Ch_perform_109 (fun a0' a1' a4' a5' a7' a8' a9' a11' τ w9 f09 hb => by obtain ⟨k, hk, hI⟩ := hb; exact ih k hk a0' a1' a4' a5' a7' a8' a9' a11' τ w9 f09 hI) Wκ1 h4 F) ⟨rfl, rfl, rfl, rfl, rfl, rfl, rfl, rfl, trivial⟩
              · replace F := F.2 c9
                refine y_il dX12_perform_97 rfl ?_
                refine y_aln dX12_perform_99 rfl ?_
                refine gf_X12_305 dX12_perform_100 rfl (Or.inl h4) ?_
                refine y_ii (a8 < (zI κ1 chTolds a0)) dX12_perform_103 (t := 109) rfl rfl (fun c9 => ?_) (fun c9 => ?_)
                · replace F := F.1 c9
                  exact y_k (t_Ch_perform_109 (fun a0' a1' a4' a5' a7' a8' a9' a11' τ w9 f09 hb => by obtain ⟨k, hk, hI⟩ := hb; exact ih k hk a0' a1' a4' a5' a7' a8' a9' a11' τ w9 f09 hI) Wκ1 h4 F) ⟨rfl, rfl, rfl, rfl, rfl, rfl, rfl, rfl, trivial⟩
                · replace F := F.2 c9
                  refine y_goto dX12_perform_106 (t := 180) rfl ?_
                  exact y_k (t_Ch_perform_180  Wκ1 h4 F) ⟨rfl, rfl, rfl, rfl, trivial⟩
          · replace F := F.2 c9
            refine y_aln dX12_perform_61 rfl ?_
            refine gf_X12_40 Wκ1 dX12_perform_62 rfl h4 ?_
            refine y_aln dX12_perform_65 rfl ?_
            refine gf_X12_49 Wκ1 dX12_perform_66 rfl h4 ?_
            refine y_aln dX12_perform_69 rfl ?_
            refine gf_X12_40 Wκ1 dX12_perform_70 rfl h4 ?_
            replace F := F (ty_chAtlas Wκ1 h4)
            replace F := F (ty_chMachine Wκ1 h4)
            refine k_X12_354 Wκ1 dX12_perform_73 rfl (Nat.le_of_ble_eq_true rfl) (Nat.le_of_ble_eq_true rfl) (Or.inl (ty_chAtlas Wκ1 h4)) F (fun r6 κ5 Wκ5 Mκ5 F => ?_) (fun _ _ h9 => False.elim h9)
            replace F := F Wκ5 Mκ5
            have h10 := (ztm Wκ1 Mκ5 (ty_chMachine Wκ1 h4))
            replace F := F h10
            refine k_X12_358 Wκ5 dX12_perform_76 rfl (Nat.le_of_ble_eq_true rfl) (Nat.le_of_ble_eq_true rfl) (Or.inl h10) F (fun  κ8 Wκ8 Mκ8 F => ?_) (fun _ _ h9 => False.elim h9)
            replace F := F Wκ8 Mκ8
            refine y_goto dX12_perform_79 (t := 158) rfl ?_
            have h12 := (ztm Wκ5 Mκ8 (ztm Wκ1 Mκ5 h4))
            exact y_k (t_Ch_perform_158 (fun a0' a1' a4' a5' a7' a8' a9' a11' τ w9 f09 hb => by obtain ⟨k, hk, hI⟩ := hb; exact ih k hk a0' a1' a4' a5' a7' a8' a9' a11' τ w9 f09 hI) Wκ8 h12 F) ⟨rfl, rfl, rfl, rfl, rfl, rfl, rfl, rfl, trivial⟩
  exact key m0 a0 a1 a4 a5 a7 a8 a9 a11 κ W Ta0 hI0

def w_Ch_perform_0 (C : zC) (n0 : Nat) (Q : Int32 → zS → Prop)  (a0 : Nat) (a1 : Int32) (a2 : Int64) (a4 : Int32) (κ : zS) : Prop :=
  ∀ _ : zT κ (zR κ chMachine a0) = 7,
  ∀ _ : zT κ (zR κ chCode a0) = 5,
  zRun C 2 mMa_begin [.ref (zR κ chMachine a0), .ref (zR κ chCode a0)] κ (oV (fun κ1 =>
    ∀ _ : zW C n0 κ1,
    ∀ _ : zM (zn κ) κ κ1,
    w_Ch_perform_26 C n0 Q  a0 a1 a4 a2 (0 : Int32) (0 : Int32) (0 : Int64) (0 : Int32) κ1) noX)
theorem t_Ch_perform_0 {C : zC} {n0 : Nat} {Q : Int32 → zS → Prop}   {a0 : Nat} {a1 : Int32} {a2 : Int64} {a4 : Int32} {κ : zS} (W : zW C n0 κ) (Ta0 : zT κ a0 = 15) (F : w_Ch_perform_0 C n0 Q  a0 a1 a2 a4 κ) : zG C n0 5 mCh_perform 0 [some (.ref a0), some (.int a1), some (.long a2), none, some (.int a4), none, none, none, none, none, none, none] [] κ (oI Q noX) := by
  unfold w_Ch_perform_0 at F
  refine y_aln dX12_perform_0 rfl ?_
  refine gf_X12_40 W dX12_perform_1 rfl Ta0 ?_
  refine y_aln dX12_perform_4 rfl ?_
  refine gf_X12_19 W dX12_perform_5 rfl Ta0 ?_
  replace F := F (ty_chMachine W Ta0)
  replace F := F (ty_chCode W Ta0)
  refine k_X12_342 W dX12_perform_8 rfl (Nat.le_of_ble_eq_true rfl) (Nat.le_of_ble_eq_true rfl) (Or.inl (ty_chMachine W Ta0)) F (fun  κ1 Wκ1 Mκ1 F => ?_) (fun _ _ h9 => False.elim h9)
  replace F := F Wκ1 Mκ1
  refine y_lln dX12_perform_11 rfl ?_
  refine y_ls dX12_perform_12 (Nat.le_of_ble_eq_true rfl) rfl ?_
  show zG _ _ _ _ _ [some (.ref a0), some (.int a1), some (.long a2), none, some (.int a4), some (.long a2), none, none, none, none, none, none] _ _ _
  refine y_ic dX12_perform_14 zi_0 ?_
  refine y_is dX12_perform_15 (Nat.le_of_ble_eq_true rfl) rfl ?_
  show zG _ _ _ _ _ [some (.ref a0), some (.int a1), some (.long a2), none, some (.int a4), some (.long a2), none, some (.int (0 : Int32)), none, none, none, none] _ _ _
  refine y_ic dX12_perform_17 zi_0 ?_
  refine y_is dX12_perform_18 (Nat.le_of_ble_eq_true rfl) rfl ?_
  show zG _ _ _ _ _ [some (.ref a0), some (.int a1), some (.long a2), none, some (.int a4), some (.long a2), none, some (.int (0 : Int32)), some (.int (0 : Int32)), none, none, none] _ _ _
  refine y_lc dX12_perform_20 zl_0 ?_
  refine y_ls dX12_perform_21 (Nat.le_of_ble_eq_true rfl) rfl ?_
  show zG _ _ _ _ _ [some (.ref a0), some (.int a1), some (.long a2), none, some (.int a4), some (.long a2), none, some (.int (0 : Int32)), some (.int (0 : Int32)), some (.long (0 : Int64)), none, none] _ _ _
  refine y_ic dX12_perform_23 zi_0 ?_
  refine y_is dX12_perform_24 (Nat.le_of_ble_eq_true rfl) rfl ?_
  show zG _ _ _ _ _ [some (.ref a0), some (.int a1), some (.long a2), none, some (.int a4), some (.long a2), none, some (.int (0 : Int32)), some (.int (0 : Int32)), some (.long (0 : Int64)), none, some (.int (0 : Int32))] _ _ _
  have h4 := (ztm W Mκ1 Ta0)
  exact y_k (t_Ch_perform_26  Wκ1 h4 F) ⟨rfl, rfl, rfl, rfl, rfl, rfl, rfl, rfl, trivial⟩

theorem Ch_perform_run {C : zC} {n0 : Nat} {Q : Int32 → zS → Prop} {a0 : Nat} {a1 : Int32} {a2 : Int64} {a4 : Int32} {κ : zS} (W : zW C n0 κ) (Ta0 : zT κ a0 = 15) (F : w_Ch_perform_0 C (zn κ) Q a0 a1 a2 a4 κ) : zRun C 5 mCh_perform [.ref a0, .int a1, .long a2, .int a4] κ (oI Q noX) := z_run (m_ent _ 7) (t_Ch_perform_0 (W.lo (Nat.le_trans W.1.2.1 W.1.2.2) (Nat.le_refl _)) Ta0 F)

theorem dX12_play_0 : decode cX12_play 0 = .ok (.aload_n 0, 1) := by decide +kernel
theorem dX12_play_1 : decode cX12_play 1 = .ok (.getfield 135, 3) := by decide +kernel
theorem dX12_play_4 : decode cX12_play 4 = .ok (.ifCond .ne 13, 3) := by decide +kernel
theorem dX12_play_7 : decode cX12_play 7 = .ok (.new 126, 3) := by decide +kernel
theorem dX12_play_10 : decode cX12_play 10 = .ok (.dup, 1) := by decide +kernel
theorem dX12_play_11 : decode cX12_play 11 = .ok (.ldc 164, 2) := by decide +kernel
theorem dX12_play_13 : decode cX12_play 13 = .ok (.invokespecial 166, 3) := by decide +kernel
theorem dX12_play_16 : decode cX12_play 16 = .ok (.athrow, 1) := by decide +kernel
theorem dX12_play_17 : decode cX12_play 17 = .ok (.iload_n 3, 1) := by decide +kernel
theorem dX12_play_18 : decode cX12_play 18 = .ok (.ifCond .lt 10, 3) := by decide +kernel
theorem dX12_play_21 : decode cX12_play 21 = .ok (.iload_n 3, 1) := by decide +kernel
theorem dX12_play_22 : decode cX12_play 22 = .ok (.sipush 2000, 3) := by decide +kernel
theorem dX12_play_25 : decode cX12_play 25 = .ok (.if_icmp .le 14, 3) := by decide +kernel
theorem dX12_play_28 : decode cX12_play 28 = .ok (.new 118, 3) := by decide +kernel
theorem dX12_play_31 : decode cX12_play 31 = .ok (.dup, 1) := by decide +kernel
theorem dX12_play_32 : decode cX12_play 32 = .ok (.ldc_w 310, 3) := by decide +kernel
theorem dX12_play_35 : decode cX12_play 35 = .ok (.invokespecial 122, 3) := by decide +kernel
theorem dX12_play_38 : decode cX12_play 38 = .ok (.athrow, 1) := by decide +kernel
theorem dX12_play_39 : decode cX12_play 39 = .ok (.aload_n 0, 1) := by decide +kernel
theorem dX12_play_40 : decode cX12_play 40 = .ok (.iconst 0, 1) := by decide +kernel
theorem dX12_play_41 : decode cX12_play 41 = .ok (.lload_n 1, 1) := by decide +kernel
theorem dX12_play_42 : decode cX12_play 42 = .ok (.iload_n 3, 1) := by decide +kernel
theorem dX12_play_43 : decode cX12_play 43 = .ok (.invokevirtual 312, 3) := by decide +kernel
theorem dX12_play_46 : decode cX12_play 46 = .ok (.ireturn, 1) := by decide +kernel
def w_Ch_play_0 (C : zC) (n0 : Nat) (Q : Int32 → zS → Prop) (X : zXp)  (a0 : Nat) (a1 : Int64) (a3 : Int32) (κ : zS) : Prop :=
  (¬ (zI κ chReady a0) = (0 : Int32) →
    (a3 < (0 : Int32) →
      ∀ κ1, κ1 = ut κ → X "java/lang/IllegalArgumentException" κ1) ∧
    (¬ a3 < (0 : Int32) →
      (a3 ≤ (2000 : Int32) →
        ∀ _ : zT κ a0 = 15,
        zRun C 5 mCh_perform [.ref a0, .int (0 : Int32), .long a1, .int a3] κ (oI (fun r3 κ2 =>
          ∀ _ : zW C n0 κ2,
          ∀ _ : zM (zn κ) κ κ2,
          Q r3 κ2) noX)) ∧
      (¬ a3 ≤ (2000 : Int32) →
        ∀ κ5, κ5 = ut κ → X "java/lang/IllegalArgumentException" κ5))) ∧
  ((zI κ chReady a0) = (0 : Int32) →
    ∀ κ6, κ6 = ut κ → X "java/lang/IllegalStateException" κ6)
theorem t_Ch_play_0 {C : zC} {n0 : Nat} {Q : Int32 → zS → Prop} {X : zXp}   {a0 : Nat} {a1 : Int64} {a3 : Int32} {κ : zS} (W : zW C n0 κ) (Ta0 : zT κ a0 = 15) (F : w_Ch_play_0 C n0 Q X  a0 a1 a3 κ) : zG C n0 8 mCh_play 0 [some (.ref a0), some (.long a1), none, some (.int a3)] [] κ (oI Q X) := by
  unfold w_Ch_play_0 at F
  refine y_aln dX12_play_0 rfl ?_
  refine gf_X12_135 dX12_play_1 rfl (Or.inl Ta0) ?_
  refine y_in ((zI κ chReady a0) = (0 : Int32)) dX12_play_4 (t := 17) rfl rfl (fun c9 => ?_) (fun c9 => ?_)
  · replace F := F.1 c9
    refine y_iln dX12_play_17 rfl ?_
    refine y_i (a3 < (0 : Int32)) dX12_play_18 (t := 28) rfl rfl (fun c9 => ?_) (fun c9 => ?_)
    · replace F := F.1 c9
      exact y_thr W (dxat_yesw dX12_play_28 dX12_play_31 dX12_play_32 dX12_play_35 dX12_play_38 rfl rfl rfl) (Nat.le_of_ble_eq_true rfl) (Nat.le_of_ble_eq_true rfl) (fun κ9 e9 => Or.inr ⟨_, rfl, F κ9 e9⟩)
    · replace F := F.2 c9
      refine y_iln dX12_play_21 rfl ?_
      refine y_si dX12_play_22 zs_2000 ?_
      refine y_ii (a3 ≤ (2000 : Int32)) dX12_play_25 (t := 39) rfl rfl (fun c9 => ?_) (fun c9 => ?_)
      · replace F := F.1 c9
        refine y_aln dX12_play_39 rfl ?_
        refine y_ic dX12_play_40 zi_0 ?_
        refine y_lln dX12_play_41 rfl ?_
        refine y_iln dX12_play_42 rfl ?_
        replace F := F Ta0
        refine k_X12_312 W dX12_play_43 rfl (Nat.le_of_ble_eq_true rfl) (Nat.le_of_ble_eq_true rfl) (Or.inl Ta0) F (fun r3 κ2 Wκ2 Mκ2 F => ?_) (fun _ _ h9 => False.elim h9)
        replace F := F Wκ2 Mκ2
        exact y_ri Wκ2 dX12_play_46 rfl in_nar F
      · replace F := F.2 c9
        exact y_thr W (dxat_yesw dX12_play_28 dX12_play_31 dX12_play_32 dX12_play_35 dX12_play_38 rfl rfl rfl) (Nat.le_of_ble_eq_true rfl) (Nat.le_of_ble_eq_true rfl) (fun κ9 e9 => Or.inr ⟨_, rfl, F κ9 e9⟩)
  · replace F := F.2 c9
    exact y_thr W (dxat_yes dX12_play_7 dX12_play_10 dX12_play_11 dX12_play_13 dX12_play_16 rfl rfl rfl) (Nat.le_of_ble_eq_true rfl) (Nat.le_of_ble_eq_true rfl) (fun κ9 e9 => Or.inr ⟨_, rfl, F κ9 e9⟩)

theorem Ch_play_run {C : zC} {n0 : Nat} {Q : Int32 → zS → Prop} {X : zXp} {a0 : Nat} {a1 : Int64} {a3 : Int32} {κ : zS} (W : zW C n0 κ) (Ta0 : zT κ a0 = 15) (F : w_Ch_play_0 C (zn κ) Q X a0 a1 a3 κ) : zRun C 8 mCh_play [.ref a0, .long a1, .int a3] κ (oI Q X) := z_run (m_ent _ 0) (t_Ch_play_0 (W.lo (Nat.le_trans W.1.2.1 W.1.2.2) (Nat.le_refl _)) Ta0 F)

theorem dX12_walk_0 : decode cX12_walk 0 = .ok (.aload_n 0, 1) := by decide +kernel
theorem dX12_walk_1 : decode cX12_walk 1 = .ok (.getfield 135, 3) := by decide +kernel
theorem dX12_walk_4 : decode cX12_walk 4 = .ok (.ifCond .ne 13, 3) := by decide +kernel
theorem dX12_walk_7 : decode cX12_walk 7 = .ok (.new 126, 3) := by decide +kernel
theorem dX12_walk_10 : decode cX12_walk 10 = .ok (.dup, 1) := by decide +kernel
theorem dX12_walk_11 : decode cX12_walk 11 = .ok (.ldc 164, 2) := by decide +kernel
theorem dX12_walk_13 : decode cX12_walk 13 = .ok (.invokespecial 166, 3) := by decide +kernel
theorem dX12_walk_16 : decode cX12_walk 16 = .ok (.athrow, 1) := by decide +kernel
theorem dX12_walk_17 : decode cX12_walk 17 = .ok (.iload_n 1, 1) := by decide +kernel
theorem dX12_walk_18 : decode cX12_walk 18 = .ok (.ifCond .lt 10, 3) := by decide +kernel
theorem dX12_walk_21 : decode cX12_walk 21 = .ok (.iload_n 1, 1) := by decide +kernel
theorem dX12_walk_22 : decode cX12_walk 22 = .ok (.sipush 2000, 3) := by decide +kernel
theorem dX12_walk_25 : decode cX12_walk 25 = .ok (.if_icmp .le 14, 3) := by decide +kernel
theorem dX12_walk_28 : decode cX12_walk 28 = .ok (.new 118, 3) := by decide +kernel
theorem dX12_walk_31 : decode cX12_walk 31 = .ok (.dup, 1) := by decide +kernel
theorem dX12_walk_32 : decode cX12_walk 32 = .ok (.ldc_w 310, 3) := by decide +kernel
theorem dX12_walk_35 : decode cX12_walk 35 = .ok (.invokespecial 122, 3) := by decide +kernel
theorem dX12_walk_38 : decode cX12_walk 38 = .ok (.athrow, 1) := by decide +kernel
theorem dX12_walk_39 : decode cX12_walk 39 = .ok (.aload_n 0, 1) := by decide +kernel
theorem dX12_walk_40 : decode cX12_walk 40 = .ok (.iconst 1, 1) := by decide +kernel
theorem dX12_walk_41 : decode cX12_walk 41 = .ok (.lconst 0, 1) := by decide +kernel
theorem dX12_walk_42 : decode cX12_walk 42 = .ok (.iload_n 1, 1) := by decide +kernel
theorem dX12_walk_43 : decode cX12_walk 43 = .ok (.invokevirtual 312, 3) := by decide +kernel
theorem dX12_walk_46 : decode cX12_walk 46 = .ok (.ireturn, 1) := by decide +kernel
def w_Ch_walk_0 (C : zC) (n0 : Nat) (Q : Int32 → zS → Prop) (X : zXp)  (a0 : Nat) (a1 : Int32) (κ : zS) : Prop :=
  (¬ (zI κ chReady a0) = (0 : Int32) →
    (a1 < (0 : Int32) →
      ∀ κ1, κ1 = ut κ → X "java/lang/IllegalArgumentException" κ1) ∧
    (¬ a1 < (0 : Int32) →
      (a1 ≤ (2000 : Int32) →
        ∀ _ : zT κ a0 = 15,
        zRun C 5 mCh_perform [.ref a0, .int (1 : Int32), .long (0 : Int64), .int a1] κ (oI (fun r3 κ2 =>
          ∀ _ : zW C n0 κ2,
          ∀ _ : zM (zn κ) κ κ2,
          Q r3 κ2) noX)) ∧
      (¬ a1 ≤ (2000 : Int32) →
        ∀ κ5, κ5 = ut κ → X "java/lang/IllegalArgumentException" κ5))) ∧
  ((zI κ chReady a0) = (0 : Int32) →
    ∀ κ6, κ6 = ut κ → X "java/lang/IllegalStateException" κ6)
theorem t_Ch_walk_0 {C : zC} {n0 : Nat} {Q : Int32 → zS → Prop} {X : zXp}   {a0 : Nat} {a1 : Int32} {κ : zS} (W : zW C n0 κ) (Ta0 : zT κ a0 = 15) (F : w_Ch_walk_0 C n0 Q X  a0 a1 κ) : zG C n0 8 mCh_walk 0 [some (.ref a0), some (.int a1)] [] κ (oI Q X) := by
  unfold w_Ch_walk_0 at F
  refine y_aln dX12_walk_0 rfl ?_
  refine gf_X12_135 dX12_walk_1 rfl (Or.inl Ta0) ?_
  refine y_in ((zI κ chReady a0) = (0 : Int32)) dX12_walk_4 (t := 17) rfl rfl (fun c9 => ?_) (fun c9 => ?_)
  · replace F := F.1 c9
    refine y_iln dX12_walk_17 rfl ?_
    refine y_i (a1 < (0 : Int32)) dX12_walk_18 (t := 28) rfl rfl (fun c9 => ?_) (fun c9 => ?_)
    · replace F := F.1 c9
      exact y_thr W (dxat_yesw dX12_walk_28 dX12_walk_31 dX12_walk_32 dX12_walk_35 dX12_walk_38 rfl rfl rfl) (Nat.le_of_ble_eq_true rfl) (Nat.le_of_ble_eq_true rfl) (fun κ9 e9 => Or.inr ⟨_, rfl, F κ9 e9⟩)
    · replace F := F.2 c9
      refine y_iln dX12_walk_21 rfl ?_
      refine y_si dX12_walk_22 zs_2000 ?_
      refine y_ii (a1 ≤ (2000 : Int32)) dX12_walk_25 (t := 39) rfl rfl (fun c9 => ?_) (fun c9 => ?_)
      · replace F := F.1 c9
        refine y_aln dX12_walk_39 rfl ?_
        refine y_ic dX12_walk_40 zi_1 ?_
        refine y_lc dX12_walk_41 zl_0 ?_
        refine y_iln dX12_walk_42 rfl ?_
        replace F := F Ta0
        refine k_X12_312 W dX12_walk_43 rfl (Nat.le_of_ble_eq_true rfl) (Nat.le_of_ble_eq_true rfl) (Or.inl Ta0) F (fun r3 κ2 Wκ2 Mκ2 F => ?_) (fun _ _ h9 => False.elim h9)
        replace F := F Wκ2 Mκ2
        exact y_ri Wκ2 dX12_walk_46 rfl in_nar F
      · replace F := F.2 c9
        exact y_thr W (dxat_yesw dX12_walk_28 dX12_walk_31 dX12_walk_32 dX12_walk_35 dX12_walk_38 rfl rfl rfl) (Nat.le_of_ble_eq_true rfl) (Nat.le_of_ble_eq_true rfl) (fun κ9 e9 => Or.inr ⟨_, rfl, F κ9 e9⟩)
  · replace F := F.2 c9
    exact y_thr W (dxat_yes dX12_walk_7 dX12_walk_10 dX12_walk_11 dX12_walk_13 dX12_walk_16 rfl rfl rfl) (Nat.le_of_ble_eq_true rfl) (Nat.le_of_ble_eq_true rfl) (fun κ9 e9 => Or.inr ⟨_, rfl, F κ9 e9⟩)

theorem Ch_walk_run {C : zC} {n0 : Nat} {Q : Int32 → zS → Prop} {X : zXp} {a0 : Nat} {a1 : Int32} {κ : zS} (W : zW C n0 κ) (Ta0 : zT κ a0 = 15) (F : w_Ch_walk_0 C (zn κ) Q X a0 a1 κ) : zRun C 8 mCh_walk [.ref a0, .int a1] κ (oI Q X) := z_run (m_ent _ 0) (t_Ch_walk_0 (W.lo (Nat.le_trans W.1.2.1 W.1.2.2) (Nat.le_refl _)) Ta0 F)

theorem dX12_played_0 : decode cX12_played 0 = .ok (.aload_n 0, 1) := by decide +kernel
theorem dX12_played_1 : decode cX12_played 1 = .ok (.getfield 135, 3) := by decide +kernel
theorem dX12_played_4 : decode cX12_played 4 = .ok (.ifCond .eq 13, 3) := by decide +kernel
theorem dX12_played_7 : decode cX12_played 7 = .ok (.aload_n 0, 1) := by decide +kernel
theorem dX12_played_8 : decode cX12_played 8 = .ok (.getfield 19, 3) := by decide +kernel
theorem dX12_played_11 : decode cX12_played 11 = .ok (.invokevirtual 226, 3) := by decide +kernel
theorem dX12_played_14 : decode cX12_played 14 = .ok (.goto 4, 3) := by decide +kernel
theorem dX12_played_17 : decode cX12_played 17 = .ok (.iconst 0, 1) := by decide +kernel
theorem dX12_played_18 : decode cX12_played 18 = .ok (.istore_n 2, 1) := by decide +kernel
theorem dX12_played_19 : decode cX12_played 19 = .ok (.iload_n 1, 1) := by decide +kernel
theorem dX12_played_20 : decode cX12_played 20 = .ok (.ifCond .lt 10, 3) := by decide +kernel
theorem dX12_played_23 : decode cX12_played 23 = .ok (.iload_n 1, 1) := by decide +kernel
theorem dX12_played_24 : decode cX12_played 24 = .ok (.iconst 5, 1) := by decide +kernel
theorem dX12_played_25 : decode cX12_played 25 = .ok (.iload_n 2, 1) := by decide +kernel
theorem dX12_played_26 : decode cX12_played 26 = .ok (.iadd, 1) := by decide +kernel
theorem dX12_played_27 : decode cX12_played 27 = .ok (.if_icmp .lt 14, 3) := by decide +kernel
theorem dX12_played_30 : decode cX12_played 30 = .ok (.new 154, 3) := by decide +kernel
theorem dX12_played_33 : decode cX12_played 33 = .ok (.dup, 1) := by decide +kernel
theorem dX12_played_34 : decode cX12_played 34 = .ok (.ldc_w 316, 3) := by decide +kernel
theorem dX12_played_37 : decode cX12_played 37 = .ok (.invokespecial 158, 3) := by decide +kernel
theorem dX12_played_40 : decode cX12_played 40 = .ok (.athrow, 1) := by decide +kernel
theorem dX12_played_41 : decode cX12_played 41 = .ok (.aload_n 0, 1) := by decide +kernel
theorem dX12_played_42 : decode cX12_played 42 = .ok (.getfield 148, 3) := by decide +kernel
theorem dX12_played_45 : decode cX12_played 45 = .ok (.ifCond .ne 5, 3) := by decide +kernel
theorem dX12_played_48 : decode cX12_played 48 = .ok (.lconst 0, 1) := by decide +kernel
theorem dX12_played_49 : decode cX12_played 49 = .ok (.lreturn, 1) := by decide +kernel
theorem dX12_played_50 : decode cX12_played 50 = .ok (.iload_n 1, 1) := by decide +kernel
theorem dX12_played_51 : decode cX12_played 51 = .ok (.iconst 5, 1) := by decide +kernel
theorem dX12_played_52 : decode cX12_played 52 = .ok (.if_icmp .ge 12, 3) := by decide +kernel
theorem dX12_played_55 : decode cX12_played 55 = .ok (.aload_n 0, 1) := by decide +kernel
theorem dX12_played_56 : decode cX12_played 56 = .ok (.getfield 87, 3) := by decide +kernel
theorem dX12_played_59 : decode cX12_played 59 = .ok (.iload_n 1, 1) := by decide +kernel
theorem dX12_played_60 : decode cX12_played 60 = .ok (.laload, 1) := by decide +kernel
theorem dX12_played_61 : decode cX12_played 61 = .ok (.goto 12, 3) := by decide +kernel
theorem dX12_played_64 : decode cX12_played 64 = .ok (.aload_n 0, 1) := by decide +kernel
theorem dX12_played_65 : decode cX12_played 65 = .ok (.getfield 91, 3) := by decide +kernel
theorem dX12_played_68 : decode cX12_played 68 = .ok (.iload_n 1, 1) := by decide +kernel
theorem dX12_played_69 : decode cX12_played 69 = .ok (.iconst 5, 1) := by decide +kernel
theorem dX12_played_70 : decode cX12_played 70 = .ok (.isub, 1) := by decide +kernel
theorem dX12_played_71 : decode cX12_played 71 = .ok (.iaload, 1) := by decide +kernel
theorem dX12_played_72 : decode cX12_played 72 = .ok (.i2l, 1) := by decide +kernel
theorem dX12_played_73 : decode cX12_played 73 = .ok (.lreturn, 1) := by decide +kernel
def w_Ch_played_18 (C : zC) (n0 : Nat) (Q : Int64 → zS → Prop) (X : zXp)  (a0 : Nat) (a1 : Int32) (s0 : Int32) (κ : zS) : Prop :=
  (a1 < (0 : Int32) →
    ∀ κ1, κ1 = ut κ → X "java/lang/IndexOutOfBoundsException" κ1) ∧
  (¬ a1 < (0 : Int32) →
    (a1 < ((5 : Int32) + s0) →
      (¬ (zI κ chPlayMade a0) = (0 : Int32) →
        ((5 : Int32) ≤ a1 →
          inb (a1 - (5 : Int32)) (zN κ (zR κ chLastShared a0)) ∧
          Q (Int32.toInt64 (zA κ (zR κ chLastShared a0) ((a1 - (5 : Int32))).toNatClampNeg)) κ) ∧
        (¬ (5 : Int32) ≤ a1 →
          inb a1 (zN κ (zR κ chRecord a0)) ∧
          Q (zJ κ (zR κ chRecord a0) (a1).toNatClampNeg) κ)) ∧
      ((zI κ chPlayMade a0) = (0 : Int32) →
        Q (0 : Int64) κ)) ∧
    (¬ a1 < ((5 : Int32) + s0) →
      ∀ κ2, κ2 = ut κ → X "java/lang/IndexOutOfBoundsException" κ2))
theorem t_Ch_played_18 {C : zC} {n0 : Nat} {Q : Int64 → zS → Prop} {X : zXp}   {a0 : Nat} {a1 : Int32} {s0 : Int32} {κ : zS} (W : zW C n0 κ) (Ta0 : zT κ a0 = 15) (F : w_Ch_played_18 C n0 Q X  a0 a1 s0 κ) : zG C n0 8 mCh_played 18 [some (.ref a0), some (.int a1), none] [.int s0] κ (oJ Q X) := by
  unfold w_Ch_played_18 at F
  refine y_isn dX12_played_18 (Nat.le_of_ble_eq_true rfl) rfl ?_
  show zG _ _ _ _ _ [some (.ref a0), some (.int a1), some (.int s0)] _ _ _
  refine y_iln dX12_played_19 rfl ?_
  refine y_i (a1 < (0 : Int32)) dX12_played_20 (t := 30) rfl rfl (fun c9 => ?_) (fun c9 => ?_)
  · replace F := F.1 c9
    exact y_thr W (dxat_yesw dX12_played_30 dX12_played_33 dX12_played_34 dX12_played_37 dX12_played_40 rfl rfl rfl) (Nat.le_of_ble_eq_true rfl) (Nat.le_of_ble_eq_true rfl) (fun κ9 e9 => Or.inr ⟨_, rfl, F κ9 e9⟩)
  · replace F := F.2 c9
    refine y_iln dX12_played_23 rfl ?_
    refine y_ic dX12_played_24 zi_5 ?_
    refine y_iln dX12_played_25 rfl ?_
    refine y_iadd dX12_played_26 ?_
    refine y_ii (a1 < ((5 : Int32) + s0)) dX12_played_27 (t := 41) rfl rfl (fun c9 => ?_) (fun c9 => ?_)
    · replace F := F.1 c9
      refine y_aln dX12_played_41 rfl ?_
      refine gf_X12_148 dX12_played_42 rfl (Or.inl Ta0) ?_
      refine y_in ((zI κ chPlayMade a0) = (0 : Int32)) dX12_played_45 (t := 50) rfl rfl (fun c9 => ?_) (fun c9 => ?_)
      · replace F := F.1 c9
        refine y_iln dX12_played_50 rfl ?_
        refine y_ic dX12_played_51 zi_5 ?_
        refine y_ii ((5 : Int32) ≤ a1) dX12_played_52 (t := 64) rfl rfl (fun c9 => ?_) (fun c9 => ?_)
        · replace F := F.1 c9
          refine y_aln dX12_played_64 rfl ?_
          refine gf_X12_91 W dX12_played_65 rfl Ta0 ?_
          refine y_iln dX12_played_68 rfl ?_
          refine y_ic dX12_played_69 zi_5 ?_
          refine y_isub dX12_played_70 ?_
          refine y_ald dX12_played_71 (ty_chLastShared W Ta0) F.1 ?_
          replace F := F.2
          refine y_i2l dX12_played_72 ?_
          exact y_rl W dX12_played_73 rfl F
        · replace F := F.2 c9
          refine y_aln dX12_played_55 rfl ?_
          refine gf_X12_87 W dX12_played_56 rfl Ta0 ?_
          refine y_iln dX12_played_59 rfl ?_
          refine y_lld dX12_played_60 (ty_chRecord W Ta0) F.1 ?_
          replace F := F.2
          refine y_goto dX12_played_61 (t := 73) rfl ?_
          exact y_rl W dX12_played_73 rfl F
      · replace F := F.2 c9
        refine y_lc dX12_played_48 zl_0 ?_
        exact y_rl W dX12_played_49 rfl F
    · replace F := F.2 c9
      exact y_thr W (dxat_yesw dX12_played_30 dX12_played_33 dX12_played_34 dX12_played_37 dX12_played_40 rfl rfl rfl) (Nat.le_of_ble_eq_true rfl) (Nat.le_of_ble_eq_true rfl) (fun κ9 e9 => Or.inr ⟨_, rfl, F κ9 e9⟩)

def w_Ch_played_0 (C : zC) (n0 : Nat) (Q : Int64 → zS → Prop) (X : zXp)  (a0 : Nat) (a1 : Int32) (κ : zS) : Prop :=
  ((zI κ chReady a0) = (0 : Int32) →
    w_Ch_played_18 C n0 Q X  a0 a1 (0 : Int32) κ) ∧
  (¬ (zI κ chReady a0) = (0 : Int32) →
    ∀ _ : zT κ (zR κ chCode a0) = 5,
    zRun C 0 mCo_shared [.ref (zR κ chCode a0)] κ (oI (fun r2 κ1 =>
      ∀ _ : zW C n0 κ1,
      ∀ _ : zM (zn κ) κ κ1,
      w_Ch_played_18 C n0 Q X  a0 a1 r2 κ1) noX))
theorem t_Ch_played_0 {C : zC} {n0 : Nat} {Q : Int64 → zS → Prop} {X : zXp}   {a0 : Nat} {a1 : Int32} {κ : zS} (W : zW C n0 κ) (Ta0 : zT κ a0 = 15) (F : w_Ch_played_0 C n0 Q X  a0 a1 κ) : zG C n0 8 mCh_played 0 [some (.ref a0), some (.int a1), none] [] κ (oJ Q X) := by
  unfold w_Ch_played_0 at F
  refine y_aln dX12_played_0 rfl ?_
  refine gf_X12_135 dX12_played_1 rfl (Or.inl Ta0) ?_
  refine y_i ((zI κ chReady a0) = (0 : Int32)) dX12_played_4 (t := 17) rfl rfl (fun c9 => ?_) (fun c9 => ?_)
  · replace F := F.1 c9
    refine y_ic dX12_played_17 zi_0 ?_
    exact y_k (t_Ch_played_18  W Ta0 F) ⟨rfl, rfl, trivial⟩
  · replace F := F.2 c9
    refine y_aln dX12_played_7 rfl ?_
    refine gf_X12_19 W dX12_played_8 rfl Ta0 ?_
    replace F := F (ty_chCode W Ta0)
    refine k_X12_226 W dX12_played_11 rfl (Nat.le_of_ble_eq_true rfl) (Nat.le_of_ble_eq_true rfl) (Or.inl (ty_chCode W Ta0)) F (fun r2 κ1 Wκ1 Mκ1 F => ?_) (fun _ _ h9 => False.elim h9)
    replace F := F Wκ1 Mκ1
    refine y_goto dX12_played_14 (t := 18) rfl ?_
    have h4 := (ztm W Mκ1 Ta0)
    exact y_k (t_Ch_played_18  Wκ1 h4 F) ⟨rfl, rfl, trivial⟩

theorem Ch_played_run {C : zC} {n0 : Nat} {Q : Int64 → zS → Prop} {X : zXp} {a0 : Nat} {a1 : Int32} {κ : zS} (W : zW C n0 κ) (Ta0 : zT κ a0 = 15) (F : w_Ch_played_0 C (zn κ) Q X a0 a1 κ) : zRun C 8 mCh_played [.ref a0, .int a1] κ (oJ Q X) := z_run (m_ent _ 1) (t_Ch_played_0 (W.lo (Nat.le_trans W.1.2.1 W.1.2.2) (Nat.le_refl _)) Ta0 F)

theorem dX12_independent_0 : decode cX12_independent 0 = .ok (.aload_n 0, 1) := by decide +kernel
theorem dX12_independent_1 : decode cX12_independent 1 = .ok (.getfield 61, 3) := by decide +kernel
theorem dX12_independent_4 : decode cX12_independent 4 = .ok (.getfield 142, 3) := by decide +kernel
theorem dX12_independent_7 : decode cX12_independent 7 = .ok (.ifCond .ne 14, 3) := by decide +kernel
theorem dX12_independent_10 : decode cX12_independent 10 = .ok (.new 126, 3) := by decide +kernel
theorem dX12_independent_13 : decode cX12_independent 13 = .ok (.dup, 1) := by decide +kernel
theorem dX12_independent_14 : decode cX12_independent 14 = .ok (.ldc_w 318, 3) := by decide +kernel
theorem dX12_independent_17 : decode cX12_independent 17 = .ok (.invokespecial 166, 3) := by decide +kernel
theorem dX12_independent_20 : decode cX12_independent 20 = .ok (.athrow, 1) := by decide +kernel
theorem dX12_independent_21 : decode cX12_independent 21 = .ok (.aload_n 0, 1) := by decide +kernel
theorem dX12_independent_22 : decode cX12_independent 22 = .ok (.getfield 19, 3) := by decide +kernel
theorem dX12_independent_25 : decode cX12_independent 25 = .ok (.iload_n 1, 1) := by decide +kernel
theorem dX12_independent_26 : decode cX12_independent 26 = .ok (.invokevirtual 320, 3) := by decide +kernel
theorem dX12_independent_29 : decode cX12_independent 29 = .ok (.ifCond .eq 14, 3) := by decide +kernel
theorem dX12_independent_32 : decode cX12_independent 32 = .ok (.aload_n 0, 1) := by decide +kernel
theorem dX12_independent_33 : decode cX12_independent 33 = .ok (.getfield 19, 3) := by decide +kernel
theorem dX12_independent_36 : decode cX12_independent 36 = .ok (.iload_n 2, 1) := by decide +kernel
theorem dX12_independent_37 : decode cX12_independent 37 = .ok (.invokevirtual 320, 3) := by decide +kernel
theorem dX12_independent_40 : decode cX12_independent 40 = .ok (.ifCond .ne 14, 3) := by decide +kernel
theorem dX12_independent_43 : decode cX12_independent 43 = .ok (.new 154, 3) := by decide +kernel
theorem dX12_independent_46 : decode cX12_independent 46 = .ok (.dup, 1) := by decide +kernel
theorem dX12_independent_47 : decode cX12_independent 47 = .ok (.ldc_w 323, 3) := by decide +kernel
theorem dX12_independent_50 : decode cX12_independent 50 = .ok (.invokespecial 158, 3) := by decide +kernel
theorem dX12_independent_53 : decode cX12_independent 53 = .ok (.athrow, 1) := by decide +kernel
theorem dX12_independent_54 : decode cX12_independent 54 = .ok (.aload_n 0, 1) := by decide +kernel
theorem dX12_independent_55 : decode cX12_independent 55 = .ok (.getfield 70, 3) := by decide +kernel
theorem dX12_independent_58 : decode cX12_independent 58 = .ok (.iload_n 1, 1) := by decide +kernel
theorem dX12_independent_59 : decode cX12_independent 59 = .ok (.iload_n 2, 1) := by decide +kernel
theorem dX12_independent_60 : decode cX12_independent 60 = .ok (.iconst (-1), 1) := by decide +kernel
theorem dX12_independent_61 : decode cX12_independent 61 = .ok (.invokevirtual 325, 3) := by decide +kernel
theorem dX12_independent_64 : decode cX12_independent 64 = .ok (.ifCond .eq 17, 3) := by decide +kernel
theorem dX12_independent_67 : decode cX12_independent 67 = .ok (.aload_n 0, 1) := by decide +kernel
theorem dX12_independent_68 : decode cX12_independent 68 = .ok (.getfield 70, 3) := by decide +kernel
theorem dX12_independent_71 : decode cX12_independent 71 = .ok (.invokevirtual 328, 3) := by decide +kernel
theorem dX12_independent_74 : decode cX12_independent 74 = .ok (.ifCond .eq 7, 3) := by decide +kernel
theorem dX12_independent_77 : decode cX12_independent 77 = .ok (.iconst 1, 1) := by decide +kernel
theorem dX12_independent_78 : decode cX12_independent 78 = .ok (.goto 4, 3) := by decide +kernel
theorem dX12_independent_81 : decode cX12_independent 81 = .ok (.iconst 0, 1) := by decide +kernel
theorem dX12_independent_82 : decode cX12_independent 82 = .ok (.ireturn, 1) := by decide +kernel
def w_Ch_independent_0 (C : zC) (n0 : Nat) (Q : Int32 → zS → Prop) (X : zXp)  (a0 : Nat) (a1 : Int32) (a2 : Int32) (κ : zS) : Prop :=
  (¬ (zI κ soSolved (zR κ chSolver a0)) = (0 : Int32) →
    ∀ _ : zT κ (zR κ chCode a0) = 5,
    zRun C 0 mCo_isShared [.ref (zR κ chCode a0), .int a1] κ (oI (fun r2 κ1 =>
      ∀ _ : zW C n0 κ1,
      ∀ _ : zM (zn κ) κ κ1,
      (r2 = (0 : Int32) →
        ∀ κ4, κ4 = ut κ1 → X "java/lang/IndexOutOfBoundsException" κ4) ∧
      (¬ r2 = (0 : Int32) →
        ∀ _ : zT κ1 (zR κ1 chCode a0) = 5,
        zRun C 0 mCo_isShared [.ref (zR κ1 chCode a0), .int a2] κ1 (oI (fun r7 κ6 =>
          ∀ _ : zW C n0 κ6,
          ∀ _ : zM (zn κ1) κ1 κ6,
          (¬ r7 = (0 : Int32) →
            ∀ _ : zT κ6 (zR κ6 chOdds a0) = 9,
            zRun C 5 mOd_arrange [.ref (zR κ6 chOdds a0), .int a1, .int a2, .int (-1 : Int32)] κ6 (oI (fun r11 κ10 =>
              ∀ _ : zW C n0 κ10,
              ∀ _ : zM (zn κ6) κ6 κ10,
              (r11 = (0 : Int32) →
                Q (0 : Int32) κ10) ∧
              (¬ r11 = (0 : Int32) →
                ∀ _ : zT κ10 (zR κ10 chOdds a0) = 9,
                zRun C 8 mOd_tablesAgree [.ref (zR κ10 chOdds a0)] κ10 (oI (fun r15 κ14 =>
                  ∀ _ : zW C n0 κ14,
                  ∀ _ : zM (zn κ10) κ10 κ14,
                  (r15 = (0 : Int32) →
                    Q (0 : Int32) κ14) ∧
                  (¬ r15 = (0 : Int32) →
                    Q (1 : Int32) κ14)) noX))) noX)) ∧
          (r7 = (0 : Int32) →
            ∀ κ17, κ17 = ut κ6 → X "java/lang/IndexOutOfBoundsException" κ17)) noX))) noX)) ∧
  ((zI κ soSolved (zR κ chSolver a0)) = (0 : Int32) →
    ∀ κ18, κ18 = ut κ → X "java/lang/IllegalStateException" κ18)
theorem t_Ch_independent_0 {C : zC} {n0 : Nat} {Q : Int32 → zS → Prop} {X : zXp}   {a0 : Nat} {a1 : Int32} {a2 : Int32} {κ : zS} (W : zW C n0 κ) (Ta0 : zT κ a0 = 15) (F : w_Ch_independent_0 C n0 Q X  a0 a1 a2 κ) : zG C n0 9 mCh_independent 0 [some (.ref a0), some (.int a1), some (.int a2)] [] κ (oI Q X) := by
  unfold w_Ch_independent_0 at F
  refine y_aln dX12_independent_0 rfl ?_
  refine gf_X12_61 W dX12_independent_1 rfl Ta0 ?_
  refine gf_X12_142 dX12_independent_4 rfl (Or.inl (ty_chSolver W Ta0)) ?_
  refine y_in ((zI κ soSolved (zR κ chSolver a0)) = (0 : Int32)) dX12_independent_7 (t := 21) rfl rfl (fun c9 => ?_) (fun c9 => ?_)
  · replace F := F.1 c9
    refine y_aln dX12_independent_21 rfl ?_
    refine gf_X12_19 W dX12_independent_22 rfl Ta0 ?_
    refine y_iln dX12_independent_25 rfl ?_
    replace F := F (ty_chCode W Ta0)
    refine k_X12_320 W dX12_independent_26 rfl (Nat.le_of_ble_eq_true rfl) (Nat.le_of_ble_eq_true rfl) (Or.inl (ty_chCode W Ta0)) F (fun r2 κ1 Wκ1 Mκ1 F => ?_) (fun _ _ h9 => False.elim h9)
    replace F := F Wκ1 Mκ1
    refine y_i (r2 = (0 : Int32)) dX12_independent_29 (t := 43) rfl rfl (fun c9 => ?_) (fun c9 => ?_)
    · replace F := F.1 c9
      exact y_thr Wκ1 (dxat_yesw dX12_independent_43 dX12_independent_46 dX12_independent_47 dX12_independent_50 dX12_independent_53 rfl rfl rfl) (Nat.le_of_ble_eq_true rfl) (Nat.le_of_ble_eq_true rfl) (fun κ9 e9 => Or.inr ⟨_, rfl, F κ9 e9⟩)
    · replace F := F.2 c9
      refine y_aln dX12_independent_32 rfl ?_
      have h5 := (ztm W Mκ1 Ta0)
      refine gf_X12_19 Wκ1 dX12_independent_33 rfl h5 ?_
      refine y_iln dX12_independent_36 rfl ?_
      replace F := F (ty_chCode Wκ1 h5)
      refine k_X12_320 Wκ1 dX12_independent_37 rfl (Nat.le_of_ble_eq_true rfl) (Nat.le_of_ble_eq_true rfl) (Or.inl (ty_chCode Wκ1 h5)) F (fun r7 κ6 Wκ6 Mκ6 F => ?_) (fun _ _ h9 => False.elim h9)
      replace F := F Wκ6 Mκ6
      refine y_in (r7 = (0 : Int32)) dX12_independent_40 (t := 54) rfl rfl (fun c9 => ?_) (fun c9 => ?_)
      · replace F := F.1 c9
        refine y_aln dX12_independent_54 rfl ?_
        have h9 := (ztm Wκ1 Mκ6 h5)
        refine gf_X12_70 Wκ6 dX12_independent_55 rfl h9 ?_
        refine y_iln dX12_independent_58 rfl ?_
        refine y_iln dX12_independent_59 rfl ?_
        refine y_ic dX12_independent_60 zi_m1 ?_
        replace F := F (ty_chOdds Wκ6 h9)
        refine k_X12_325 Wκ6 dX12_independent_61 rfl (Nat.le_of_ble_eq_true rfl) (Nat.le_of_ble_eq_true rfl) (Or.inl (ty_chOdds Wκ6 h9)) F (fun r11 κ10 Wκ10 Mκ10 F => ?_) (fun _ _ h9 => False.elim h9)
        replace F := F Wκ10 Mκ10
        refine y_i (r11 = (0 : Int32)) dX12_independent_64 (t := 81) rfl rfl (fun c9 => ?_) (fun c9 => ?_)
        · replace F := F.1 c9
          refine y_ic dX12_independent_81 zi_0 ?_
          exact y_ri Wκ10 dX12_independent_82 rfl (nb_nar nb_0) F
        · replace F := F.2 c9
          refine y_aln dX12_independent_67 rfl ?_
          have h13 := (ztm Wκ6 Mκ10 h9)
          refine gf_X12_70 Wκ10 dX12_independent_68 rfl h13 ?_
          replace F := F (ty_chOdds Wκ10 h13)
          refine k_X12_328 Wκ10 dX12_independent_71 rfl (Nat.le_of_ble_eq_true rfl) (Nat.le_of_ble_eq_true rfl) (Or.inl (ty_chOdds Wκ10 h13)) F (fun r15 κ14 Wκ14 Mκ14 F => ?_) (fun _ _ h9 => False.elim h9)
          replace F := F Wκ14 Mκ14
          refine y_i (r15 = (0 : Int32)) dX12_independent_74 (t := 81) rfl rfl (fun c9 => ?_) (fun c9 => ?_)
          · replace F := F.1 c9
            refine y_ic dX12_independent_81 zi_0 ?_
            exact y_ri Wκ14 dX12_independent_82 rfl (nb_nar nb_0) F
          · replace F := F.2 c9
            refine y_ic dX12_independent_77 zi_1 ?_
            refine y_goto dX12_independent_78 (t := 82) rfl ?_
            exact y_ri Wκ14 dX12_independent_82 rfl (nb_nar nb_1) F
      · replace F := F.2 c9
        exact y_thr Wκ6 (dxat_yesw dX12_independent_43 dX12_independent_46 dX12_independent_47 dX12_independent_50 dX12_independent_53 rfl rfl rfl) (Nat.le_of_ble_eq_true rfl) (Nat.le_of_ble_eq_true rfl) (fun κ9 e9 => Or.inr ⟨_, rfl, F κ9 e9⟩)
  · replace F := F.2 c9
    exact y_thr W (dxat_yesw dX12_independent_10 dX12_independent_13 dX12_independent_14 dX12_independent_17 dX12_independent_20 rfl rfl rfl) (Nat.le_of_ble_eq_true rfl) (Nat.le_of_ble_eq_true rfl) (fun κ9 e9 => Or.inr ⟨_, rfl, F κ9 e9⟩)

theorem Ch_independent_run {C : zC} {n0 : Nat} {Q : Int32 → zS → Prop} {X : zXp} {a0 : Nat} {a1 : Int32} {a2 : Int32} {κ : zS} (W : zW C n0 κ) (Ta0 : zT κ a0 = 15) (F : w_Ch_independent_0 C (zn κ) Q X a0 a1 a2 κ) : zRun C 9 mCh_independent [.ref a0, .int a1, .int a2] κ (oI Q X) := z_run (m_ent _ 0) (t_Ch_independent_0 (W.lo (Nat.le_trans W.1.2.1 W.1.2.2) (Nat.le_refl _)) Ta0 F)

theorem dX12_given_0 : decode cX12_given 0 = .ok (.aload_n 0, 1) := by decide +kernel
theorem dX12_given_1 : decode cX12_given 1 = .ok (.getfield 61, 3) := by decide +kernel
theorem dX12_given_4 : decode cX12_given 4 = .ok (.getfield 142, 3) := by decide +kernel
theorem dX12_given_7 : decode cX12_given 7 = .ok (.ifCond .ne 14, 3) := by decide +kernel
theorem dX12_given_10 : decode cX12_given 10 = .ok (.new 126, 3) := by decide +kernel
theorem dX12_given_13 : decode cX12_given 13 = .ok (.dup, 1) := by decide +kernel
theorem dX12_given_14 : decode cX12_given 14 = .ok (.ldc_w 318, 3) := by decide +kernel
theorem dX12_given_17 : decode cX12_given 17 = .ok (.invokespecial 166, 3) := by decide +kernel
theorem dX12_given_20 : decode cX12_given 20 = .ok (.athrow, 1) := by decide +kernel
theorem dX12_given_21 : decode cX12_given 21 = .ok (.aload_n 0, 1) := by decide +kernel
theorem dX12_given_22 : decode cX12_given 22 = .ok (.getfield 19, 3) := by decide +kernel
theorem dX12_given_25 : decode cX12_given 25 = .ok (.iload_n 1, 1) := by decide +kernel
theorem dX12_given_26 : decode cX12_given 26 = .ok (.invokevirtual 320, 3) := by decide +kernel
theorem dX12_given_29 : decode cX12_given 29 = .ok (.ifCond .eq 25, 3) := by decide +kernel
theorem dX12_given_32 : decode cX12_given 32 = .ok (.aload_n 0, 1) := by decide +kernel
theorem dX12_given_33 : decode cX12_given 33 = .ok (.getfield 19, 3) := by decide +kernel
theorem dX12_given_36 : decode cX12_given 36 = .ok (.iload_n 2, 1) := by decide +kernel
theorem dX12_given_37 : decode cX12_given 37 = .ok (.invokevirtual 320, 3) := by decide +kernel
theorem dX12_given_40 : decode cX12_given 40 = .ok (.ifCond .eq 14, 3) := by decide +kernel
theorem dX12_given_43 : decode cX12_given 43 = .ok (.aload_n 0, 1) := by decide +kernel
theorem dX12_given_44 : decode cX12_given 44 = .ok (.getfield 19, 3) := by decide +kernel
theorem dX12_given_47 : decode cX12_given 47 = .ok (.iload_n 3, 1) := by decide +kernel
theorem dX12_given_48 : decode cX12_given 48 = .ok (.invokevirtual 320, 3) := by decide +kernel
theorem dX12_given_51 : decode cX12_given 51 = .ok (.ifCond .ne 14, 3) := by decide +kernel
theorem dX12_given_54 : decode cX12_given 54 = .ok (.new 154, 3) := by decide +kernel
theorem dX12_given_57 : decode cX12_given 57 = .ok (.dup, 1) := by decide +kernel
theorem dX12_given_58 : decode cX12_given 58 = .ok (.ldc_w 323, 3) := by decide +kernel
theorem dX12_given_61 : decode cX12_given 61 = .ok (.invokespecial 158, 3) := by decide +kernel
theorem dX12_given_64 : decode cX12_given 64 = .ok (.athrow, 1) := by decide +kernel
theorem dX12_given_65 : decode cX12_given 65 = .ok (.aload_n 0, 1) := by decide +kernel
theorem dX12_given_66 : decode cX12_given 66 = .ok (.getfield 70, 3) := by decide +kernel
theorem dX12_given_69 : decode cX12_given 69 = .ok (.iload_n 1, 1) := by decide +kernel
theorem dX12_given_70 : decode cX12_given 70 = .ok (.iload_n 2, 1) := by decide +kernel
theorem dX12_given_71 : decode cX12_given 71 = .ok (.iload_n 3, 1) := by decide +kernel
theorem dX12_given_72 : decode cX12_given 72 = .ok (.invokevirtual 325, 3) := by decide +kernel
theorem dX12_given_75 : decode cX12_given 75 = .ok (.ifCond .eq 17, 3) := by decide +kernel
theorem dX12_given_78 : decode cX12_given 78 = .ok (.aload_n 0, 1) := by decide +kernel
theorem dX12_given_79 : decode cX12_given 79 = .ok (.getfield 70, 3) := by decide +kernel
theorem dX12_given_82 : decode cX12_given 82 = .ok (.invokevirtual 328, 3) := by decide +kernel
theorem dX12_given_85 : decode cX12_given 85 = .ok (.ifCond .eq 7, 3) := by decide +kernel
theorem dX12_given_88 : decode cX12_given 88 = .ok (.iconst 1, 1) := by decide +kernel
theorem dX12_given_89 : decode cX12_given 89 = .ok (.goto 4, 3) := by decide +kernel
theorem dX12_given_92 : decode cX12_given 92 = .ok (.iconst 0, 1) := by decide +kernel
theorem dX12_given_93 : decode cX12_given 93 = .ok (.ireturn, 1) := by decide +kernel
def w_Ch_given_0 (C : zC) (n0 : Nat) (Q : Int32 → zS → Prop) (X : zXp)  (a0 : Nat) (a1 : Int32) (a2 : Int32) (a3 : Int32) (κ : zS) : Prop :=
  (¬ (zI κ soSolved (zR κ chSolver a0)) = (0 : Int32) →
    ∀ _ : zT κ (zR κ chCode a0) = 5,
    zRun C 0 mCo_isShared [.ref (zR κ chCode a0), .int a1] κ (oI (fun r2 κ1 =>
      ∀ _ : zW C n0 κ1,
      ∀ _ : zM (zn κ) κ κ1,
      (r2 = (0 : Int32) →
        ∀ κ4, κ4 = ut κ1 → X "java/lang/IndexOutOfBoundsException" κ4) ∧
      (¬ r2 = (0 : Int32) →
        ∀ _ : zT κ1 (zR κ1 chCode a0) = 5,
        zRun C 0 mCo_isShared [.ref (zR κ1 chCode a0), .int a2] κ1 (oI (fun r7 κ6 =>
          ∀ _ : zW C n0 κ6,
          ∀ _ : zM (zn κ1) κ1 κ6,
          (r7 = (0 : Int32) →
            ∀ κ9, κ9 = ut κ6 → X "java/lang/IndexOutOfBoundsException" κ9) ∧
          (¬ r7 = (0 : Int32) →
            ∀ _ : zT κ6 (zR κ6 chCode a0) = 5,
            zRun C 0 mCo_isShared [.ref (zR κ6 chCode a0), .int a3] κ6 (oI (fun r12 κ11 =>
              ∀ _ : zW C n0 κ11,
              ∀ _ : zM (zn κ6) κ6 κ11,
              (¬ r12 = (0 : Int32) →
                ∀ _ : zT κ11 (zR κ11 chOdds a0) = 9,
                zRun C 5 mOd_arrange [.ref (zR κ11 chOdds a0), .int a1, .int a2, .int a3] κ11 (oI (fun r16 κ15 =>
                  ∀ _ : zW C n0 κ15,
                  ∀ _ : zM (zn κ11) κ11 κ15,
                  (r16 = (0 : Int32) →
                    Q (0 : Int32) κ15) ∧
                  (¬ r16 = (0 : Int32) →
                    ∀ _ : zT κ15 (zR κ15 chOdds a0) = 9,
                    zRun C 8 mOd_tablesAgree [.ref (zR κ15 chOdds a0)] κ15 (oI (fun r20 κ19 =>
                      ∀ _ : zW C n0 κ19,
                      ∀ _ : zM (zn κ15) κ15 κ19,
                      (r20 = (0 : Int32) →
                        Q (0 : Int32) κ19) ∧
                      (¬ r20 = (0 : Int32) →
                        Q (1 : Int32) κ19)) noX))) noX)) ∧
              (r12 = (0 : Int32) →
                ∀ κ22, κ22 = ut κ11 → X "java/lang/IndexOutOfBoundsException" κ22)) noX))) noX))) noX)) ∧
  ((zI κ soSolved (zR κ chSolver a0)) = (0 : Int32) →
    ∀ κ23, κ23 = ut κ → X "java/lang/IllegalStateException" κ23)
theorem t_Ch_given_0 {C : zC} {n0 : Nat} {Q : Int32 → zS → Prop} {X : zXp}   {a0 : Nat} {a1 : Int32} {a2 : Int32} {a3 : Int32} {κ : zS} (W : zW C n0 κ) (Ta0 : zT κ a0 = 15) (F : w_Ch_given_0 C n0 Q X  a0 a1 a2 a3 κ) : zG C n0 9 mCh_given 0 [some (.ref a0), some (.int a1), some (.int a2), some (.int a3)] [] κ (oI Q X) := by
  unfold w_Ch_given_0 at F
  refine y_aln dX12_given_0 rfl ?_
  refine gf_X12_61 W dX12_given_1 rfl Ta0 ?_
  refine gf_X12_142 dX12_given_4 rfl (Or.inl (ty_chSolver W Ta0)) ?_
  refine y_in ((zI κ soSolved (zR κ chSolver a0)) = (0 : Int32)) dX12_given_7 (t := 21) rfl rfl (fun c9 => ?_) (fun c9 => ?_)
  · replace F := F.1 c9
    refine y_aln dX12_given_21 rfl ?_
    refine gf_X12_19 W dX12_given_22 rfl Ta0 ?_
    refine y_iln dX12_given_25 rfl ?_
    replace F := F (ty_chCode W Ta0)
    refine k_X12_320 W dX12_given_26 rfl (Nat.le_of_ble_eq_true rfl) (Nat.le_of_ble_eq_true rfl) (Or.inl (ty_chCode W Ta0)) F (fun r2 κ1 Wκ1 Mκ1 F => ?_) (fun _ _ h9 => False.elim h9)
    replace F := F Wκ1 Mκ1
    refine y_i (r2 = (0 : Int32)) dX12_given_29 (t := 54) rfl rfl (fun c9 => ?_) (fun c9 => ?_)
    · replace F := F.1 c9
      exact y_thr Wκ1 (dxat_yesw dX12_given_54 dX12_given_57 dX12_given_58 dX12_given_61 dX12_given_64 rfl rfl rfl) (Nat.le_of_ble_eq_true rfl) (Nat.le_of_ble_eq_true rfl) (fun κ9 e9 => Or.inr ⟨_, rfl, F κ9 e9⟩)
    · replace F := F.2 c9
      refine y_aln dX12_given_32 rfl ?_
      have h5 := (ztm W Mκ1 Ta0)
      refine gf_X12_19 Wκ1 dX12_given_33 rfl h5 ?_
      refine y_iln dX12_given_36 rfl ?_
      replace F := F (ty_chCode Wκ1 h5)
      refine k_X12_320 Wκ1 dX12_given_37 rfl (Nat.le_of_ble_eq_true rfl) (Nat.le_of_ble_eq_true rfl) (Or.inl (ty_chCode Wκ1 h5)) F (fun r7 κ6 Wκ6 Mκ6 F => ?_) (fun _ _ h9 => False.elim h9)
      replace F := F Wκ6 Mκ6
      refine y_i (r7 = (0 : Int32)) dX12_given_40 (t := 54) rfl rfl (fun c9 => ?_) (fun c9 => ?_)
      · replace F := F.1 c9
        exact y_thr Wκ6 (dxat_yesw dX12_given_54 dX12_given_57 dX12_given_58 dX12_given_61 dX12_given_64 rfl rfl rfl) (Nat.le_of_ble_eq_true rfl) (Nat.le_of_ble_eq_true rfl) (fun κ9 e9 => Or.inr ⟨_, rfl, F κ9 e9⟩)
      · replace F := F.2 c9
        refine y_aln dX12_given_43 rfl ?_
        have h10 := (ztm Wκ1 Mκ6 h5)
        refine gf_X12_19 Wκ6 dX12_given_44 rfl h10 ?_
        refine y_iln dX12_given_47 rfl ?_
        replace F := F (ty_chCode Wκ6 h10)
        refine k_X12_320 Wκ6 dX12_given_48 rfl (Nat.le_of_ble_eq_true rfl) (Nat.le_of_ble_eq_true rfl) (Or.inl (ty_chCode Wκ6 h10)) F (fun r12 κ11 Wκ11 Mκ11 F => ?_) (fun _ _ h9 => False.elim h9)
        replace F := F Wκ11 Mκ11
        refine y_in (r12 = (0 : Int32)) dX12_given_51 (t := 65) rfl rfl (fun c9 => ?_) (fun c9 => ?_)
        · replace F := F.1 c9
          refine y_aln dX12_given_65 rfl ?_
          have h14 := (ztm Wκ6 Mκ11 h10)
          refine gf_X12_70 Wκ11 dX12_given_66 rfl h14 ?_
          refine y_iln dX12_given_69 rfl ?_
          refine y_iln dX12_given_70 rfl ?_
          refine y_iln dX12_given_71 rfl ?_
          replace F := F (ty_chOdds Wκ11 h14)
          refine k_X12_325 Wκ11 dX12_given_72 rfl (Nat.le_of_ble_eq_true rfl) (Nat.le_of_ble_eq_true rfl) (Or.inl (ty_chOdds Wκ11 h14)) F (fun r16 κ15 Wκ15 Mκ15 F => ?_) (fun _ _ h9 => False.elim h9)
          replace F := F Wκ15 Mκ15
          refine y_i (r16 = (0 : Int32)) dX12_given_75 (t := 92) rfl rfl (fun c9 => ?_) (fun c9 => ?_)
          · replace F := F.1 c9
            refine y_ic dX12_given_92 zi_0 ?_
            exact y_ri Wκ15 dX12_given_93 rfl (nb_nar nb_0) F
          · replace F := F.2 c9
            refine y_aln dX12_given_78 rfl ?_
            have h18 := (ztm Wκ11 Mκ15 h14)
            refine gf_X12_70 Wκ15 dX12_given_79 rfl h18 ?_
            replace F := F (ty_chOdds Wκ15 h18)
            refine k_X12_328 Wκ15 dX12_given_82 rfl (Nat.le_of_ble_eq_true rfl) (Nat.le_of_ble_eq_true rfl) (Or.inl (ty_chOdds Wκ15 h18)) F (fun r20 κ19 Wκ19 Mκ19 F => ?_) (fun _ _ h9 => False.elim h9)
            replace F := F Wκ19 Mκ19
            refine y_i (r20 = (0 : Int32)) dX12_given_85 (t := 92) rfl rfl (fun c9 => ?_) (fun c9 => ?_)
            · replace F := F.1 c9
              refine y_ic dX12_given_92 zi_0 ?_
              exact y_ri Wκ19 dX12_given_93 rfl (nb_nar nb_0) F
            · replace F := F.2 c9
              refine y_ic dX12_given_88 zi_1 ?_
              refine y_goto dX12_given_89 (t := 93) rfl ?_
              exact y_ri Wκ19 dX12_given_93 rfl (nb_nar nb_1) F
        · replace F := F.2 c9
          exact y_thr Wκ11 (dxat_yesw dX12_given_54 dX12_given_57 dX12_given_58 dX12_given_61 dX12_given_64 rfl rfl rfl) (Nat.le_of_ble_eq_true rfl) (Nat.le_of_ble_eq_true rfl) (fun κ9 e9 => Or.inr ⟨_, rfl, F κ9 e9⟩)
  · replace F := F.2 c9
    exact y_thr W (dxat_yesw dX12_given_10 dX12_given_13 dX12_given_14 dX12_given_17 dX12_given_20 rfl rfl rfl) (Nat.le_of_ble_eq_true rfl) (Nat.le_of_ble_eq_true rfl) (fun κ9 e9 => Or.inr ⟨_, rfl, F κ9 e9⟩)

theorem Ch_given_run {C : zC} {n0 : Nat} {Q : Int32 → zS → Prop} {X : zXp} {a0 : Nat} {a1 : Int32} {a2 : Int32} {a3 : Int32} {κ : zS} (W : zW C n0 κ) (Ta0 : zT κ a0 = 15) (F : w_Ch_given_0 C (zn κ) Q X a0 a1 a2 a3 κ) : zRun C 9 mCh_given [.ref a0, .int a1, .int a2, .int a3] κ (oI Q X) := z_run (m_ent _ 0) (t_Ch_given_0 (W.lo (Nat.le_trans W.1.2.1 W.1.2.2) (Nat.le_refl _)) Ta0 F)

