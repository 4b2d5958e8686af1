/-! methods of the class: So_cell, So_fillRow, So_shrink, So_eliminate, So_putBack, So_keepPart, So_keep, So_visitRing -/
theorem dX9_cell_0 : decode cX9_cell 0 = .ok (.aload_n 0, 1) := by decide +kernel
theorem dX9_cell_1 : decode cX9_cell 1 = .ok (.getfield 64, 3) := by decide +kernel
theorem dX9_cell_4 : decode cX9_cell 4 = .ok (.arraylength, 1) := by decide +kernel
theorem dX9_cell_5 : decode cX9_cell 5 = .ok (.ifCond .ne 13, 3) := by decide +kernel
theorem dX9_cell_8 : decode cX9_cell 8 = .ok (.aload_n 0, 1) := by decide +kernel
theorem dX9_cell_9 : decode cX9_cell 9 = .ok (.sipush 1056, 3) := by decide +kernel
theorem dX9_cell_12 : decode cX9_cell 12 = .ok (.anewarray 35, 3) := by decide +kernel
theorem dX9_cell_15 : decode cX9_cell 15 = .ok (.putfield 64, 3) := by decide +kernel
theorem dX9_cell_18 : decode cX9_cell 18 = .ok (.iload_n 1, 1) := by decide +kernel
theorem dX9_cell_19 : decode cX9_cell 19 = .ok (.bipush 33, 2) := by decide +kernel
theorem dX9_cell_21 : decode cX9_cell 21 = .ok (.imul, 1) := by decide +kernel
theorem dX9_cell_22 : decode cX9_cell 22 = .ok (.iload_n 2, 1) := by decide +kernel
theorem dX9_cell_23 : decode cX9_cell 23 = .ok (.iadd, 1) := by decide +kernel
theorem dX9_cell_24 : decode cX9_cell 24 = .ok (.istore_n 3, 1) := by decide +kernel
theorem dX9_cell_25 : decode cX9_cell 25 = .ok (.aload_n 0, 1) := by decide +kernel
theorem dX9_cell_26 : decode cX9_cell 26 = .ok (.getfield 64, 3) := by decide +kernel
theorem dX9_cell_29 : decode cX9_cell 29 = .ok (.iload_n 3, 1) := by decide +kernel
theorem dX9_cell_30 : decode cX9_cell 30 = .ok (.aaload, 1) := by decide +kernel
theorem dX9_cell_31 : decode cX9_cell 31 = .ok (.ifnonnull 18, 3) := by decide +kernel
theorem dX9_cell_34 : decode cX9_cell 34 = .ok (.aload_n 0, 1) := by decide +kernel
theorem dX9_cell_35 : decode cX9_cell 35 = .ok (.getfield 64, 3) := by decide +kernel
theorem dX9_cell_38 : decode cX9_cell 38 = .ok (.iload_n 3, 1) := by decide +kernel
theorem dX9_cell_39 : decode cX9_cell 39 = .ok (.new 35, 3) := by decide +kernel
theorem dX9_cell_42 : decode cX9_cell 42 = .ok (.dup, 1) := by decide +kernel
theorem dX9_cell_43 : decode cX9_cell 43 = .ok (.bipush 25, 2) := by decide +kernel
theorem dX9_cell_45 : decode cX9_cell 45 = .ok (.invokespecial 37, 3) := by decide +kernel
theorem dX9_cell_48 : decode cX9_cell 48 = .ok (.aastore, 1) := by decide +kernel
theorem dX9_cell_49 : decode cX9_cell 49 = .ok (.aload_n 0, 1) := by decide +kernel
theorem dX9_cell_50 : decode cX9_cell 50 = .ok (.getfield 64, 3) := by decide +kernel
theorem dX9_cell_53 : decode cX9_cell 53 = .ok (.iload_n 3, 1) := by decide +kernel
theorem dX9_cell_54 : decode cX9_cell 54 = .ok (.aaload, 1) := by decide +kernel
theorem dX9_cell_55 : decode cX9_cell 55 = .ok (.areturn, 1) := by decide +kernel
def w_So_cell_49 (C : zC) (n0 : Nat) (Q : Nat → zS → Prop)  (a0 : Nat) (a3 : Int32) (κ : zS) : Prop :=
  inb a3 (zN κ (zR κ soCells a0)) ∧
  ∃ u1, (zQ κ (zR κ soCells a0) (a3).toNatClampNeg) = some u1 ∧
  Q u1 κ
theorem t_So_cell_49 {C : zC} {n0 : Nat} {Q : Nat → zS → Prop}   {a0 : Nat} {a3 : Int32} {κ : zS} (W : zW C n0 κ) (Ta0 : zT κ a0 = 12) (F : w_So_cell_49 C n0 Q  a0 a3 κ) : zG C n0 2 mSo_cell 49 [some (.ref a0), none, none, some (.int a3)] [] κ (oR 8 Q noX) := by
  unfold w_So_cell_49 at F
  refine y_aln dX9_cell_49 rfl ?_
  refine gf_X9_64 W dX9_cell_50 rfl Ta0 ?_
  refine y_iln dX9_cell_53 rfl ?_
  refine y_qld (t := 4) dX9_cell_54 (ty_soCells W Ta0) (by decide) F.1 ?_
  replace F := F.2
  obtain ⟨u1, Eu1, F⟩ := F
  have Tu1 : zT κ u1 = 8 := (fun v hv => W.2.2.2.1 _ _ v (ty_soCells W Ta0) hv) u1 Eu1
  refine y_uq0 Eu1 ?_
  exact y_ro W dX9_cell_55 rfl Tu1 F

def w_So_cell_18 (C : zC) (n0 : Nat) (Q : Nat → zS → Prop)  (a0 : Nat) (a1 : Int32) (a2 : Int32) (κ : zS) : Prop :=
  ∀ v3_1 : Int32, v3_1 = ((a1 * (33 : Int32)) + a2) →
  inb v3_1 (zN κ (zR κ soCells a0)) ∧
  (∀ u2, (zQ κ (zR κ soCells a0) (v3_1).toNatClampNeg) = some u2 →
    w_So_cell_49 C n0 Q  a0 v3_1 κ) ∧
  ((zQ κ (zR κ soCells a0) (v3_1).toNatClampNeg) = none →
    ∀ κ3, κ3 = noo κ 8 →
    ∀ _ : zW C n0 κ3,
    ∀ _ : zT κ3 (zn κ) = 48,
    zRun C 1 mNu_init [.ref (zn κ), .int (25 : Int32)] κ3 (oV (fun κ5 =>
      ∀ _ : zW C n0 κ5,
      ∀ _ : zM (zn κ3) κ3 κ5,
      zOk κ5 (zn κ) 8 ∧
      ∀ κ8, κ8 = nff κ5 (zn κ) →
      ∀ _ : zW C n0 κ8,
      inb v3_1 (zN κ8 (zR κ soCells a0)) ∧
      ∀ κ10, κ10 = uq κ8 (zR κ soCells a0) (v3_1).toNatClampNeg (some (zn κ)) →
      ∀ _ : zW C n0 κ10,
      w_So_cell_49 C n0 Q  a0 v3_1 κ10) noX))
theorem t_So_cell_18 {C : zC} {n0 : Nat} {Q : Nat → zS → Prop}   {a0 : Nat} {a1 : Int32} {a2 : Int32} {κ : zS} (W : zW C n0 κ) (Ta0 : zT κ a0 = 12) (F : w_So_cell_18 C n0 Q  a0 a1 a2 κ) : zG C n0 2 mSo_cell 18 [some (.ref a0), some (.int a1), some (.int a2), none] [] κ (oR 8 Q noX) := by
  unfold w_So_cell_18 at F
  refine y_iln dX9_cell_18 rfl ?_
  refine y_bi1 dX9_cell_19 zb_33 ?_
  refine y_imul dX9_cell_21 ?_
  refine y_iln dX9_cell_22 rfl ?_
  refine y_iadd dX9_cell_23 ?_
  refine y_isnb dX9_cell_24 (Nat.le_of_ble_eq_true rfl) (fun v3_1 ev3_1 => ?_)
  replace F := F v3_1 ev3_1
  show zG _ _ _ _ _ [some (.ref a0), some (.int a1), some (.int a2), some (.int v3_1)] _ _ _
  refine y_aln dX9_cell_25 rfl ?_
  refine gf_X9_64 W dX9_cell_26 rfl Ta0 ?_
  refine y_iln dX9_cell_29 rfl ?_
  refine y_qld (t := 4) dX9_cell_30 (ty_soCells W Ta0) (by decide) F.1 ?_
  replace F := F.2
  refine y_nn dX9_cell_31 (t := 49) rfl (fun u2 c9 => ?_) (fun c9 => ?_)
  · replace F := F.1 u2 c9
    exact y_k (t_So_cell_49  W Ta0 F) ⟨rfl, rfl, trivial⟩
  · replace F := F.2 c9
    refine y_aln dX9_cell_34 rfl ?_
    refine gf_X9_64 W dX9_cell_35 rfl Ta0 ?_
    refine y_iln dX9_cell_38 rfl ?_
    refine y_newo W dX9_cell_39 rfl znw_X9_35 znx_X9_35 (by decide) (fun κ3 eκ3 => ?_)
    replace F := F κ3 eκ3
    have Wκ3 : zW C n0 κ3 := zW_no W eκ3
    have Mκ3 : zM (zn κ) κ κ3 := zM_no (W.lo (Nat.le_trans W.1.2.1 W.1.2.2) (Nat.le_refl _)) eκ3
    replace F := F Wκ3
    have g4 : zT κ3 (zn κ) = 48 := by rw [eκ3]; exact if_pos rfl
    refine y_dup dX9_cell_42 rfl ?_
    refine y_bi1 dX9_cell_43 zb_25 ?_
    replace F := F g4
    refine k_X9_37 Wκ3 dX9_cell_45 rfl (Nat.le_of_ble_eq_true rfl) (Nat.le_of_ble_eq_true rfl)  F (fun  κ5 Wκ5 Mκ5 F => ?_) (fun _ _ h9 => False.elim h9)
    replace F := F Wκ5 Mκ5
    have h9 := (ztm Wκ3 Mκ5 g4)
    have Rκ8 := h9
    refine y_flip (ci := 8) Rκ8 (by decide) (Nat.le_trans W.1.2.2 (Nat.le_refl _)) (fun κ8 eκ8 => ?_)
    have Wκ8 : zW C n0 κ8 := zW_nf Wκ5 eκ8 Rκ8 (by decide) (by decide) F.1
    replace F := F.2 κ8 eκ8 Wκ8
    have Gκ8 : zT κ8 (zn κ) = 8 := zth eκ8 Rκ8 (by decide)
    have h11 := (ztf eκ8 Rκ8 (by decide) (ztm Wκ3 Mκ5 (ztm W Mκ3 (ty_soCells W Ta0))) (by decide))
    refine y_qst (t := 4) Wκ8 dX9_cell_48 h11 (by decide) Gκ8 F.1 (fun κ10 eκ10 => ?_)
    replace F := F.2 κ10 eκ10
    have Wκ10 : zW C n0 κ10 := zW_uq Wκ8 eκ10 (fun _ => Gκ8) (fun h => absurd (h.symm.trans h11) (by decide))
    have Mκ10 : zM (zn κ8) κ8 κ10 := by rw [eκ10]; exact zM.of rfl rfl rfl
    replace F := F Wκ10
    have h12 := (ztm Wκ8 Mκ10 (ztf eκ8 Rκ8 (by decide) (ztm Wκ3 Mκ5 (ztm W Mκ3 Ta0)) (by decide)))
    exact y_k (t_So_cell_49  Wκ10 h12 F) ⟨rfl, rfl, trivial⟩

def w_So_cell_0 (C : zC) (n0 : Nat) (Q : Nat → zS → Prop)  (a0 : Nat) (a1 : Int32) (a2 : Int32) (κ : zS) : Prop :=
  (¬ (Int32.ofNat (zN κ (zR κ soCells a0))) = (0 : Int32) →
    w_So_cell_18 C n0 Q  a0 a1 a2 κ) ∧
  ((Int32.ofNat (zN κ (zR κ soCells a0))) = (0 : Int32) →
    nsz (1056 : Int32) ∧
    ∀ κ1, κ1 = na κ 24 ((1056 : Int32)).toNatClampNeg →
    ∀ _ : zW C n0 κ1,
    zO κ1 (zn κ) = (0, 0) ∧
    ∀ κ4, κ4 = uo κ1 soCells a0 (zn κ) →
    ∀ _ : zW C n0 κ4,
    w_So_cell_18 C n0 Q  a0 a1 a2 κ4)
theorem t_So_cell_0 {C : zC} {n0 : Nat} {Q : Nat → zS → Prop}   {a0 : Nat} {a1 : Int32} {a2 : Int32} {κ : zS} (W : zW C n0 κ) (Ta0 : zT κ a0 = 12) (F : w_So_cell_0 C n0 Q  a0 a1 a2 κ) : zG C n0 2 mSo_cell 0 [some (.ref a0), some (.int a1), some (.int a2), none] [] κ (oR 8 Q noX) := by
  unfold w_So_cell_0 at F
  refine y_aln dX9_cell_0 rfl ?_
  refine gf_X9_64 W dX9_cell_1 rfl Ta0 ?_
  refine y_alen (t := 4) dX9_cell_4 (ty_soCells W Ta0) (by decide) ?_
  refine y_in ((Int32.ofNat (zN κ (zR κ soCells a0))) = (0 : Int32)) dX9_cell_5 (t := 18) rfl rfl (fun c9 => ?_) (fun c9 => ?_)
  · replace F := F.1 c9
    exact y_k (t_So_cell_18  W Ta0 F) ⟨rfl, rfl, rfl, trivial⟩
  · replace F := F.2 c9
    refine y_aln dX9_cell_8 rfl ?_
    refine y_si dX9_cell_9 zs_1056 ?_
    have b2 := F.1
    refine y_newq (t := 4) W dX9_cell_12 rfl zan_X9_35 (by decide) b2 (fun κ1 eκ1 => ?_)
    replace F := F.2 κ1 eκ1
    have Wκ1 : zW C n0 κ1 := zW_na W eκ1 (by decide) (by decide) b2.2
    have Mκ1 : zM (zn κ) κ κ1 := zM_na (W.lo (Nat.le_trans W.1.2.1 W.1.2.2) (Nat.le_refl _)) eκ1
    replace F := F Wκ1
    have g3 : zT κ1 (zn κ) = 24 := by rw [eκ1]; exact if_pos rfl
    have b5 := F.1
    replace F := F.2
    have h6 := (ztm W Mκ1 Ta0)
    refine pf_X9_64 Wκ1 dX9_cell_15 rfl (Or.inl h6) g3 (fun κ4 eκ4 => ?_)
    replace F := F κ4 eκ4
    have Wκ4 : zW C n0 κ4 := zW_uo Wκ1 eκ4 (fun t ht => by cases ht; exact g3) b5
    have Mκ4 : zM (zn κ1) κ1 κ4 := by rw [eκ4]; exact zM.of rfl rfl rfl
    replace F := F Wκ4
    have h7 := (ztm Wκ1 Mκ4 h6)
    exact y_k (t_So_cell_18  Wκ4 h7 F) ⟨rfl, rfl, rfl, trivial⟩

theorem So_cell_run {C : zC} {n0 : Nat} {Q : Nat → zS → Prop} {a0 : Nat} {a1 : Int32} {a2 : Int32} {κ : zS} (W : zW C n0 κ) (Ta0 : zT κ a0 = 12) (F : w_So_cell_0 C (zn κ) Q a0 a1 a2 κ) : zRun C 2 mSo_cell [.ref a0, .int a1, .int a2] κ (oR 8 Q noX) := z_run (m_ent _ 1) (t_So_cell_0 (W.lo (Nat.le_trans W.1.2.1 W.1.2.2) (Nat.le_refl _)) Ta0 F)

theorem dX9_fillRow_0 : decode cX9_fillRow 0 = .ok (.iconst 0, 1) := by decide +kernel
theorem dX9_fillRow_1 : decode cX9_fillRow 1 = .ok (.istore 4, 2) := by decide +kernel
theorem dX9_fillRow_3 : decode cX9_fillRow 3 = .ok (.iload 4, 2) := by decide +kernel
theorem dX9_fillRow_5 : decode cX9_fillRow 5 = .ok (.iload_n 3, 1) := by decide +kernel
theorem dX9_fillRow_6 : decode cX9_fillRow 6 = .ok (.if_icmp .ge 38, 3) := by decide +kernel
theorem dX9_fillRow_9 : decode cX9_fillRow 9 = .ok (.aload_n 0, 1) := by decide +kernel
theorem dX9_fillRow_10 : decode cX9_fillRow 10 = .ok (.iload_n 2, 1) := by decide +kernel
theorem dX9_fillRow_11 : decode cX9_fillRow 11 = .ok (.iload 4, 2) := by decide +kernel
theorem dX9_fillRow_13 : decode cX9_fillRow 13 = .ok (.invokevirtual 246, 3) := by decide +kernel
theorem dX9_fillRow_16 : decode cX9_fillRow 16 = .ok (.iload 4, 2) := by decide +kernel
theorem dX9_fillRow_18 : decode cX9_fillRow 18 = .ok (.iload_n 2, 1) := by decide +kernel
theorem dX9_fillRow_19 : decode cX9_fillRow 19 = .ok (.if_icmp .ne 15, 3) := by decide +kernel
theorem dX9_fillRow_22 : decode cX9_fillRow 22 = .ok (.aload_n 0, 1) := by decide +kernel
theorem dX9_fillRow_23 : decode cX9_fillRow 23 = .ok (.getfield 9, 3) := by decide +kernel
theorem dX9_fillRow_26 : decode cX9_fillRow 26 = .ok (.iload_n 1, 1) := by decide +kernel
theorem dX9_fillRow_27 : decode cX9_fillRow 27 = .ok (.invokevirtual 136, 3) := by decide +kernel
theorem dX9_fillRow_30 : decode cX9_fillRow 30 = .ok (.i2l, 1) := by decide +kernel
theorem dX9_fillRow_31 : decode cX9_fillRow 31 = .ok (.goto 4, 3) := by decide +kernel
theorem dX9_fillRow_34 : decode cX9_fillRow 34 = .ok (.lconst 0, 1) := by decide +kernel
theorem dX9_fillRow_35 : decode cX9_fillRow 35 = .ok (.invokevirtual 191, 3) := by decide +kernel
theorem dX9_fillRow_38 : decode cX9_fillRow 38 = .ok (.iinc 4 1, 3) := by decide +kernel
theorem dX9_fillRow_41 : decode cX9_fillRow 41 = .ok (.goto (-38), 3) := by decide +kernel
theorem dX9_fillRow_44 : decode cX9_fillRow 44 = .ok (.aload_n 0, 1) := by decide +kernel
theorem dX9_fillRow_45 : decode cX9_fillRow 45 = .ok (.getfield 25, 3) := by decide +kernel
theorem dX9_fillRow_48 : decode cX9_fillRow 48 = .ok (.getfield 167, 3) := by decide +kernel
theorem dX9_fillRow_51 : decode cX9_fillRow 51 = .ok (.iload_n 1, 1) := by decide +kernel
theorem dX9_fillRow_52 : decode cX9_fillRow 52 = .ok (.iaload, 1) := by decide +kernel
theorem dX9_fillRow_53 : decode cX9_fillRow 53 = .ok (.istore 4, 2) := by decide +kernel
theorem dX9_fillRow_55 : decode cX9_fillRow 55 = .ok (.iload 4, 2) := by decide +kernel
theorem dX9_fillRow_57 : decode cX9_fillRow 57 = .ok (.aload_n 0, 1) := by decide +kernel
theorem dX9_fillRow_58 : decode cX9_fillRow 58 = .ok (.getfield 25, 3) := by decide +kernel
theorem dX9_fillRow_61 : decode cX9_fillRow 61 = .ok (.getfield 167, 3) := by decide +kernel
theorem dX9_fillRow_64 : decode cX9_fillRow 64 = .ok (.iload_n 1, 1) := by decide +kernel
theorem dX9_fillRow_65 : decode cX9_fillRow 65 = .ok (.iconst 1, 1) := by decide +kernel
theorem dX9_fillRow_66 : decode cX9_fillRow 66 = .ok (.iadd, 1) := by decide +kernel
theorem dX9_fillRow_67 : decode cX9_fillRow 67 = .ok (.iaload, 1) := by decide +kernel
theorem dX9_fillRow_68 : decode cX9_fillRow 68 = .ok (.if_icmp .ge 102, 3) := by decide +kernel
theorem dX9_fillRow_71 : decode cX9_fillRow 71 = .ok (.aload_n 0, 1) := by decide +kernel
theorem dX9_fillRow_72 : decode cX9_fillRow 72 = .ok (.getfield 25, 3) := by decide +kernel
theorem dX9_fillRow_75 : decode cX9_fillRow 75 = .ok (.getfield 158, 3) := by decide +kernel
theorem dX9_fillRow_78 : decode cX9_fillRow 78 = .ok (.iload 4, 2) := by decide +kernel
theorem dX9_fillRow_80 : decode cX9_fillRow 80 = .ok (.iaload, 1) := by decide +kernel
theorem dX9_fillRow_81 : decode cX9_fillRow 81 = .ok (.istore 5, 2) := by decide +kernel
theorem dX9_fillRow_83 : decode cX9_fillRow 83 = .ok (.aload_n 0, 1) := by decide +kernel
theorem dX9_fillRow_84 : decode cX9_fillRow 84 = .ok (.getfield 25, 3) := by decide +kernel
theorem dX9_fillRow_87 : decode cX9_fillRow 87 = .ok (.getfield 161, 3) := by decide +kernel
theorem dX9_fillRow_90 : decode cX9_fillRow 90 = .ok (.iload 5, 2) := by decide +kernel
theorem dX9_fillRow_92 : decode cX9_fillRow 92 = .ok (.iaload, 1) := by decide +kernel
theorem dX9_fillRow_93 : decode cX9_fillRow 93 = .ok (.aload_n 0, 1) := by decide +kernel
theorem dX9_fillRow_94 : decode cX9_fillRow 94 = .ok (.getfield 25, 3) := by decide +kernel
theorem dX9_fillRow_97 : decode cX9_fillRow 97 = .ok (.getfield 161, 3) := by decide +kernel
theorem dX9_fillRow_100 : decode cX9_fillRow 100 = .ok (.iload_n 1, 1) := by decide +kernel
theorem dX9_fillRow_101 : decode cX9_fillRow 101 = .ok (.iaload, 1) := by decide +kernel
theorem dX9_fillRow_102 : decode cX9_fillRow 102 = .ok (.if_icmp .ne 62, 3) := by decide +kernel
theorem dX9_fillRow_105 : decode cX9_fillRow 105 = .ok (.aload_n 0, 1) := by decide +kernel
theorem dX9_fillRow_106 : decode cX9_fillRow 106 = .ok (.getfield 9, 3) := by decide +kernel
theorem dX9_fillRow_109 : decode cX9_fillRow 109 = .ok (.getfield 174, 3) := by decide +kernel
theorem dX9_fillRow_112 : decode cX9_fillRow 112 = .ok (.aload_n 0, 1) := by decide +kernel
theorem dX9_fillRow_113 : decode cX9_fillRow 113 = .ok (.getfield 25, 3) := by decide +kernel
theorem dX9_fillRow_116 : decode cX9_fillRow 116 = .ok (.getfield 177, 3) := by decide +kernel
theorem dX9_fillRow_119 : decode cX9_fillRow 119 = .ok (.iload 4, 2) := by decide +kernel
theorem dX9_fillRow_121 : decode cX9_fillRow 121 = .ok (.iaload, 1) := by decide +kernel
theorem dX9_fillRow_122 : decode cX9_fillRow 122 = .ok (.iaload, 1) := by decide +kernel
theorem dX9_fillRow_123 : decode cX9_fillRow 123 = .ok (.istore 6, 2) := by decide +kernel
theorem dX9_fillRow_125 : decode cX9_fillRow 125 = .ok (.aload_n 0, 1) := by decide +kernel
theorem dX9_fillRow_126 : decode cX9_fillRow 126 = .ok (.iload_n 2, 1) := by decide +kernel
theorem dX9_fillRow_127 : decode cX9_fillRow 127 = .ok (.aload_n 0, 1) := by decide +kernel
theorem dX9_fillRow_128 : decode cX9_fillRow 128 = .ok (.getfield 68, 3) := by decide +kernel
theorem dX9_fillRow_131 : decode cX9_fillRow 131 = .ok (.iload 5, 2) := by decide +kernel
theorem dX9_fillRow_133 : decode cX9_fillRow 133 = .ok (.iaload, 1) := by decide +kernel
theorem dX9_fillRow_134 : decode cX9_fillRow 134 = .ok (.invokevirtual 246, 3) := by decide +kernel
theorem dX9_fillRow_137 : decode cX9_fillRow 137 = .ok (.iload 5, 2) := by decide +kernel
theorem dX9_fillRow_139 : decode cX9_fillRow 139 = .ok (.iload_n 1, 1) := by decide +kernel
theorem dX9_fillRow_140 : decode cX9_fillRow 140 = .ok (.if_icmp .ne 18, 3) := by decide +kernel
theorem dX9_fillRow_143 : decode cX9_fillRow 143 = .ok (.aload_n 0, 1) := by decide +kernel
theorem dX9_fillRow_144 : decode cX9_fillRow 144 = .ok (.getfield 9, 3) := by decide +kernel
theorem dX9_fillRow_147 : decode cX9_fillRow 147 = .ok (.iload_n 1, 1) := by decide +kernel
theorem dX9_fillRow_148 : decode cX9_fillRow 148 = .ok (.invokevirtual 136, 3) := by decide +kernel
theorem dX9_fillRow_151 : decode cX9_fillRow 151 = .ok (.iload 6, 2) := by decide +kernel
theorem dX9_fillRow_153 : decode cX9_fillRow 153 = .ok (.isub, 1) := by decide +kernel
theorem dX9_fillRow_154 : decode cX9_fillRow 154 = .ok (.i2l, 1) := by decide +kernel
theorem dX9_fillRow_155 : decode cX9_fillRow 155 = .ok (.goto 6, 3) := by decide +kernel
theorem dX9_fillRow_158 : decode cX9_fillRow 158 = .ok (.iload 6, 2) := by decide +kernel
theorem dX9_fillRow_160 : decode cX9_fillRow 160 = .ok (.i2l, 1) := by decide +kernel
theorem dX9_fillRow_161 : decode cX9_fillRow 161 = .ok (.invokevirtual 191, 3) := by decide +kernel
theorem dX9_fillRow_164 : decode cX9_fillRow 164 = .ok (.iinc 4 1, 3) := by decide +kernel
theorem dX9_fillRow_167 : decode cX9_fillRow 167 = .ok (.goto (-112), 3) := by decide +kernel
theorem dX9_fillRow_170 : decode cX9_fillRow 170 = .ok (.return_, 1) := by decide +kernel
def w_So_fillRow_35 (C : zC) (n0 : Nat) (Q : zS → Prop) (B3 : Nat → Int32 → Int32 → Int32 → Int32 → zS → Prop) (a0 : Nat) (a1 : Int32) (a2 : Int32) (a3 : Int32) (a4 : Int32) (s0 : Nat) (s1 : Int64) (κ : zS) : Prop :=
  ∀ _ : zT κ s0 = 8,
  zRun C 0 mNu_put [.ref s0, .long s1] κ (oV (fun κ1 =>
    ∀ _ : zW C n0 κ1,
    ∀ _ : zM (zn κ) κ κ1,
    ∀ v4_4 : Int32, v4_4 = a4 + (1 : Int32) →
    B3 a0 a1 a2 a3 v4_4 κ1) noX)
theorem t_So_fillRow_35 {C : zC} {n0 : Nat} {Q : zS → Prop} {B3 : Nat → Int32 → Int32 → Int32 → Int32 → zS → Prop} (hB3 : ∀ a0' a1' a2' a3' a4' τ, zW C n0 τ → zT τ a0' = 12 → B3 a0' a1' a2' a3' a4' τ → zG C n0 3 mSo_fillRow 3 [some (.ref a0'), some (.int a1'), some (.int a2'), some (.int a3'), some (.int a4'), none, none] [] τ (oV Q noX)) {a0 : Nat} {a1 : Int32} {a2 : Int32} {a3 : Int32} {a4 : Int32} {s0 : Nat} {s1 : Int64} {κ : zS} (W : zW C n0 κ) (Ta0 : zT κ a0 = 12) (Ts0 : zT κ s0 = 8) (F : w_So_fillRow_35 C n0 Q B3 a0 a1 a2 a3 a4 s0 s1 κ) : zG C n0 3 mSo_fillRow 35 [some (.ref a0), some (.int a1), some (.int a2), some (.int a3), some (.int a4), none, none] [.long s1, .ref s0] κ (oV Q noX) := by
  unfold w_So_fillRow_35 at F
  replace F := F Ts0
  refine k_X9_191 W dX9_fillRow_35 rfl (Nat.le_of_ble_eq_true rfl) (Nat.le_of_ble_eq_true rfl) (Or.inl Ts0) F (fun  κ1 Wκ1 Mκ1 F => ?_) (fun _ _ h9 => False.elim h9)
  replace F := F Wκ1 Mκ1
  refine y_incb dX9_fillRow_38 zi_1 rfl (Nat.le_of_ble_eq_true rfl) (fun v4_4 ev4_4 => ?_)
  replace F := F v4_4 ev4_4
  show zG _ _ _ _ _ [some (.ref a0), some (.int a1), some (.int a2), some (.int a3), some (.int v4_4), none, none] _ _ _
  refine y_goto dX9_fillRow_41 (t := 3) rfl ?_
  have h5 := (ztm W Mκ1 Ta0)
  exact y_k (hB3 _ _ _ _ _ _ Wκ1 h5 F) ⟨rfl, rfl, rfl, rfl, rfl, trivial⟩

def w_So_fillRow_55 (C : zC) (n0 : Nat) (Q : zS → Prop)  (a0 : Nat) (a1 : Int32) (a2 : Int32) (a4 : Int32) (κ : zS) : Prop :=
  ∃ I : Nat → Nat → Int32 → Int32 → Int32 → zS → Prop, (∃ n, I n a0 a1 a2 a4 κ) ∧ ∀ n a0 a1 a2 a4 κ, zW C n0 κ → zT κ a0 = 12 → I n a0 a1 a2 a4 κ →
    inb (a1 + (1 : Int32)) (zN κ (zR κ weBackFirsts (zR κ soWeb a0))) ∧
    ((zA κ (zR κ weBackFirsts (zR κ soWeb a0)) ((a1 + (1 : Int32))).toNatClampNeg) ≤ a4 →
      Q κ) ∧
    (¬ (zA κ (zR κ weBackFirsts (zR κ soWeb a0)) ((a1 + (1 : Int32))).toNatClampNeg) ≤ a4 →
      inb a4 (zN κ (zR κ weSources (zR κ soWeb a0))) ∧
      ∀ v5_1 : Int32, v5_1 = (zA κ (zR κ weSources (zR κ soWeb a0)) (a4).toNatClampNeg) →
      inb v5_1 (zN κ (zR κ weKnotOf (zR κ soWeb a0))) ∧
      inb a1 (zN κ (zR κ weKnotOf (zR κ soWeb a0))) ∧
      (¬ (zA κ (zR κ weKnotOf (zR κ soWeb a0)) (v5_1).toNatClampNeg) = (zA κ (zR κ weKnotOf (zR κ soWeb a0)) (a1).toNatClampNeg) →
        ∀ v4_2 : Int32, v4_2 = a4 + (1 : Int32) →
        ∃ k < n, I k a0 a1 a2 v4_2 κ) ∧
      ((zA κ (zR κ weKnotOf (zR κ soWeb a0)) (v5_1).toNatClampNeg) = (zA κ (zR κ weKnotOf (zR κ soWeb a0)) (a1).toNatClampNeg) →
        inb a4 (zN κ (zR κ weEdges (zR κ soWeb a0))) ∧
        inb (zA κ (zR κ weEdges (zR κ soWeb a0)) (a4).toNatClampNeg) (zN κ (zR κ atWeights (zR κ soAtlas a0))) ∧
        ∀ v6_3 : Int32, v6_3 = (zA κ (zR κ atWeights (zR κ soAtlas a0)) ((zA κ (zR κ weEdges (zR κ soWeb a0)) (a4).toNatClampNeg)).toNatClampNeg) →
        inb v5_1 (zN κ (zR κ soRows a0)) ∧
        ∀ _ : zT κ a0 = 12,
        zRun C 2 mSo_cell [.ref a0, .int a2, .int (zA κ (zR κ soRows a0) (v5_1).toNatClampNeg)] κ (oR 8 (fun r5 κ4 =>
          ∀ _ : zW C n0 κ4,
          ∀ _ : zM (zn κ) κ κ4,
          ∀ _ : zT κ4 r5 = 8,
          (¬ v5_1 = a1 →
            ∀ _ : zT κ4 r5 = 8,
            zRun C 0 mNu_put [.ref r5, .long (Int32.toInt64 v6_3)] κ4 (oV (fun κ7 =>
              ∀ _ : zW C n0 κ7,
              ∀ _ : zM (zn κ4) κ4 κ7,
              ∀ v4_10 : Int32, v4_10 = a4 + (1 : Int32) →
              ∃ k < n, I k a0 a1 a2 v4_10 κ7) noX)) ∧
          (v5_1 = a1 →
            ∀ _ : zT κ4 (zR κ4 soAtlas a0) = 3,
            zRun C 0 mAt_divisorOf [.ref (zR κ4 soAtlas a0), .int a1] κ4 (oI (fun r14 κ13 =>
              ∀ _ : zW C n0 κ13,
              ∀ _ : zM (zn κ4) κ4 κ13,
              ∀ _ : zT κ13 r5 = 8,
              zRun C 0 mNu_put [.ref r5, .long (Int32.toInt64 (r14 - v6_3))] κ13 (oV (fun κ16 =>
                ∀ _ : zW C n0 κ16,
                ∀ _ : zM (zn κ13) κ13 κ16,
                ∀ v4_20 : Int32, v4_20 = a4 + (1 : Int32) →
                ∃ k < n, I k a0 a1 a2 v4_20 κ16) noX)) noX))) noX)))
theorem t_So_fillRow_55 {C : zC} {n0 : Nat} {Q : zS → Prop}   {a0 : Nat} {a1 : Int32} {a2 : Int32} {a4 : Int32} {κ : zS} (W : zW C n0 κ) (Ta0 : zT κ a0 = 12) (F : w_So_fillRow_55 C n0 Q  a0 a1 a2 a4 κ) : zG C n0 3 mSo_fillRow 55 [some (.ref a0), some (.int a1), some (.int a2), none, some (.int a4), none, none] [] κ (oV Q noX) := by
  obtain ⟨I, ⟨m0, hI0⟩, F0⟩ := F
  have key : ∀ n a0 a1 a2 a4 κ, zW C n0 κ → zT κ a0 = 12 → I n a0 a1 a2 a4 κ → zG C n0 3 mSo_fillRow 55 [some (.ref a0), some (.int a1), some (.int a2), none, some (.int a4), none, none] [] κ (oV Q noX) := by
    intro n
    induction n using Nat.strongRecOn with
    | _ n ih =>
      intro a0 a1 a2 a4 κ W Ta0 hI
      have F := F0 n a0 a1 a2 a4 κ W Ta0 hI
      clear hI hI0
      refine y_il dX9_fillRow_55 rfl ?_
      refine y_aln dX9_fillRow_57 rfl ?_
      refine gf_X9_25 W dX9_fillRow_58 rfl Ta0 ?_
      refine gf_X9_167 W dX9_fillRow_61 rfl (ty_soWeb W Ta0) ?_
      refine y_iln dX9_fillRow_64 rfl ?_
      refine y_ic dX9_fillRow_65 zi_1 ?_
      refine y_iadd dX9_fillRow_66 ?_
      refine y_ald dX9_fillRow_67 (ty_weBackFirsts W (ty_soWeb W Ta0)) F.1 ?_
      replace F := F.2
      refine y_ii ((zA κ (zR κ weBackFirsts (zR κ soWeb a0)) ((a1 + (1 : Int32))).toNatClampNeg) ≤ a4) dX9_fillRow_68 (t := 170) rfl rfl (fun c9 => ?_) (fun c9 => ?_)
      · replace F := F.1 c9
        exact y_rv W dX9_fillRow_170 rfl F
      · replace F := F.2 c9
        refine y_aln dX9_fillRow_71 rfl ?_
        refine gf_X9_25 W dX9_fillRow_72 rfl Ta0 ?_
        refine gf_X9_158 W dX9_fillRow_75 rfl (ty_soWeb W Ta0) ?_
        refine y_il dX9_fillRow_78 rfl ?_
        refine y_ald dX9_fillRow_80 (ty_weSources W (ty_soWeb W Ta0)) F.1 ?_
        replace F := F.2
        refine y_isb dX9_fillRow_81 (Nat.le_of_ble_eq_true rfl) (fun v5_1 ev5_1 => ?_)
        replace F := F v5_1 ev5_1
        show zG _ _ _ _ _ [some (.ref a0), some (.int a1), some (.int a2), none, some (.int a4), some (.int v5_1), none] _ _ _
        refine y_aln dX9_fillRow_83 rfl ?_
        refine gf_X9_25 W dX9_fillRow_84 rfl Ta0 ?_
        refine gf_X9_161 W dX9_fillRow_87 rfl (ty_soWeb W Ta0) ?_
        refine y_il dX9_fillRow_90 rfl ?_
        refine y_ald dX9_fillRow_92 (ty_weKnotOf W (ty_soWeb W Ta0)) F.1 ?_
        replace F := F.2
        refine y_aln dX9_fillRow_93 rfl ?_
        refine gf_X9_25 W dX9_fillRow_94 rfl Ta0 ?_
        refine gf_X9_161 W dX9_fillRow_97 rfl (ty_soWeb W Ta0) ?_
        refine y_iln dX9_fillRow_100 rfl ?_
        refine y_ald dX9_fillRow_101 (ty_weKnotOf W (ty_soWeb W Ta0)) F.1 ?_
        replace F := F.2
        refine y_iin ((zA κ (zR κ weKnotOf (zR κ soWeb a0)) (v5_1).toNatClampNeg) = (zA κ (zR κ weKnotOf (zR κ soWeb a0)) (a1).toNatClampNeg)) dX9_fillRow_102 (t := 164) rfl rfl (fun c9 => ?_) (fun c9 => ?_)
        · replace F := F.1 c9
          refine y_incb dX9_fillRow_164 zi_1 rfl (Nat.le_of_ble_eq_true rfl) (fun v4_2 ev4_2 => ?_)
          replace F := F v4_2 ev4_2
          show zG _ _ _ _ _ [some (.ref a0), some (.int a1), some (.int a2), none, some (.int v4_2), some (.int v5_1), none] _ _ _
          refine y_goto dX9_fillRow_167 (t := 55) rfl ?_
          obtain ⟨k, hk, hI⟩ := F
          exact y_k (ih k hk _ _ _ _ _ W Ta0 hI) ⟨rfl, rfl, rfl, rfl, trivial⟩
        · replace F := F.2 c9
          refine y_aln dX9_fillRow_105 rfl ?_
          refine gf_X9_9 W dX9_fillRow_106 rfl Ta0 ?_
          refine gf_X9_174 W dX9_fillRow_109 rfl (ty_soAtlas W Ta0) ?_
          refine y_aln dX9_fillRow_112 rfl ?_
          refine gf_X9_25 W dX9_fillRow_113 rfl Ta0 ?_
          refine gf_X9_177 W dX9_fillRow_116 rfl (ty_soWeb W Ta0) ?_
          refine y_il dX9_fillRow_119 rfl ?_
          refine y_ald dX9_fillRow_121 (ty_weEdges W (ty_soWeb W Ta0)) F.1 ?_
          replace F := F.2
          refine y_ald dX9_fillRow_122 (ty_atWeights W (ty_soAtlas W Ta0)) F.1 ?_
          replace F := F.2
          refine y_isb dX9_fillRow_123 (Nat.le_of_ble_eq_true rfl) (fun v6_3 ev6_3 => ?_)
          replace F := F v6_3 ev6_3
          show zG _ _ _ _ _ [some (.ref a0), some (.int a1), some (.int a2), none, some (.int a4), some (.int v5_1), some (.int v6_3)] _ _ _
          refine y_aln dX9_fillRow_125 rfl ?_
          refine y_iln dX9_fillRow_126 rfl ?_
          refine y_aln dX9_fillRow_127 rfl ?_
          refine gf_X9_68 W dX9_fillRow_128 rfl Ta0 ?_
          refine y_il dX9_fillRow_131 rfl ?_
          refine y_ald dX9_fillRow_133 (ty_soRows W Ta0) F.1 ?_
          replace F := F.2
          replace F := F Ta0
          refine k_X9_246 W dX9_fillRow_134 rfl (Nat.le_of_ble_eq_true rfl) (Nat.le_of_ble_eq_true rfl) (Or.inl Ta0) F (fun r5 κ4 Wκ4 Mκ4 g6 F => ?_) (fun _ _ h9 => False.elim h9)
          replace F := F Wκ4 Mκ4 g6
          refine y_il dX9_fillRow_137 rfl ?_
          refine y_iln dX9_fillRow_139 rfl ?_
          refine y_iin (v5_1 = a1) dX9_fillRow_140 (t := 158) rfl rfl (fun c9 => ?_) (fun c9 => ?_)
          · replace F := F.1 c9
            refine y_il dX9_fillRow_158 rfl ?_
            refine y_i2l dX9_fillRow_160 ?_
            replace F := F g6
            refine k_X9_191 Wκ4 dX9_fillRow_161 rfl (Nat.le_of_ble_eq_true rfl) (Nat.le_of_ble_eq_true rfl) (Or.inl g6) F (fun  κ7 Wκ7 Mκ7 F => ?_) (fun _ _ h9 => False.elim h9)
            replace F := F Wκ7 Mκ7
            refine y_incb dX9_fillRow_164 zi_1 rfl (Nat.le_of_ble_eq_true rfl) (fun v4_10 ev4_10 => ?_)
            replace F := F v4_10 ev4_10
            show zG _ _ _ _ _ [some (.ref a0), some (.int a1), some (.int a2), none, some (.int v4_10), some (.int v5_1), some (.int v6_3)] _ _ _
            refine y_goto dX9_fillRow_167 (t := 55) rfl ?_
            have h11 := (ztm Wκ4 Mκ7 (ztm W Mκ4 Ta0))
            obtain ⟨k, hk, hI⟩ := F
            exact y_k (ih k hk _ _ _ _ _ Wκ7 h11 hI) ⟨rfl, rfl, rfl, rfl, trivial⟩
          · replace F := F.2 c9
            refine y_aln dX9_fillRow_143 rfl ?_
            have h12 := (ztm W Mκ4 Ta0)
            refine gf_X9_9 Wκ4 dX9_fillRow_144 rfl h12 ?_
            refine y_iln dX9_fillRow_147 rfl ?_
            replace F := F (ty_soAtlas Wκ4 h12)
            refine k_X9_136 Wκ4 dX9_fillRow_148 rfl (Nat.le_of_ble_eq_true rfl) (Nat.le_of_ble_eq_true rfl) (Or.inl (ty_soAtlas Wκ4 h12)) F (fun r14 κ13 Wκ13 Mκ13 F => ?_) (fun _ _ h9 => False.elim h9)
            replace F := F Wκ13 Mκ13
            refine y_il dX9_fillRow_151 rfl ?_
            refine y_isub dX9_fillRow_153 ?_
            refine y_i2l dX9_fillRow_154 ?_
            refine y_goto dX9_fillRow_155 (t := 161) rfl ?_
            have h18 := (ztm Wκ4 Mκ13 g6)
            replace F := F h18
            refine k_X9_191 Wκ13 dX9_fillRow_161 rfl (Nat.le_of_ble_eq_true rfl) (Nat.le_of_ble_eq_true rfl) (Or.inl h18) F (fun  κ16 Wκ16 Mκ16 F => ?_) (fun _ _ h9 => False.elim h9)
            replace F := F Wκ16 Mκ16
            refine y_incb dX9_fillRow_164 zi_1 rfl (Nat.le_of_ble_eq_true rfl) (fun v4_20 ev4_20 => ?_)
            replace F := F v4_20 ev4_20
            show zG _ _ _ _ _ [some (.ref a0), some (.int a1), some (.int a2), none, some (.int v4_20), some (.int v5_1), some (.int v6_3)] _ _ _
            refine y_goto dX9_fillRow_167 (t := 55) rfl ?_
            have h21 := (ztm Wκ13 Mκ16 (ztm Wκ4 Mκ13 h12))
            obtain ⟨k, hk, hI⟩ := F
            exact y_k (ih k hk _ _ _ _ _ Wκ16 h21 hI) ⟨rfl, rfl, rfl, rfl, trivial⟩
  exact key m0 a0 a1 a2 a4 κ W Ta0 hI0

def w_So_fillRow_3 (C : zC) (n0 : Nat) (Q : zS → Prop)  (a0 : Nat) (a1 : Int32) (a2 : Int32) (a3 : Int32) (a4 : Int32) (κ : zS) : Prop :=
  ∃ I : Nat → Nat → Int32 → Int32 → Int32 → Int32 → zS → Prop, (∃ n, I n a0 a1 a2 a3 a4 κ) ∧ ∀ n a0 a1 a2 a3 a4 κ, zW C n0 κ → zT κ a0 = 12 → I n a0 a1 a2 a3 a4 κ →
    (a3 ≤ a4 →
      inb a1 (zN κ (zR κ weBackFirsts (zR κ soWeb a0))) ∧
      ∀ v4_1 : Int32, v4_1 = (zA κ (zR κ weBackFirsts (zR κ soWeb a0)) (a1).toNatClampNeg) →
      w_So_fillRow_55 C n0 Q  a0 a1 a2 v4_1 κ) ∧
    (¬ a3 ≤ a4 →
      ∀ _ : zT κ a0 = 12,
      zRun C 2 mSo_cell [.ref a0, .int a2, .int a4] κ (oR 8 (fun r3 κ2 =>
        ∀ _ : zW C n0 κ2,
        ∀ _ : zM (zn κ) κ κ2,
        ∀ _ : zT κ2 r3 = 8,
        (¬ a4 = a2 →
          w_So_fillRow_35 C n0 Q (fun a0' a1' a2' a3' a4' τ => ∃ k < n, I k a0' a1' a2' a3' a4' τ) a0 a1 a2 a3 a4 r3 (0 : Int64) κ2) ∧
        (a4 = a2 →
          ∀ _ : zT κ2 (zR κ2 soAtlas a0) = 3,
          zRun C 0 mAt_divisorOf [.ref (zR κ2 soAtlas a0), .int a1] κ2 (oI (fun r8 κ7 =>
            ∀ _ : zW C n0 κ7,
            ∀ _ : zM (zn κ2) κ2 κ7,
            w_So_fillRow_35 C n0 Q (fun a0' a1' a2' a3' a4' τ => ∃ k < n, I k a0' a1' a2' a3' a4' τ) a0 a1 a2 a3 a4 r3 (Int32.toInt64 r8) κ7) noX))) noX))
theorem t_So_fillRow_3 {C : zC} {n0 : Nat} {Q : zS → Prop}   {a0 : Nat} {a1 : Int32} {a2 : Int32} {a3 : Int32} {a4 : Int32} {κ : zS} (W : zW C n0 κ) (Ta0 : zT κ a0 = 12) (F : w_So_fillRow_3 C n0 Q  a0 a1 a2 a3 a4 κ) : zG C n0 3 mSo_fillRow 3 [some (.ref a0), some (.int a1), some (.int a2), some (.int a3), some (.int a4), none, none] [] κ (oV Q noX) := by
  obtain ⟨I, ⟨m0, hI0⟩, F0⟩ := F
  have key : ∀ n a0 a1 a2 a3 a4 κ, zW C n0 κ → zT κ a0 = 12 → I n a0 a1 a2 a3 a4 κ → zG C n0 3 mSo_fillRow 3 [some (.ref a0), some (.int a1), some (.int a2), some (.int a3), some (.int a4), none, none] [] κ (oV Q noX) := by
    intro n
    induction n using Nat.strongRecOn with
    | _ n ih =>
      intro a0 a1 a2 a3 a4 κ W Ta0 hI
      have F := F0 n a0 a1 a2 a3 a4 κ W Ta0 hI
      clear hI hI0
      refine y_il dX9_fillRow_3 rfl ?_
      refine y_iln dX9_fillRow_5 rfl ?_
      refine y_ii (a3 ≤ a4) dX9_fillRow_6 (t := 44) rfl rfl (fun c9 => ?_) (fun c9 => ?_)
      · replace F := F.1 c9
        refine y_aln dX9_fillRow_44 rfl ?_
        refine gf_X9_25 W dX9_fillRow_45 rfl Ta0 ?_
        refine gf_X9_167 W dX9_fillRow_48 rfl (ty_soWeb W Ta0) ?_
        refine y_iln dX9_fillRow_51 rfl ?_
        refine y_ald dX9_fillRow_52 (ty_weBackFirsts W (ty_soWeb W Ta0)) F.1 ?_
        replace F := F.2
        refine y_isb dX9_fillRow_53 (Nat.le_of_ble_eq_true rfl) (fun v4_1 ev4_1 => ?_)
        replace F := F v4_1 ev4_1
        show zG _ _ _ _ _ [some (.ref a0), some (.int a1), some (.int a2), some (.int a3), some (.int v4_1), none, none] _ _ _
        exact y_k (t_So_fillRow_55  W Ta0 F) ⟨rfl, rfl, rfl, rfl, trivial⟩
      · replace F := F.2 c9
        refine y_aln dX9_fillRow_9 rfl ?_
        refine y_iln dX9_fillRow_10 rfl ?_
        refine y_il dX9_fillRow_11 rfl ?_
        replace F := F Ta0
        refine k_X9_246 W dX9_fillRow_13 rfl (Nat.le_of_ble_eq_true rfl) (Nat.le_of_ble_eq_true rfl) (Or.inl Ta0) F (fun r3 κ2 Wκ2 Mκ2 g4 F => ?_) (fun _ _ h9 => False.elim h9)
        replace F := F Wκ2 Mκ2 g4
        refine y_il dX9_fillRow_16 rfl ?_
        refine y_iln dX9_fillRow_18 rfl ?_
        refine y_iin (a4 = a2) dX9_fillRow_19 (t := 34) rfl rfl (fun c9 => ?_) (fun c9 => ?_)
        · replace F := F.1 c9
          refine y_lc dX9_fillRow_34 zl_0 ?_
          have h5 := (ztm W Mκ2 Ta0)
          exact y_k (t_So_fillRow_35 (fun a0' a1' a2' a3' a4' τ w9 f09 hb => by obtain ⟨k, hk, hI⟩ := hb; exact ih k hk a0' a1' a2' a3' a4' τ w9 f09 hI) Wκ2 h5 g4 F) ⟨rfl, rfl, rfl, rfl, rfl, trivial⟩
        · replace F := F.2 c9
          refine y_aln dX9_fillRow_22 rfl ?_
          have h6 := (ztm W Mκ2 Ta0)
          refine gf_X9_9 Wκ2 dX9_fillRow_23 rfl h6 ?_
          refine y_iln dX9_fillRow_26 rfl ?_
          replace F := F (ty_soAtlas Wκ2 h6)
          refine k_X9_136 Wκ2 dX9_fillRow_27 rfl (Nat.le_of_ble_eq_true rfl) (Nat.le_of_ble_eq_true rfl) (Or.inl (ty_soAtlas Wκ2 h6)) F (fun r8 κ7 Wκ7 Mκ7 F => ?_) (fun _ _ h9 => False.elim h9)
          replace F := F Wκ7 Mκ7
          refine y_i2l dX9_fillRow_30 ?_
          refine y_goto dX9_fillRow_31 (t := 35) rfl ?_
          have h10 := (ztm Wκ2 Mκ7 h6)
          have h11 := (ztm Wκ2 Mκ7 g4)
          exact y_k (t_So_fillRow_35 (fun a0' a1' a2' a3' a4' τ w9 f09 hb => by obtain ⟨k, hk, hI⟩ := hb; exact ih k hk a0' a1' a2' a3' a4' τ w9 f09 hI) Wκ7 h10 h11 F) ⟨rfl, rfl, rfl, rfl, rfl, trivial⟩
  exact key m0 a0 a1 a2 a3 a4 κ W Ta0 hI0

def w_So_fillRow_0 (C : zC) (n0 : Nat) (Q : zS → Prop)  (a0 : Nat) (a1 : Int32) (a2 : Int32) (a3 : Int32) (κ : zS) : Prop :=
  w_So_fillRow_3 C n0 Q  a0 a1 a2 a3 (0 : Int32) κ
theorem t_So_fillRow_0 {C : zC} {n0 : Nat} {Q : zS → Prop}   {a0 : Nat} {a1 : Int32} {a2 : Int32} {a3 : Int32} {κ : zS} (W : zW C n0 κ) (Ta0 : zT κ a0 = 12) (F : w_So_fillRow_0 C n0 Q  a0 a1 a2 a3 κ) : zG C n0 3 mSo_fillRow 0 [some (.ref a0), some (.int a1), some (.int a2), some (.int a3), none, none, none] [] κ (oV Q noX) := by
  unfold w_So_fillRow_0 at F
  refine y_ic dX9_fillRow_0 zi_0 ?_
  refine y_is dX9_fillRow_1 (Nat.le_of_ble_eq_true rfl) rfl ?_
  show zG _ _ _ _ _ [some (.ref a0), some (.int a1), some (.int a2), some (.int a3), some (.int (0 : Int32)), none, none] _ _ _
  exact y_k (t_So_fillRow_3  W Ta0 F) ⟨rfl, rfl, rfl, rfl, rfl, trivial⟩

theorem So_fillRow_run {C : zC} {n0 : Nat} {Q : zS → Prop} {a0 : Nat} {a1 : Int32} {a2 : Int32} {a3 : Int32} {κ : zS} (W : zW C n0 κ) (Ta0 : zT κ a0 = 12) (F : w_So_fillRow_0 C (zn κ) Q a0 a1 a2 a3 κ) : zRun C 3 mSo_fillRow [.ref a0, .int a1, .int a2, .int a3] κ (oV Q noX) := z_run (m_ent _ 3) (t_So_fillRow_0 (W.lo (Nat.le_trans W.1.2.1 W.1.2.2) (Nat.le_refl _)) Ta0 F)

theorem dX9_shrink_0 : decode cX9_shrink 0 = .ok (.iload_n 2, 1) := by decide +kernel
theorem dX9_shrink_1 : decode cX9_shrink 1 = .ok (.ifCond .ne 14, 3) := by decide +kernel
theorem dX9_shrink_4 : decode cX9_shrink 4 = .ok (.aload_n 1, 1) := by decide +kernel
theorem dX9_shrink_5 : decode cX9_shrink 5 = .ok (.aload_n 0, 1) := by decide +kernel
theorem dX9_shrink_6 : decode cX9_shrink 6 = .ok (.getfield 58, 3) := by decide +kernel
theorem dX9_shrink_9 : decode cX9_shrink 9 = .ok (.invokevirtual 213, 3) := by decide +kernel
theorem dX9_shrink_12 : decode cX9_shrink 12 = .ok (.goto 35, 3) := by decide +kernel
theorem dX9_shrink_15 : decode cX9_shrink 15 = .ok (.aload_n 0, 1) := by decide +kernel
theorem dX9_shrink_16 : decode cX9_shrink 16 = .ok (.getfield 15, 3) := by decide +kernel
theorem dX9_shrink_19 : decode cX9_shrink 19 = .ok (.aload_n 0, 1) := by decide +kernel
theorem dX9_shrink_20 : decode cX9_shrink 20 = .ok (.getfield 58, 3) := by decide +kernel
theorem dX9_shrink_23 : decode cX9_shrink 23 = .ok (.aload_n 0, 1) := by decide +kernel
theorem dX9_shrink_24 : decode cX9_shrink 24 = .ok (.iload_n 2, 1) := by decide +kernel
theorem dX9_shrink_25 : decode cX9_shrink 25 = .ok (.iconst 1, 1) := by decide +kernel
theorem dX9_shrink_26 : decode cX9_shrink 26 = .ok (.isub, 1) := by decide +kernel
theorem dX9_shrink_27 : decode cX9_shrink 27 = .ok (.iload_n 2, 1) := by decide +kernel
theorem dX9_shrink_28 : decode cX9_shrink 28 = .ok (.iconst 1, 1) := by decide +kernel
theorem dX9_shrink_29 : decode cX9_shrink 29 = .ok (.isub, 1) := by decide +kernel
theorem dX9_shrink_30 : decode cX9_shrink 30 = .ok (.invokevirtual 246, 3) := by decide +kernel
theorem dX9_shrink_33 : decode cX9_shrink 33 = .ok (.invokevirtual 230, 3) := by decide +kernel
theorem dX9_shrink_36 : decode cX9_shrink 36 = .ok (.aload_n 1, 1) := by decide +kernel
theorem dX9_shrink_37 : decode cX9_shrink 37 = .ok (.aload_n 0, 1) := by decide +kernel
theorem dX9_shrink_38 : decode cX9_shrink 38 = .ok (.getfield 15, 3) := by decide +kernel
theorem dX9_shrink_41 : decode cX9_shrink 41 = .ok (.getfield 233, 3) := by decide +kernel
theorem dX9_shrink_44 : decode cX9_shrink 44 = .ok (.invokevirtual 213, 3) := by decide +kernel
theorem dX9_shrink_47 : decode cX9_shrink 47 = .ok (.return_, 1) := by decide +kernel
def w_So_shrink_0 (C : zC) (n0 : Nat) (Q : zS → Prop)  (a0 : Nat) (a1 : Nat) (a2 : Int32) (κ : zS) : Prop :=
  (¬ a2 = (0 : Int32) →
    ∀ _ : zT κ a0 = 12,
    zRun C 2 mSo_cell [.ref a0, .int (a2 - (1 : Int32)), .int (a2 - (1 : Int32))] κ (oR 8 (fun r2 κ1 =>
      ∀ _ : zW C n0 κ1,
      ∀ _ : zM (zn κ) κ κ1,
      ∀ _ : zT κ1 r2 = 8,
      ∀ _ : zT κ1 (zR κ soCalc a0) = 4,
      ∀ _ : zT κ1 (zR κ soSum a0) = 8,
      ∀ _ : zT κ1 r2 = 8,
      zRun C 2 mCa_divide [.ref (zR κ soCalc a0), .ref (zR κ soSum a0), .ref r2] κ1 (oV (fun κ4 =>
        ∀ _ : zW C n0 κ4,
        ∀ _ : zM (zn κ1) κ1 κ4,
        ∀ _ : zT κ4 a1 = 8,
        ∀ _ : zT κ4 (zR κ4 caQuotient (zR κ4 soCalc a0)) = 8,
        zRun C 1 mNu_copy [.ref a1, .ref (zR κ4 caQuotient (zR κ4 soCalc a0))] κ4 (oV (fun κ10 =>
          ∀ _ : zW C n0 κ10,
          ∀ _ : zM (zn κ4) κ4 κ10,
          Q κ10) noX)) noX)) noX)) ∧
  (a2 = (0 : Int32) →
    ∀ _ : zT κ a1 = 8,
    ∀ _ : zT κ (zR κ soSum a0) = 8,
    zRun C 1 mNu_copy [.ref a1, .ref (zR κ soSum a0)] κ (oV (fun κ14 =>
      ∀ _ : zW C n0 κ14,
      ∀ _ : zM (zn κ) κ κ14,
      Q κ14) noX))
theorem t_So_shrink_0 {C : zC} {n0 : Nat} {Q : zS → Prop}   {a0 : Nat} {a1 : Nat} {a2 : Int32} {κ : zS} (W : zW C n0 κ) (Ta0 : zT κ a0 = 12) (Ta1 : zT κ a1 = 8) (F : w_So_shrink_0 C n0 Q  a0 a1 a2 κ) : zG C n0 3 mSo_shrink 0 [some (.ref a0), some (.ref a1), some (.int a2)] [] κ (oV Q noX) := by
  unfold w_So_shrink_0 at F
  refine y_iln dX9_shrink_0 rfl ?_
  refine y_in (a2 = (0 : Int32)) dX9_shrink_1 (t := 15) rfl rfl (fun c9 => ?_) (fun c9 => ?_)
  · replace F := F.1 c9
    refine y_aln dX9_shrink_15 rfl ?_
    refine gf_X9_15 W dX9_shrink_16 rfl Ta0 ?_
    refine y_aln dX9_shrink_19 rfl ?_
    refine gf_X9_58 W dX9_shrink_20 rfl Ta0 ?_
    refine y_aln dX9_shrink_23 rfl ?_
    refine y_iln dX9_shrink_24 rfl ?_
    refine y_ic dX9_shrink_25 zi_1 ?_
    refine y_isub dX9_shrink_26 ?_
    refine y_iln dX9_shrink_27 rfl ?_
    refine y_ic dX9_shrink_28 zi_1 ?_
    refine y_isub dX9_shrink_29 ?_
    replace F := F Ta0
    refine k_X9_246 W dX9_shrink_30 rfl (Nat.le_of_ble_eq_true rfl) (Nat.le_of_ble_eq_true rfl) (Or.inl Ta0) F (fun r2 κ1 Wκ1 Mκ1 g3 F => ?_) (fun _ _ h9 => False.elim h9)
    replace F := F Wκ1 Mκ1 g3
    have h6 := (ztm W Mκ1 (ty_soCalc W Ta0))
    replace F := F h6
    have h7 := (ztm W Mκ1 (ty_soSum W Ta0))
    replace F := F h7
    replace F := F g3
    refine k_X9_230 Wκ1 dX9_shrink_33 rfl (Nat.le_of_ble_eq_true rfl) (Nat.le_of_ble_eq_true rfl) (Or.inl h6) F (fun  κ4 Wκ4 Mκ4 F => ?_) (fun _ _ h9 => False.elim h9)
    replace F := F Wκ4 Mκ4
    refine y_aln dX9_shrink_36 rfl ?_
    refine y_aln dX9_shrink_37 rfl ?_
    have h9 := (ztm Wκ1 Mκ4 (ztm W Mκ1 Ta0))
    refine gf_X9_15 Wκ4 dX9_shrink_38 rfl h9 ?_
    refine gf_X9_233 Wκ4 dX9_shrink_41 rfl (ty_soCalc Wκ4 h9) ?_
    have h12 := (ztm Wκ1 Mκ4 (ztm W Mκ1 Ta1))
    replace F := F h12
    replace F := F (ty_caQuotient Wκ4 (ty_soCalc Wκ4 h9))
    refine k_X9_213 Wκ4 dX9_shrink_44 rfl (Nat.le_of_ble_eq_true rfl) (Nat.le_of_ble_eq_true rfl) (Or.inl h12) F (fun  κ10 Wκ10 Mκ10 F => ?_) (fun _ _ h9 => False.elim h9)
    replace F := F Wκ10 Mκ10
    exact y_rv Wκ10 dX9_shrink_47 rfl F
  · replace F := F.2 c9
    refine y_aln dX9_shrink_4 rfl ?_
    refine y_aln dX9_shrink_5 rfl ?_
    refine gf_X9_58 W dX9_shrink_6 rfl Ta0 ?_
    replace F := F Ta1
    replace F := F (ty_soSum W Ta0)
    refine k_X9_213 W dX9_shrink_9 rfl (Nat.le_of_ble_eq_true rfl) (Nat.le_of_ble_eq_true rfl) (Or.inl Ta1) F (fun  κ14 Wκ14 Mκ14 F => ?_) (fun _ _ h9 => False.elim h9)
    replace F := F Wκ14 Mκ14
    refine y_goto dX9_shrink_12 (t := 47) rfl ?_
    exact y_rv Wκ14 dX9_shrink_47 rfl F

theorem So_shrink_run {C : zC} {n0 : Nat} {Q : zS → Prop} {a0 : Nat} {a1 : Nat} {a2 : Int32} {κ : zS} (W : zW C n0 κ) (Ta0 : zT κ a0 = 12) (Ta1 : zT κ a1 = 8) (F : w_So_shrink_0 C (zn κ) Q a0 a1 a2 κ) : zRun C 3 mSo_shrink [.ref a0, .ref a1, .int a2] κ (oV Q noX) := z_run (m_ent _ 0) (t_So_shrink_0 (W.lo (Nat.le_trans W.1.2.1 W.1.2.2) (Nat.le_refl _)) Ta0 Ta1 F)

theorem dX9_eliminate_0 : decode cX9_eliminate 0 = .ok (.aload_n 0, 1) := by decide +kernel
theorem dX9_eliminate_1 : decode cX9_eliminate 1 = .ok (.iload_n 1, 1) := by decide +kernel
theorem dX9_eliminate_2 : decode cX9_eliminate 2 = .ok (.iload_n 1, 1) := by decide +kernel
theorem dX9_eliminate_3 : decode cX9_eliminate 3 = .ok (.invokevirtual 246, 3) := by decide +kernel
theorem dX9_eliminate_6 : decode cX9_eliminate 6 = .ok (.astore_n 3, 1) := by decide +kernel
theorem dX9_eliminate_7 : decode cX9_eliminate 7 = .ok (.iload_n 1, 1) := by decide +kernel
theorem dX9_eliminate_8 : decode cX9_eliminate 8 = .ok (.iconst 1, 1) := by decide +kernel
theorem dX9_eliminate_9 : decode cX9_eliminate 9 = .ok (.iadd, 1) := by decide +kernel
theorem dX9_eliminate_10 : decode cX9_eliminate 10 = .ok (.istore 4, 2) := by decide +kernel
theorem dX9_eliminate_12 : decode cX9_eliminate 12 = .ok (.iload 4, 2) := by decide +kernel
theorem dX9_eliminate_14 : decode cX9_eliminate 14 = .ok (.iload_n 2, 1) := by decide +kernel
theorem dX9_eliminate_15 : decode cX9_eliminate 15 = .ok (.if_icmp .ge 173, 3) := by decide +kernel
theorem dX9_eliminate_18 : decode cX9_eliminate 18 = .ok (.aload_n 0, 1) := by decide +kernel
theorem dX9_eliminate_19 : decode cX9_eliminate 19 = .ok (.iload 4, 2) := by decide +kernel
theorem dX9_eliminate_21 : decode cX9_eliminate 21 = .ok (.iload_n 1, 1) := by decide +kernel
theorem dX9_eliminate_22 : decode cX9_eliminate 22 = .ok (.invokevirtual 246, 3) := by decide +kernel
theorem dX9_eliminate_25 : decode cX9_eliminate 25 = .ok (.astore 5, 2) := by decide +kernel
theorem dX9_eliminate_27 : decode cX9_eliminate 27 = .ok (.iload_n 1, 1) := by decide +kernel
theorem dX9_eliminate_28 : decode cX9_eliminate 28 = .ok (.iconst 1, 1) := by decide +kernel
theorem dX9_eliminate_29 : decode cX9_eliminate 29 = .ok (.iadd, 1) := by decide +kernel
theorem dX9_eliminate_30 : decode cX9_eliminate 30 = .ok (.istore 6, 2) := by decide +kernel
theorem dX9_eliminate_32 : decode cX9_eliminate 32 = .ok (.iload 6, 2) := by decide +kernel
theorem dX9_eliminate_34 : decode cX9_eliminate 34 = .ok (.iload_n 2, 1) := by decide +kernel
theorem dX9_eliminate_35 : decode cX9_eliminate 35 = .ok (.if_icmp .gt 147, 3) := by decide +kernel
theorem dX9_eliminate_38 : decode cX9_eliminate 38 = .ok (.iload 6, 2) := by decide +kernel
theorem dX9_eliminate_40 : decode cX9_eliminate 40 = .ok (.iload_n 2, 1) := by decide +kernel
theorem dX9_eliminate_41 : decode cX9_eliminate 41 = .ok (.if_icmp .ge 8, 3) := by decide +kernel
theorem dX9_eliminate_44 : decode cX9_eliminate 44 = .ok (.iload 6, 2) := by decide +kernel
theorem dX9_eliminate_46 : decode cX9_eliminate 46 = .ok (.goto 5, 3) := by decide +kernel
theorem dX9_eliminate_49 : decode cX9_eliminate 49 = .ok (.bipush 32, 2) := by decide +kernel
theorem dX9_eliminate_51 : decode cX9_eliminate 51 = .ok (.istore 7, 2) := by decide +kernel
theorem dX9_eliminate_53 : decode cX9_eliminate 53 = .ok (.aload_n 0, 1) := by decide +kernel
theorem dX9_eliminate_54 : decode cX9_eliminate 54 = .ok (.iload 4, 2) := by decide +kernel
theorem dX9_eliminate_56 : decode cX9_eliminate 56 = .ok (.iload 7, 2) := by decide +kernel
theorem dX9_eliminate_58 : decode cX9_eliminate 58 = .ok (.invokevirtual 246, 3) := by decide +kernel
theorem dX9_eliminate_61 : decode cX9_eliminate 61 = .ok (.astore 8, 2) := by decide +kernel
theorem dX9_eliminate_63 : decode cX9_eliminate 63 = .ok (.aload_n 0, 1) := by decide +kernel
theorem dX9_eliminate_64 : decode cX9_eliminate 64 = .ok (.iload_n 1, 1) := by decide +kernel
theorem dX9_eliminate_65 : decode cX9_eliminate 65 = .ok (.iload 7, 2) := by decide +kernel
theorem dX9_eliminate_67 : decode cX9_eliminate 67 = .ok (.invokevirtual 246, 3) := by decide +kernel
theorem dX9_eliminate_70 : decode cX9_eliminate 70 = .ok (.astore 9, 2) := by decide +kernel
theorem dX9_eliminate_72 : decode cX9_eliminate 72 = .ok (.aload 5, 2) := by decide +kernel
theorem dX9_eliminate_74 : decode cX9_eliminate 74 = .ok (.getfield 250, 3) := by decide +kernel
theorem dX9_eliminate_77 : decode cX9_eliminate 77 = .ok (.ifCond .le 15, 3) := by decide +kernel
theorem dX9_eliminate_80 : decode cX9_eliminate 80 = .ok (.aload 9, 2) := by decide +kernel
theorem dX9_eliminate_82 : decode cX9_eliminate 82 = .ok (.getfield 250, 3) := by decide +kernel
theorem dX9_eliminate_85 : decode cX9_eliminate 85 = .ok (.ifCond .le 7, 3) := by decide +kernel
theorem dX9_eliminate_88 : decode cX9_eliminate 88 = .ok (.iconst 1, 1) := by decide +kernel
theorem dX9_eliminate_89 : decode cX9_eliminate 89 = .ok (.goto 4, 3) := by decide +kernel
theorem dX9_eliminate_92 : decode cX9_eliminate 92 = .ok (.iconst 0, 1) := by decide +kernel
theorem dX9_eliminate_93 : decode cX9_eliminate 93 = .ok (.istore 10, 2) := by decide +kernel
theorem dX9_eliminate_95 : decode cX9_eliminate 95 = .ok (.aload 8, 2) := by decide +kernel
theorem dX9_eliminate_97 : decode cX9_eliminate 97 = .ok (.getfield 250, 3) := by decide +kernel
theorem dX9_eliminate_100 : decode cX9_eliminate 100 = .ok (.ifCond .ne 11, 3) := by decide +kernel
theorem dX9_eliminate_103 : decode cX9_eliminate 103 = .ok (.iload 10, 2) := by decide +kernel
theorem dX9_eliminate_105 : decode cX9_eliminate 105 = .ok (.ifCond .ne 6, 3) := by decide +kernel
theorem dX9_eliminate_108 : decode cX9_eliminate 108 = .ok (.goto 68, 3) := by decide +kernel
theorem dX9_eliminate_111 : decode cX9_eliminate 111 = .ok (.aload_n 0, 1) := by decide +kernel
theorem dX9_eliminate_112 : decode cX9_eliminate 112 = .ok (.getfield 58, 3) := by decide +kernel
theorem dX9_eliminate_115 : decode cX9_eliminate 115 = .ok (.aload_n 3, 1) := by decide +kernel
theorem dX9_eliminate_116 : decode cX9_eliminate 116 = .ok (.aload 8, 2) := by decide +kernel
theorem dX9_eliminate_118 : decode cX9_eliminate 118 = .ok (.invokevirtual 227, 3) := by decide +kernel
theorem dX9_eliminate_121 : decode cX9_eliminate 121 = .ok (.iload 10, 2) := by decide +kernel
theorem dX9_eliminate_123 : decode cX9_eliminate 123 = .ok (.ifCond .eq 46, 3) := by decide +kernel
theorem dX9_eliminate_126 : decode cX9_eliminate 126 = .ok (.aload_n 0, 1) := by decide +kernel
theorem dX9_eliminate_127 : decode cX9_eliminate 127 = .ok (.getfield 55, 3) := by decide +kernel
theorem dX9_eliminate_130 : decode cX9_eliminate 130 = .ok (.aload 5, 2) := by decide +kernel
theorem dX9_eliminate_132 : decode cX9_eliminate 132 = .ok (.aload 9, 2) := by decide +kernel
theorem dX9_eliminate_134 : decode cX9_eliminate 134 = .ok (.invokevirtual 227, 3) := by decide +kernel
theorem dX9_eliminate_137 : decode cX9_eliminate 137 = .ok (.iload 7, 2) := by decide +kernel
theorem dX9_eliminate_139 : decode cX9_eliminate 139 = .ok (.iload 4, 2) := by decide +kernel
theorem dX9_eliminate_141 : decode cX9_eliminate 141 = .ok (.if_icmp .ne 17, 3) := by decide +kernel
theorem dX9_eliminate_144 : decode cX9_eliminate 144 = .ok (.aload_n 0, 1) := by decide +kernel
theorem dX9_eliminate_145 : decode cX9_eliminate 145 = .ok (.getfield 58, 3) := by decide +kernel
theorem dX9_eliminate_148 : decode cX9_eliminate 148 = .ok (.aload_n 0, 1) := by decide +kernel
theorem dX9_eliminate_149 : decode cX9_eliminate 149 = .ok (.getfield 55, 3) := by decide +kernel
theorem dX9_eliminate_152 : decode cX9_eliminate 152 = .ok (.invokevirtual 264, 3) := by decide +kernel
theorem dX9_eliminate_155 : decode cX9_eliminate 155 = .ok (.goto 14, 3) := by decide +kernel
theorem dX9_eliminate_158 : decode cX9_eliminate 158 = .ok (.aload_n 0, 1) := by decide +kernel
theorem dX9_eliminate_159 : decode cX9_eliminate 159 = .ok (.getfield 58, 3) := by decide +kernel
theorem dX9_eliminate_162 : decode cX9_eliminate 162 = .ok (.aload_n 0, 1) := by decide +kernel
theorem dX9_eliminate_163 : decode cX9_eliminate 163 = .ok (.getfield 55, 3) := by decide +kernel
theorem dX9_eliminate_166 : decode cX9_eliminate 166 = .ok (.invokevirtual 236, 3) := by decide +kernel
theorem dX9_eliminate_169 : decode cX9_eliminate 169 = .ok (.aload_n 0, 1) := by decide +kernel
theorem dX9_eliminate_170 : decode cX9_eliminate 170 = .ok (.aload 8, 2) := by decide +kernel
theorem dX9_eliminate_172 : decode cX9_eliminate 172 = .ok (.iload_n 1, 1) := by decide +kernel
theorem dX9_eliminate_173 : decode cX9_eliminate 173 = .ok (.invokevirtual 267, 3) := by decide +kernel
theorem dX9_eliminate_176 : decode cX9_eliminate 176 = .ok (.iinc 6 1, 3) := by decide +kernel
theorem dX9_eliminate_179 : decode cX9_eliminate 179 = .ok (.goto (-147), 3) := by decide +kernel
theorem dX9_eliminate_182 : decode cX9_eliminate 182 = .ok (.iinc 4 1, 3) := by decide +kernel
theorem dX9_eliminate_185 : decode cX9_eliminate 185 = .ok (.goto (-173), 3) := by decide +kernel
theorem dX9_eliminate_188 : decode cX9_eliminate 188 = .ok (.return_, 1) := by decide +kernel
def w_So_eliminate_169 (C : zC) (n0 : Nat) (Q : zS → Prop) (B12 : Nat → Int32 → Int32 → Nat → Int32 → zS → Prop) (B32 : Nat → Int32 → Int32 → Nat → Int32 → Nat → Int32 → zS → Prop) (a0 : Nat) (a1 : Int32) (a2 : Int32) (a3 : Nat) (a4 : Int32) (a5 : Nat) (a6 : Int32) (a8 : Nat) (κ : zS) : Prop :=
  ∀ _ : zT κ a0 = 12,
  ∀ _ : zT κ a8 = 8,
  zRun C 3 mSo_shrink [.ref a0, .ref a8, .int a1] κ (oV (fun κ1 =>
    ∀ _ : zW C n0 κ1,
    ∀ _ : zM (zn κ) κ κ1,
    ∀ v6_4 : Int32, v6_4 = a6 + (1 : Int32) →
    B32 a0 a1 a2 a3 a4 a5 v6_4 κ1) noX)
theorem t_So_eliminate_169 {C : zC} {n0 : Nat} {Q : zS → Prop} {B12 : Nat → Int32 → Int32 → Nat → Int32 → zS → Prop} {B32 : Nat → Int32 → Int32 → Nat → Int32 → Nat → Int32 → zS → Prop} (hB12 : ∀ a0' a1' a2' a3' a4' τ, zW C n0 τ → zT τ a0' = 12 → zT τ a3' = 8 → B12 a0' a1' a2' a3' a4' τ → zG C n0 4 mSo_eliminate 12 [some (.ref a0'), some (.int a1'), some (.int a2'), some (.ref a3'), some (.int a4'), none, none, none, none, none, none] [] τ (oV Q noX)) (hB32 : ∀ a0' a1' a2' a3' a4' a5' a6' τ, zW C n0 τ → zT τ a0' = 12 → zT τ a3' = 8 → zT τ a5' = 8 → B32 a0' a1' a2' a3' a4' a5' a6' τ → zG C n0 4 mSo_eliminate 32 [some (.ref a0'), some (.int a1'), some (.int a2'), some (.ref a3'), some (.int a4'), some (.ref a5'), some (.int a6'), none, none, none, none] [] τ (oV Q noX)) {a0 : Nat} {a1 : Int32} {a2 : Int32} {a3 : Nat} {a4 : Int32} {a5 : Nat} {a6 : Int32} {a8 : Nat} {κ : zS} (W : zW C n0 κ) (Ta0 : zT κ a0 = 12) (Ta3 : zT κ a3 = 8) (Ta5 : zT κ a5 = 8) (Ta8 : zT κ a8 = 8) (F : w_So_eliminate_169 C n0 Q B12 B32 a0 a1 a2 a3 a4 a5 a6 a8 κ) : zG C n0 4 mSo_eliminate 169 [some (.ref a0), some (.int a1), some (.int a2), some (.ref a3), some (.int a4), some (.ref a5), some (.int a6), none, some (.ref a8), none, none] [] κ (oV Q noX) := by
  unfold w_So_eliminate_169 at F
  refine y_aln dX9_eliminate_169 rfl ?_
  refine y_al dX9_eliminate_170 rfl ?_
  refine y_iln dX9_eliminate_172 rfl ?_
  replace F := F Ta0
  replace F := F Ta8
  refine k_X9_267 W dX9_eliminate_173 rfl (Nat.le_of_ble_eq_true rfl) (Nat.le_of_ble_eq_true rfl) (Or.inl Ta0) F (fun  κ1 Wκ1 Mκ1 F => ?_) (fun _ _ h9 => False.elim h9)
  replace F := F Wκ1 Mκ1
  refine y_incb dX9_eliminate_176 zi_1 rfl (Nat.le_of_ble_eq_true rfl) (fun v6_4 ev6_4 => ?_)
  replace F := F v6_4 ev6_4
  show zG _ _ _ _ _ [some (.ref a0), some (.int a1), some (.int a2), some (.ref a3), some (.int a4), some (.ref a5), some (.int v6_4), none, some (.ref a8), none, none] _ _ _
  refine y_goto dX9_eliminate_179 (t := 32) rfl ?_
  have h5 := (ztm W Mκ1 Ta0)
  have h6 := (ztm W Mκ1 Ta3)
  have h7 := (ztm W Mκ1 Ta5)
  exact y_k (hB32 _ _ _ _ _ _ _ _ Wκ1 h5 h6 h7 F) ⟨rfl, rfl, rfl, rfl, rfl, rfl, rfl, trivial⟩

def w_So_eliminate_111 (C : zC) (n0 : Nat) (Q : zS → Prop) (B12 : Nat → Int32 → Int32 → Nat → Int32 → zS → Prop) (B32 : Nat → Int32 → Int32 → Nat → Int32 → Nat → Int32 → zS → Prop) (a0 : Nat) (a1 : Int32) (a2 : Int32) (a3 : Nat) (a4 : Int32) (a5 : Nat) (a6 : Int32) (a7 : Int32) (a8 : Nat) (a9 : Nat) (a10 : Int32) (κ : zS) : Prop :=
  ∀ _ : zT κ (zR κ soSum a0) = 8,
  ∀ _ : zT κ a3 = 8,
  ∀ _ : zT κ a8 = 8,
  zRun C 3 mNu_product [.ref (zR κ soSum a0), .ref a3, .ref a8] κ (oV (fun κ1 =>
    ∀ _ : zW C n0 κ1,
    ∀ _ : zM (zn κ) κ κ1,
    (a10 = (0 : Int32) →
      w_So_eliminate_169 C n0 Q B12 B32 a0 a1 a2 a3 a4 a5 a6 a8 κ1) ∧
    (¬ a10 = (0 : Int32) →
      ∀ _ : zT κ1 (zR κ1 soTerm a0) = 8,
      ∀ _ : zT κ1 a5 = 8,
      ∀ _ : zT κ1 a9 = 8,
      zRun C 3 mNu_product [.ref (zR κ1 soTerm a0), .ref a5, .ref a9] κ1 (oV (fun κ9 =>
        ∀ _ : zW C n0 κ9,
        ∀ _ : zM (zn κ1) κ1 κ9,
        (¬ a7 = a4 →
          ∀ _ : zT κ9 (zR κ9 soSum a0) = 8,
          ∀ _ : zT κ9 (zR κ9 soTerm a0) = 8,
          zRun C 3 mNu_plus [.ref (zR κ9 soSum a0), .ref (zR κ9 soTerm a0)] κ9 (oV (fun κ15 =>
            ∀ _ : zW C n0 κ15,
            ∀ _ : zM (zn κ9) κ9 κ15,
            w_So_eliminate_169 C n0 Q B12 B32 a0 a1 a2 a3 a4 a5 a6 a8 κ15) noX)) ∧
        (a7 = a4 →
          ∀ _ : zT κ9 (zR κ9 soSum a0) = 8,
          ∀ _ : zT κ9 (zR κ9 soTerm a0) = 8,
          zRun C 1 mNu_minus [.ref (zR κ9 soSum a0), .ref (zR κ9 soTerm a0)] κ9 (oV (fun κ23 =>
            ∀ _ : zW C n0 κ23,
            ∀ _ : zM (zn κ9) κ9 κ23,
            w_So_eliminate_169 C n0 Q B12 B32 a0 a1 a2 a3 a4 a5 a6 a8 κ23) noX))) noX))) noX)
theorem t_So_eliminate_111 {C : zC} {n0 : Nat} {Q : zS → Prop} {B12 : Nat → Int32 → Int32 → Nat → Int32 → zS → Prop} {B32 : Nat → Int32 → Int32 → Nat → Int32 → Nat → Int32 → zS → Prop} (hB12 : ∀ a0' a1' a2' a3' a4' τ, zW C n0 τ → zT τ a0' = 12 → zT τ a3' = 8 → B12 a0' a1' a2' a3' a4' τ → zG C n0 4 mSo_eliminate 12 [some (.ref a0'), some (.int a1'), some (.int a2'), some (.ref a3'), some (.int a4'), none, none, none, none, none, none] [] τ (oV Q noX)) (hB32 : ∀ a0' a1' a2' a3' a4' a5' a6' τ, zW C n0 τ → zT τ a0' = 12 → zT τ a3' = 8 → zT τ a5' = 8 → B32 a0' a1' a2' a3' a4' a5' a6' τ → zG C n0 4 mSo_eliminate 32 [some (.ref a0'), some (.int a1'), some (.int a2'), some (.ref a3'), some (.int a4'), some (.ref a5'), some (.int a6'), none, none, none, none] [] τ (oV Q noX)) {a0 : Nat} {a1 : Int32} {a2 : Int32} {a3 : Nat} {a4 : Int32} {a5 : Nat} {a6 : Int32} {a7 : Int32} {a8 : Nat} {a9 : Nat} {a10 : Int32} {κ : zS} (W : zW C n0 κ) (Ta0 : zT κ a0 = 12) (Ta3 : zT κ a3 = 8) (Ta5 : zT κ a5 = 8) (Ta8 : zT κ a8 = 8) (Ta9 : zT κ a9 = 8) (F : w_So_eliminate_111 C n0 Q B12 B32 a0 a1 a2 a3 a4 a5 a6 a7 a8 a9 a10 κ) : zG C n0 4 mSo_eliminate 111 [some (.ref a0), some (.int a1), some (.int a2), some (.ref a3), some (.int a4), some (.ref a5), some (.int a6), some (.int a7), some (.ref a8), some (.ref a9), some (.int a10)] [] κ (oV Q noX) := by
  unfold w_So_eliminate_111 at F
  refine y_aln dX9_eliminate_111 rfl ?_
  refine gf_X9_58 W dX9_eliminate_112 rfl Ta0 ?_
  refine y_aln dX9_eliminate_115 rfl ?_
  refine y_al dX9_eliminate_116 rfl ?_
  replace F := F (ty_soSum W Ta0)
  replace F := F Ta3
  replace F := F Ta8
  refine k_X9_227 W dX9_eliminate_118 rfl (Nat.le_of_ble_eq_true rfl) (Nat.le_of_ble_eq_true rfl) (Or.inl (ty_soSum W Ta0)) F (fun  κ1 Wκ1 Mκ1 F => ?_) (fun _ _ h9 => False.elim h9)
  replace F := F Wκ1 Mκ1
  refine y_il dX9_eliminate_121 rfl ?_
  refine y_i (a10 = (0 : Int32)) dX9_eliminate_123 (t := 169) rfl rfl (fun c9 => ?_) (fun c9 => ?_)
  · replace F := F.1 c9
    have h4 := (ztm W Mκ1 Ta0)
    have h5 := (ztm W Mκ1 Ta3)
    have h6 := (ztm W Mκ1 Ta5)
    have h7 := (ztm W Mκ1 Ta8)
    exact y_k (t_So_eliminate_169 hB12 hB32 Wκ1 h4 h5 h6 h7 F) ⟨rfl, rfl, rfl, rfl, rfl, rfl, rfl, rfl, trivial⟩
  · replace F := F.2 c9
    refine y_aln dX9_eliminate_126 rfl ?_
    have h8 := (ztm W Mκ1 Ta0)
    refine gf_X9_55 Wκ1 dX9_eliminate_127 rfl h8 ?_
    refine y_al dX9_eliminate_130 rfl ?_
    refine y_al dX9_eliminate_132 rfl ?_
    replace F := F (ty_soTerm Wκ1 h8)
    have h11 := (ztm W Mκ1 Ta5)
    replace F := F h11
    have h12 := (ztm W Mκ1 Ta9)
    replace F := F h12
    refine k_X9_227 Wκ1 dX9_eliminate_134 rfl (Nat.le_of_ble_eq_true rfl) (Nat.le_of_ble_eq_true rfl) (Or.inl (ty_soTerm Wκ1 h8)) F (fun  κ9 Wκ9 Mκ9 F => ?_) (fun _ _ h9 => False.elim h9)
    replace F := F Wκ9 Mκ9
    refine y_il dX9_eliminate_137 rfl ?_
    refine y_il dX9_eliminate_139 rfl ?_
    refine y_iin (a7 = a4) dX9_eliminate_141 (t := 158) rfl rfl (fun c9 => ?_) (fun c9 => ?_)
    · replace F := F.1 c9
      refine y_aln dX9_eliminate_158 rfl ?_
      have h14 := (ztm Wκ1 Mκ9 h8)
      refine gf_X9_58 Wκ9 dX9_eliminate_159 rfl h14 ?_
      refine y_aln dX9_eliminate_162 rfl ?_
      refine gf_X9_55 Wκ9 dX9_eliminate_163 rfl h14 ?_
      replace F := F (ty_soSum Wκ9 h14)
      replace F := F (ty_soTerm Wκ9 h14)
      refine k_X9_236 Wκ9 dX9_eliminate_166 rfl (Nat.le_of_ble_eq_true rfl) (Nat.le_of_ble_eq_true rfl) (Or.inl (ty_soSum Wκ9 h14)) F (fun  κ15 Wκ15 Mκ15 F => ?_) (fun _ _ h9 => False.elim h9)
      replace F := F Wκ15 Mκ15
      have h18 := (ztm Wκ9 Mκ15 h14)
      have h19 := (ztm Wκ9 Mκ15 (ztm Wκ1 Mκ9 (ztm W Mκ1 Ta3)))
      have h20 := (ztm Wκ9 Mκ15 (ztm Wκ1 Mκ9 h11))
      have h21 := (ztm Wκ9 Mκ15 (ztm Wκ1 Mκ9 (ztm W Mκ1 Ta8)))
      exact y_k (t_So_eliminate_169 hB12 hB32 Wκ15 h18 h19 h20 h21 F) ⟨rfl, rfl, rfl, rfl, rfl, rfl, rfl, rfl, trivial⟩
    · replace F := F.2 c9
      refine y_aln dX9_eliminate_144 rfl ?_
      have h22 := (ztm Wκ1 Mκ9 h8)
      refine gf_X9_58 Wκ9 dX9_eliminate_145 rfl h22 ?_
      refine y_aln dX9_eliminate_148 rfl ?_
      refine gf_X9_55 Wκ9 dX9_eliminate_149 rfl h22 ?_
      replace F := F (ty_soSum Wκ9 h22)
      replace F := F (ty_soTerm Wκ9 h22)
      refine k_X9_264 Wκ9 dX9_eliminate_152 rfl (Nat.le_of_ble_eq_true rfl) (Nat.le_of_ble_eq_true rfl) (Or.inl (ty_soSum Wκ9 h22)) F (fun  κ23 Wκ23 Mκ23 F => ?_) (fun _ _ h9 => False.elim h9)
      replace F := F Wκ23 Mκ23
      refine y_goto dX9_eliminate_155 (t := 169) rfl ?_
      have h26 := (ztm Wκ9 Mκ23 h22)
      have h27 := (ztm Wκ9 Mκ23 (ztm Wκ1 Mκ9 (ztm W Mκ1 Ta3)))
      have h28 := (ztm Wκ9 Mκ23 (ztm Wκ1 Mκ9 h11))
      have h29 := (ztm Wκ9 Mκ23 (ztm Wκ1 Mκ9 (ztm W Mκ1 Ta8)))
      exact y_k (t_So_eliminate_169 hB12 hB32 Wκ23 h26 h27 h28 h29 F) ⟨rfl, rfl, rfl, rfl, rfl, rfl, rfl, rfl, trivial⟩

def w_So_eliminate_93 (C : zC) (n0 : Nat) (Q : zS → Prop) (B12 : Nat → Int32 → Int32 → Nat → Int32 → zS → Prop) (B32 : Nat → Int32 → Int32 → Nat → Int32 → Nat → Int32 → zS → Prop) (a0 : Nat) (a1 : Int32) (a2 : Int32) (a3 : Nat) (a4 : Int32) (a5 : Nat) (a6 : Int32) (a7 : Int32) (a8 : Nat) (a9 : Nat) (s0 : Int32) (κ : zS) : Prop :=
  (¬ (zI κ nuLength a8) = (0 : Int32) →
    w_So_eliminate_111 C n0 Q B12 B32 a0 a1 a2 a3 a4 a5 a6 a7 a8 a9 s0 κ) ∧
  ((zI κ nuLength a8) = (0 : Int32) →
    (¬ s0 = (0 : Int32) →
      w_So_eliminate_111 C n0 Q B12 B32 a0 a1 a2 a3 a4 a5 a6 a7 a8 a9 s0 κ) ∧
    (s0 = (0 : Int32) →
      ∀ v6_1 : Int32, v6_1 = a6 + (1 : Int32) →
      B32 a0 a1 a2 a3 a4 a5 v6_1 κ))
theorem t_So_eliminate_93 {C : zC} {n0 : Nat} {Q : zS → Prop} {B12 : Nat → Int32 → Int32 → Nat → Int32 → zS → Prop} {B32 : Nat → Int32 → Int32 → Nat → Int32 → Nat → Int32 → zS → Prop} (hB12 : ∀ a0' a1' a2' a3' a4' τ, zW C n0 τ → zT τ a0' = 12 → zT τ a3' = 8 → B12 a0' a1' a2' a3' a4' τ → zG C n0 4 mSo_eliminate 12 [some (.ref a0'), some (.int a1'), some (.int a2'), some (.ref a3'), some (.int a4'), none, none, none, none, none, none] [] τ (oV Q noX)) (hB32 : ∀ a0' a1' a2' a3' a4' a5' a6' τ, zW C n0 τ → zT τ a0' = 12 → zT τ a3' = 8 → zT τ a5' = 8 → B32 a0' a1' a2' a3' a4' a5' a6' τ → zG C n0 4 mSo_eliminate 32 [some (.ref a0'), some (.int a1'), some (.int a2'), some (.ref a3'), some (.int a4'), some (.ref a5'), some (.int a6'), none, none, none, none] [] τ (oV Q noX)) {a0 : Nat} {a1 : Int32} {a2 : Int32} {a3 : Nat} {a4 : Int32} {a5 : Nat} {a6 : Int32} {a7 : Int32} {a8 : Nat} {a9 : Nat} {s0 : Int32} {κ : zS} (W : zW C n0 κ) (Ta0 : zT κ a0 = 12) (Ta3 : zT κ a3 = 8) (Ta5 : zT κ a5 = 8) (Ta8 : zT κ a8 = 8) (Ta9 : zT κ a9 = 8) (F : w_So_eliminate_93 C n0 Q B12 B32 a0 a1 a2 a3 a4 a5 a6 a7 a8 a9 s0 κ) : zG C n0 4 mSo_eliminate 93 [some (.ref a0), some (.int a1), some (.int a2), some (.ref a3), some (.int a4), some (.ref a5), some (.int a6), some (.int a7), some (.ref a8), some (.ref a9), none] [.int s0] κ (oV Q noX) := by
  unfold w_So_eliminate_93 at F
  refine y_is dX9_eliminate_93 (Nat.le_of_ble_eq_true rfl) rfl ?_
  show zG _ _ _ _ _ [some (.ref a0), some (.int a1), some (.int a2), some (.ref a3), some (.int a4), some (.ref a5), some (.int a6), some (.int a7), some (.ref a8), some (.ref a9), some (.int s0)] _ _ _
  refine y_al dX9_eliminate_95 rfl ?_
  refine gf_X9_250 dX9_eliminate_97 rfl (Or.inl Ta8) ?_
  refine y_in ((zI κ nuLength a8) = (0 : Int32)) dX9_eliminate_100 (t := 111) rfl rfl (fun c9 => ?_) (fun c9 => ?_)
  · replace F := F.1 c9
    exact y_k (t_So_eliminate_111 hB12 hB32 W Ta0 Ta3 Ta5 Ta8 Ta9 F) ⟨rfl, rfl, rfl, rfl, rfl, rfl, rfl, rfl, rfl, rfl, rfl, trivial⟩
  · replace F := F.2 c9
    refine y_il dX9_eliminate_103 rfl ?_
    refine y_in (s0 = (0 : Int32)) dX9_eliminate_105 (t := 111) rfl rfl (fun c9 => ?_) (fun c9 => ?_)
    · replace F := F.1 c9
      exact y_k (t_So_eliminate_111 hB12 hB32 W Ta0 Ta3 Ta5 Ta8 Ta9 F) ⟨rfl, rfl, rfl, rfl, rfl, rfl, rfl, rfl, rfl, rfl, rfl, trivial⟩
    · replace F := F.2 c9
      refine y_goto dX9_eliminate_108 (t := 176) rfl ?_
      refine y_incb dX9_eliminate_176 zi_1 rfl (Nat.le_of_ble_eq_true rfl) (fun v6_1 ev6_1 => ?_)
      replace F := F v6_1 ev6_1
      show zG _ _ _ _ _ [some (.ref a0), some (.int a1), some (.int a2), some (.ref a3), some (.int a4), some (.ref a5), some (.int v6_1), some (.int a7), some (.ref a8), some (.ref a9), some (.int s0)] _ _ _
      refine y_goto dX9_eliminate_179 (t := 32) rfl ?_
      exact y_k (hB32 _ _ _ _ _ _ _ _ W Ta0 Ta3 Ta5 F) ⟨rfl, rfl, rfl, rfl, rfl, rfl, rfl, trivial⟩

def w_So_eliminate_51 (C : zC) (n0 : Nat) (Q : zS → Prop) (B12 : Nat → Int32 → Int32 → Nat → Int32 → zS → Prop) (B32 : Nat → Int32 → Int32 → Nat → Int32 → Nat → Int32 → zS → Prop) (a0 : Nat) (a1 : Int32) (a2 : Int32) (a3 : Nat) (a4 : Int32) (a5 : Nat) (a6 : Int32) (s0 : Int32) (κ : zS) : Prop :=
  ∀ _ : zT κ a0 = 12,
  zRun C 2 mSo_cell [.ref a0, .int a4, .int s0] κ (oR 8 (fun r2 κ1 =>
    ∀ _ : zW C n0 κ1,
    ∀ _ : zM (zn κ) κ κ1,
    ∀ _ : zT κ1 r2 = 8,
    ∀ _ : zT κ1 a0 = 12,
    zRun C 2 mSo_cell [.ref a0, .int a1, .int s0] κ1 (oR 8 (fun r5 κ4 =>
      ∀ _ : zW C n0 κ4,
      ∀ _ : zM (zn κ1) κ1 κ4,
      ∀ _ : zT κ4 r5 = 8,
      ((zI κ4 nuLength a5) ≤ (0 : Int32) →
        w_So_eliminate_93 C n0 Q B12 B32 a0 a1 a2 a3 a4 a5 a6 s0 r2 r5 (0 : Int32) κ4) ∧
      (¬ (zI κ4 nuLength a5) ≤ (0 : Int32) →
        ((zI κ4 nuLength r5) ≤ (0 : Int32) →
          w_So_eliminate_93 C n0 Q B12 B32 a0 a1 a2 a3 a4 a5 a6 s0 r2 r5 (0 : Int32) κ4) ∧
        (¬ (zI κ4 nuLength r5) ≤ (0 : Int32) →
          w_So_eliminate_93 C n0 Q B12 B32 a0 a1 a2 a3 a4 a5 a6 s0 r2 r5 (1 : Int32) κ4))) noX)) noX)
theorem t_So_eliminate_51 {C : zC} {n0 : Nat} {Q : zS → Prop} {B12 : Nat → Int32 → Int32 → Nat → Int32 → zS → Prop} {B32 : Nat → Int32 → Int32 → Nat → Int32 → Nat → Int32 → zS → Prop} (hB12 : ∀ a0' a1' a2' a3' a4' τ, zW C n0 τ → zT τ a0' = 12 → zT τ a3' = 8 → B12 a0' a1' a2' a3' a4' τ → zG C n0 4 mSo_eliminate 12 [some (.ref a0'), some (.int a1'), some (.int a2'), some (.ref a3'), some (.int a4'), none, none, none, none, none, none] [] τ (oV Q noX)) (hB32 : ∀ a0' a1' a2' a3' a4' a5' a6' τ, zW C n0 τ → zT τ a0' = 12 → zT τ a3' = 8 → zT τ a5' = 8 → B32 a0' a1' a2' a3' a4' a5' a6' τ → zG C n0 4 mSo_eliminate 32 [some (.ref a0'), some (.int a1'), some (.int a2'), some (.ref a3'), some (.int a4'), some (.ref a5'), some (.int a6'), none, none, none, none] [] τ (oV Q noX)) {a0 : Nat} {a1 : Int32} {a2 : Int32} {a3 : Nat} {a4 : Int32} {a5 : Nat} {a6 : Int32} {s0 : Int32} {κ : zS} (W : zW C n0 κ) (Ta0 : zT κ a0 = 12) (Ta3 : zT κ a3 = 8) (Ta5 : zT κ a5 = 8) (F : w_So_eliminate_51 C n0 Q B12 B32 a0 a1 a2 a3 a4 a5 a6 s0 κ) : zG C n0 4 mSo_eliminate 51 [some (.ref a0), some (.int a1), some (.int a2), some (.ref a3), some (.int a4), some (.ref a5), some (.int a6), none, none, none, none] [.int s0] κ (oV Q noX) := by
  unfold w_So_eliminate_51 at F
  refine y_is dX9_eliminate_51 (Nat.le_of_ble_eq_true rfl) rfl ?_
  show zG _ _ _ _ _ [some (.ref a0), some (.int a1), some (.int a2), some (.ref a3), some (.int a4), some (.ref a5), some (.int a6), some (.int s0), none, none, none] _ _ _
  refine y_aln dX9_eliminate_53 rfl ?_
  refine y_il dX9_eliminate_54 rfl ?_
  refine y_il dX9_eliminate_56 rfl ?_
  replace F := F Ta0
  refine k_X9_246 W dX9_eliminate_58 rfl (Nat.le_of_ble_eq_true rfl) (Nat.le_of_ble_eq_true rfl) (Or.inl Ta0) F (fun r2 κ1 Wκ1 Mκ1 g3 F => ?_) (fun _ _ h9 => False.elim h9)
  replace F := F Wκ1 Mκ1 g3
  refine y_as dX9_eliminate_61 (Nat.le_of_ble_eq_true rfl) rfl ?_
  show zG _ _ _ _ _ [some (.ref a0), some (.int a1), some (.int a2), some (.ref a3), some (.int a4), some (.ref a5), some (.int a6), some (.int s0), some (.ref r2), none, none] _ _ _
  refine y_aln dX9_eliminate_63 rfl ?_
  refine y_iln dX9_eliminate_64 rfl ?_
  refine y_il dX9_eliminate_65 rfl ?_
  have h6 := (ztm W Mκ1 Ta0)
  replace F := F h6
  refine k_X9_246 Wκ1 dX9_eliminate_67 rfl (Nat.le_of_ble_eq_true rfl) (Nat.le_of_ble_eq_true rfl) (Or.inl h6) F (fun r5 κ4 Wκ4 Mκ4 g7 F => ?_) (fun _ _ h9 => False.elim h9)
  replace F := F Wκ4 Mκ4 g7
  refine y_as dX9_eliminate_70 (Nat.le_of_ble_eq_true rfl) rfl ?_
  show zG _ _ _ _ _ [some (.ref a0), some (.int a1), some (.int a2), some (.ref a3), some (.int a4), some (.ref a5), some (.int a6), some (.int s0), some (.ref r2), some (.ref r5), none] _ _ _
  refine y_al dX9_eliminate_72 rfl ?_
  have h8 := (ztm Wκ1 Mκ4 (ztm W Mκ1 Ta5))
  refine gf_X9_250 dX9_eliminate_74 rfl (Or.inl h8) ?_
  refine y_i ((zI κ4 nuLength a5) ≤ (0 : Int32)) dX9_eliminate_77 (t := 92) rfl rfl (fun c9 => ?_) (fun c9 => ?_)
  · replace F := F.1 c9
    refine y_ic dX9_eliminate_92 zi_0 ?_
    have h9 := (ztm Wκ1 Mκ4 h6)
    have h10 := (ztm Wκ1 Mκ4 (ztm W Mκ1 Ta3))
    have h11 := (ztm Wκ1 Mκ4 g3)
    exact y_k (t_So_eliminate_93 hB12 hB32 Wκ4 h9 h10 h8 h11 g7 F) ⟨rfl, rfl, rfl, rfl, rfl, rfl, rfl, rfl, rfl, rfl, trivial⟩
  · replace F := F.2 c9
    refine y_al dX9_eliminate_80 rfl ?_
    refine gf_X9_250 dX9_eliminate_82 rfl (Or.inl g7) ?_
    refine y_i ((zI κ4 nuLength r5) ≤ (0 : Int32)) dX9_eliminate_85 (t := 92) rfl rfl (fun c9 => ?_) (fun c9 => ?_)
    · replace F := F.1 c9
      refine y_ic dX9_eliminate_92 zi_0 ?_
      have h12 := (ztm Wκ1 Mκ4 h6)
      have h13 := (ztm Wκ1 Mκ4 (ztm W Mκ1 Ta3))
      have h14 := (ztm Wκ1 Mκ4 g3)
      exact y_k (t_So_eliminate_93 hB12 hB32 Wκ4 h12 h13 h8 h14 g7 F) ⟨rfl, rfl, rfl, rfl, rfl, rfl, rfl, rfl, rfl, rfl, trivial⟩
    · replace F := F.2 c9
      refine y_ic dX9_eliminate_88 zi_1 ?_
      refine y_goto dX9_eliminate_89 (t := 93) rfl ?_
      have h15 := (ztm Wκ1 Mκ4 h6)
      have h16 := (ztm Wκ1 Mκ4 (ztm W Mκ1 Ta3))
      have h17 := (ztm Wκ1 Mκ4 g3)
      exact y_k (t_So_eliminate_93 hB12 hB32 Wκ4 h15 h16 h8 h17 g7 F) ⟨rfl, rfl, rfl, rfl, rfl, rfl, rfl, rfl, rfl, rfl, trivial⟩

def w_So_eliminate_32 (C : zC) (n0 : Nat) (Q : zS → Prop) (B12 : Nat → Int32 → Int32 → Nat → Int32 → zS → Prop) (a0 : Nat) (a1 : Int32) (a2 : Int32) (a3 : Nat) (a4 : Int32) (a5 : Nat) (a6 : Int32) (κ : zS) : Prop :=
  ∃ I : Nat → Nat → Int32 → Int32 → Nat → Int32 → Nat → Int32 → zS → Prop, (∃ n, I n a0 a1 a2 a3 a4 a5 a6 κ) ∧ ∀ n a0 a1 a2 a3 a4 a5 a6 κ, zW C n0 κ → zT κ a0 = 12 → zT κ a3 = 8 → zT κ a5 = 8 → I n a0 a1 a2 a3 a4 a5 a6 κ →
    (a2 < a6 →
      ∀ v4_1 : Int32, v4_1 = a4 + (1 : Int32) →
      B12 a0 a1 a2 a3 v4_1 κ) ∧
    (¬ a2 < a6 →
      (a2 ≤ a6 →
        w_So_eliminate_51 C n0 Q B12 (fun a0' a1' a2' a3' a4' a5' a6' τ => ∃ k < n, I k a0' a1' a2' a3' a4' a5' a6' τ) a0 a1 a2 a3 a4 a5 a6 (32 : Int32) κ) ∧
      (¬ a2 ≤ a6 →
        w_So_eliminate_51 C n0 Q B12 (fun a0' a1' a2' a3' a4' a5' a6' τ => ∃ k < n, I k a0' a1' a2' a3' a4' a5' a6' τ) a0 a1 a2 a3 a4 a5 a6 a6 κ))
theorem t_So_eliminate_32 {C : zC} {n0 : Nat} {Q : zS → Prop} {B12 : Nat → Int32 → Int32 → Nat → Int32 → zS → Prop} (hB12 : ∀ a0' a1' a2' a3' a4' τ, zW C n0 τ → zT τ a0' = 12 → zT τ a3' = 8 → B12 a0' a1' a2' a3' a4' τ → zG C n0 4 mSo_eliminate 12 [some (.ref a0'), some (.int a1'), some (.int a2'), some (.ref a3'), some (.int a4'), none, none, none, none, none, none] [] τ (oV Q noX)) {a0 : Nat} {a1 : Int32} {a2 : Int32} {a3 : Nat} {a4 : Int32} {a5 : Nat} {a6 : Int32} {κ : zS} (W : zW C n0 κ) (Ta0 : zT κ a0 = 12) (Ta3 : zT κ a3 = 8) (Ta5 : zT κ a5 = 8) (F : w_So_eliminate_32 C n0 Q B12 a0 a1 a2 a3 a4 a5 a6 κ) : zG C n0 4 mSo_eliminate 32 [some (.ref a0), some (.int a1), some (.int a2), some (.ref a3), some (.int a4), some (.ref a5), some (.int a6), none, none, none, none] [] κ (oV Q noX) := by
  obtain ⟨I, ⟨m0, hI0⟩, F0⟩ := F
  have key : ∀ n a0 a1 a2 a3 a4 a5 a6 κ, zW C n0 κ → zT κ a0 = 12 → zT κ a3 = 8 → zT κ a5 = 8 → I n a0 a1 a2 a3 a4 a5 a6 κ → zG C n0 4 mSo_eliminate 32 [some (.ref a0), some (.int a1), some (.int a2), some (.ref a3), some (.int a4), some (.ref a5), some (.int a6), none, none, none, none] [] κ (oV Q noX) := by
    intro n
    induction n using Nat.strongRecOn with
    | _ n ih =>
      intro a0 a1 a2 a3 a4 a5 a6 κ W Ta0 Ta3 Ta5 hI
      have F := F0 n a0 a1 a2 a3 a4 a5 a6 κ W Ta0 Ta3 Ta5 hI
      clear hI hI0
      refine y_il dX9_eliminate_32 rfl ?_
      refine y_iln dX9_eliminate_34 rfl ?_
      refine y_ii (a2 < a6) dX9_eliminate_35 (t := 182) rfl rfl (fun c9 => ?_) (fun c9 => ?_)
      · replace F := F.1 c9
        refine y_incb dX9_eliminate_182 zi_1 rfl (Nat.le_of_ble_eq_true rfl) (fun v4_1 ev4_1 => ?_)
        replace F := F v4_1 ev4_1
        show zG _ _ _ _ _ [some (.ref a0), some (.int a1), some (.int a2), some (.ref a3), some (.int v4_1), some (.ref a5), some (.int a6), none, none, none, none] _ _ _
        refine y_goto dX9_eliminate_185 (t := 12) rfl ?_
        exact y_k (hB12 _ _ _ _ _ _ W Ta0 Ta3 F) ⟨rfl, rfl, rfl, rfl, rfl, trivial⟩
      · replace F := F.2 c9
        refine y_il dX9_eliminate_38 rfl ?_
        refine y_iln dX9_eliminate_40 rfl ?_
        refine y_ii (a2 ≤ a6) dX9_eliminate_41 (t := 49) rfl rfl (fun c9 => ?_) (fun c9 => ?_)
        · replace F := F.1 c9
          refine y_bi1 dX9_eliminate_49 zb_32 ?_
          exact y_k (t_So_eliminate_51 hB12 (fun a0' a1' a2' a3' a4' a5' a6' τ w9 f09 f19 f29 hb => by obtain ⟨k, hk, hI⟩ := hb; exact ih k hk a0' a1' a2' a3' a4' a5' a6' τ w9 f09 f19 f29 hI) W Ta0 Ta3 Ta5 F) ⟨rfl, rfl, rfl, rfl, rfl, rfl, rfl, trivial⟩
        · replace F := F.2 c9
          refine y_il dX9_eliminate_44 rfl ?_
          refine y_goto dX9_eliminate_46 (t := 51) rfl ?_
          exact y_k (t_So_eliminate_51 hB12 (fun a0' a1' a2' a3' a4' a5' a6' τ w9 f09 f19 f29 hb => by obtain ⟨k, hk, hI⟩ := hb; exact ih k hk a0' a1' a2' a3' a4' a5' a6' τ w9 f09 f19 f29 hI) W Ta0 Ta3 Ta5 F) ⟨rfl, rfl, rfl, rfl, rfl, rfl, rfl, trivial⟩
  exact key m0 a0 a1 a2 a3 a4 a5 a6 κ W Ta0 Ta3 Ta5 hI0

def w_So_eliminate_12 (C : zC) (n0 : Nat) (Q : zS → Prop)  (a0 : Nat) (a1 : Int32) (a2 : Int32) (a3 : Nat) (a4 : Int32) (κ : zS) : Prop :=
  ∃ I : Nat → Nat → Int32 → Int32 → Nat → Int32 → zS → Prop, (∃ n, I n a0 a1 a2 a3 a4 κ) ∧ ∀ n a0 a1 a2 a3 a4 κ, zW C n0 κ → zT κ a0 = 12 → zT κ a3 = 8 → I n a0 a1 a2 a3 a4 κ →
    (a2 ≤ a4 →
      Q κ) ∧
    (¬ a2 ≤ a4 →
      ∀ _ : zT κ a0 = 12,
      zRun C 2 mSo_cell [.ref a0, .int a4, .int a1] κ (oR 8 (fun r2 κ1 =>
        ∀ _ : zW C n0 κ1,
        ∀ _ : zM (zn κ) κ κ1,
        ∀ _ : zT κ1 r2 = 8,
        ∀ v6_4 : Int32, v6_4 = (a1 + (1 : Int32)) →
        w_So_eliminate_32 C n0 Q (fun a0' a1' a2' a3' a4' τ => ∃ k < n, I k a0' a1' a2' a3' a4' τ) a0 a1 a2 a3 a4 r2 v6_4 κ1) noX))
theorem t_So_eliminate_12 {C : zC} {n0 : Nat} {Q : zS → Prop}   {a0 : Nat} {a1 : Int32} {a2 : Int32} {a3 : Nat} {a4 : Int32} {κ : zS} (W : zW C n0 κ) (Ta0 : zT κ a0 = 12) (Ta3 : zT κ a3 = 8) (F : w_So_eliminate_12 C n0 Q  a0 a1 a2 a3 a4 κ) : zG C n0 4 mSo_eliminate 12 [some (.ref a0), some (.int a1), some (.int a2), some (.ref a3), some (.int a4), none, none, none, none, none, none] [] κ (oV Q noX) := by
  obtain ⟨I, ⟨m0, hI0⟩, F0⟩ := F
  have key : ∀ n a0 a1 a2 a3 a4 κ, zW C n0 κ → zT κ a0 = 12 → zT κ a3 = 8 → I n a0 a1 a2 a3 a4 κ → zG C n0 4 mSo_eliminate 12 [some (.ref a0), some (.int a1), some (.int a2), some (.ref a3), some (.int a4), none, none, none, none, none, none] [] κ (oV Q noX) := by
    intro n
    induction n using Nat.strongRecOn with
    | _ n ih =>
      intro a0 a1 a2 a3 a4 κ W Ta0 Ta3 hI
      have F := F0 n a0 a1 a2 a3 a4 κ W Ta0 Ta3 hI
      clear hI hI0
      refine y_il dX9_eliminate_12 rfl ?_
      refine y_iln dX9_eliminate_14 rfl ?_
      refine y_ii (a2 ≤ a4) dX9_eliminate_15 (t := 188) rfl rfl (fun c9 => ?_) (fun c9 => ?_)
      · replace F := F.1 c9
        exact y_rv W dX9_eliminate_188 rfl F
      · replace F := F.2 c9
        refine y_aln dX9_eliminate_18 rfl ?_
        refine y_il dX9_eliminate_19 rfl ?_
        refine y_iln dX9_eliminate_21 rfl ?_
        replace F := F Ta0
        refine k_X9_246 W dX9_eliminate_22 rfl (Nat.le_of_ble_eq_true rfl) (Nat.le_of_ble_eq_true rfl) (Or.inl Ta0) F (fun r2 κ1 Wκ1 Mκ1 g3 F => ?_) (fun _ _ h9 => False.elim h9)
        replace F := F Wκ1 Mκ1 g3
        refine y_as dX9_eliminate_25 (Nat.le_of_ble_eq_true rfl) rfl ?_
        show zG _ _ _ _ _ [some (.ref a0), some (.int a1), some (.int a2), some (.ref a3), some (.int a4), some (.ref r2), none, none, none, none, none] _ _ _
        refine y_iln dX9_eliminate_27 rfl ?_
        refine y_ic dX9_eliminate_28 zi_1 ?_
        refine y_iadd dX9_eliminate_29 ?_
        refine y_isb dX9_eliminate_30 (Nat.le_of_ble_eq_true rfl) (fun v6_4 ev6_4 => ?_)
        replace F := F v6_4 ev6_4
        show zG _ _ _ _ _ [some (.ref a0), some (.int a1), some (.int a2), some (.ref a3), some (.int a4), some (.ref r2), some (.int v6_4), none, none, none, none] _ _ _
        have h5 := (ztm W Mκ1 Ta0)
        have h6 := (ztm W Mκ1 Ta3)
        exact y_k (t_So_eliminate_32 (fun a0' a1' a2' a3' a4' τ w9 f09 f19 hb => by obtain ⟨k, hk, hI⟩ := hb; exact ih k hk a0' a1' a2' a3' a4' τ w9 f09 f19 hI) Wκ1 h5 h6 g3 F) ⟨rfl, rfl, rfl, rfl, rfl, rfl, rfl, trivial⟩
  exact key m0 a0 a1 a2 a3 a4 κ W Ta0 Ta3 hI0

def w_So_eliminate_0 (C : zC) (n0 : Nat) (Q : zS → Prop)  (a0 : Nat) (a1 : Int32) (a2 : Int32) (κ : zS) : Prop :=
  ∀ _ : zT κ a0 = 12,
  zRun C 2 mSo_cell [.ref a0, .int a1, .int a1] κ (oR 8 (fun r2 κ1 =>
    ∀ _ : zW C n0 κ1,
    ∀ _ : zM (zn κ) κ κ1,
    ∀ _ : zT κ1 r2 = 8,
    ∀ v4_4 : Int32, v4_4 = (a1 + (1 : Int32)) →
    w_So_eliminate_12 C n0 Q  a0 a1 a2 r2 v4_4 κ1) noX)
theorem t_So_eliminate_0 {C : zC} {n0 : Nat} {Q : zS → Prop}   {a0 : Nat} {a1 : Int32} {a2 : Int32} {κ : zS} (W : zW C n0 κ) (Ta0 : zT κ a0 = 12) (F : w_So_eliminate_0 C n0 Q  a0 a1 a2 κ) : zG C n0 4 mSo_eliminate 0 [some (.ref a0), some (.int a1), some (.int a2), none, none, none, none, none, none, none, none] [] κ (oV Q noX) := by
  unfold w_So_eliminate_0 at F
  refine y_aln dX9_eliminate_0 rfl ?_
  refine y_iln dX9_eliminate_1 rfl ?_
  refine y_iln dX9_eliminate_2 rfl ?_
  replace F := F Ta0
  refine k_X9_246 W dX9_eliminate_3 rfl (Nat.le_of_ble_eq_true rfl) (Nat.le_of_ble_eq_true rfl) (Or.inl Ta0) F (fun r2 κ1 Wκ1 Mκ1 g3 F => ?_) (fun _ _ h9 => False.elim h9)
  replace F := F Wκ1 Mκ1 g3
  refine y_asn dX9_eliminate_6 (Nat.le_of_ble_eq_true rfl) rfl ?_
  show zG _ _ _ _ _ [some (.ref a0), some (.int a1), some (.int a2), some (.ref r2), none, none, none, none, none, none, none] _ _ _
  refine y_iln dX9_eliminate_7 rfl ?_
  refine y_ic dX9_eliminate_8 zi_1 ?_
  refine y_iadd dX9_eliminate_9 ?_
  refine y_isb dX9_eliminate_10 (Nat.le_of_ble_eq_true rfl) (fun v4_4 ev4_4 => ?_)
  replace F := F v4_4 ev4_4
  show zG _ _ _ _ _ [some (.ref a0), some (.int a1), some (.int a2), some (.ref r2), some (.int v4_4), none, none, none, none, none, none] _ _ _
  have h5 := (ztm W Mκ1 Ta0)
  exact y_k (t_So_eliminate_12  Wκ1 h5 g3 F) ⟨rfl, rfl, rfl, rfl, rfl, trivial⟩

theorem So_eliminate_run {C : zC} {n0 : Nat} {Q : zS → Prop} {a0 : Nat} {a1 : Int32} {a2 : Int32} {κ : zS} (W : zW C n0 κ) (Ta0 : zT κ a0 = 12) (F : w_So_eliminate_0 C (zn κ) Q a0 a1 a2 κ) : zRun C 4 mSo_eliminate [.ref a0, .int a1, .int a2] κ (oV Q noX) := z_run (m_ent _ 8) (t_So_eliminate_0 (W.lo (Nat.le_trans W.1.2.1 W.1.2.2) (Nat.le_refl _)) Ta0 F)

theorem dX9_putBack_0 : decode cX9_putBack 0 = .ok (.iload_n 1, 1) := by decide +kernel
theorem dX9_putBack_1 : decode cX9_putBack 1 = .ok (.iconst 2, 1) := by decide +kernel
theorem dX9_putBack_2 : decode cX9_putBack 2 = .ok (.isub, 1) := by decide +kernel
theorem dX9_putBack_3 : decode cX9_putBack 3 = .ok (.istore_n 3, 1) := by decide +kernel
theorem dX9_putBack_4 : decode cX9_putBack 4 = .ok (.iload_n 3, 1) := by decide +kernel
theorem dX9_putBack_5 : decode cX9_putBack 5 = .ok (.ifCond .lt 120, 3) := by decide +kernel
theorem dX9_putBack_8 : decode cX9_putBack 8 = .ok (.aload_n 0, 1) := by decide +kernel
theorem dX9_putBack_9 : decode cX9_putBack 9 = .ok (.iload_n 3, 1) := by decide +kernel
theorem dX9_putBack_10 : decode cX9_putBack 10 = .ok (.bipush 32, 2) := by decide +kernel
theorem dX9_putBack_12 : decode cX9_putBack 12 = .ok (.invokevirtual 246, 3) := by decide +kernel
theorem dX9_putBack_15 : decode cX9_putBack 15 = .ok (.astore 4, 2) := by decide +kernel
theorem dX9_putBack_17 : decode cX9_putBack 17 = .ok (.aload_n 0, 1) := by decide +kernel
theorem dX9_putBack_18 : decode cX9_putBack 18 = .ok (.getfield 58, 3) := by decide +kernel
theorem dX9_putBack_21 : decode cX9_putBack 21 = .ok (.aload_n 2, 1) := by decide +kernel
theorem dX9_putBack_22 : decode cX9_putBack 22 = .ok (.aload 4, 2) := by decide +kernel
theorem dX9_putBack_24 : decode cX9_putBack 24 = .ok (.invokevirtual 227, 3) := by decide +kernel
theorem dX9_putBack_27 : decode cX9_putBack 27 = .ok (.iload_n 3, 1) := by decide +kernel
theorem dX9_putBack_28 : decode cX9_putBack 28 = .ok (.iconst 1, 1) := by decide +kernel
theorem dX9_putBack_29 : decode cX9_putBack 29 = .ok (.iadd, 1) := by decide +kernel
theorem dX9_putBack_30 : decode cX9_putBack 30 = .ok (.istore 5, 2) := by decide +kernel
theorem dX9_putBack_32 : decode cX9_putBack 32 = .ok (.iload 5, 2) := by decide +kernel
theorem dX9_putBack_34 : decode cX9_putBack 34 = .ok (.iload_n 1, 1) := by decide +kernel
theorem dX9_putBack_35 : decode cX9_putBack 35 = .ok (.if_icmp .ge 55, 3) := by decide +kernel
theorem dX9_putBack_38 : decode cX9_putBack 38 = .ok (.aload_n 0, 1) := by decide +kernel
theorem dX9_putBack_39 : decode cX9_putBack 39 = .ok (.iload_n 3, 1) := by decide +kernel
theorem dX9_putBack_40 : decode cX9_putBack 40 = .ok (.iload 5, 2) := by decide +kernel
theorem dX9_putBack_42 : decode cX9_putBack 42 = .ok (.invokevirtual 246, 3) := by decide +kernel
theorem dX9_putBack_45 : decode cX9_putBack 45 = .ok (.getfield 250, 3) := by decide +kernel
theorem dX9_putBack_48 : decode cX9_putBack 48 = .ok (.ifCond .le 36, 3) := by decide +kernel
theorem dX9_putBack_51 : decode cX9_putBack 51 = .ok (.aload_n 0, 1) := by decide +kernel
theorem dX9_putBack_52 : decode cX9_putBack 52 = .ok (.getfield 55, 3) := by decide +kernel
theorem dX9_putBack_55 : decode cX9_putBack 55 = .ok (.aload_n 0, 1) := by decide +kernel
theorem dX9_putBack_56 : decode cX9_putBack 56 = .ok (.iload_n 3, 1) := by decide +kernel
theorem dX9_putBack_57 : decode cX9_putBack 57 = .ok (.iload 5, 2) := by decide +kernel
theorem dX9_putBack_59 : decode cX9_putBack 59 = .ok (.invokevirtual 246, 3) := by decide +kernel
theorem dX9_putBack_62 : decode cX9_putBack 62 = .ok (.aload_n 0, 1) := by decide +kernel
theorem dX9_putBack_63 : decode cX9_putBack 63 = .ok (.iload 5, 2) := by decide +kernel
theorem dX9_putBack_65 : decode cX9_putBack 65 = .ok (.bipush 32, 2) := by decide +kernel
theorem dX9_putBack_67 : decode cX9_putBack 67 = .ok (.invokevirtual 246, 3) := by decide +kernel
theorem dX9_putBack_70 : decode cX9_putBack 70 = .ok (.invokevirtual 227, 3) := by decide +kernel
theorem dX9_putBack_73 : decode cX9_putBack 73 = .ok (.aload_n 0, 1) := by decide +kernel
theorem dX9_putBack_74 : decode cX9_putBack 74 = .ok (.getfield 58, 3) := by decide +kernel
theorem dX9_putBack_77 : decode cX9_putBack 77 = .ok (.aload_n 0, 1) := by decide +kernel
theorem dX9_putBack_78 : decode cX9_putBack 78 = .ok (.getfield 55, 3) := by decide +kernel
theorem dX9_putBack_81 : decode cX9_putBack 81 = .ok (.invokevirtual 236, 3) := by decide +kernel
theorem dX9_putBack_84 : decode cX9_putBack 84 = .ok (.iinc 5 1, 3) := by decide +kernel
theorem dX9_putBack_87 : decode cX9_putBack 87 = .ok (.goto (-55), 3) := by decide +kernel
theorem dX9_putBack_90 : decode cX9_putBack 90 = .ok (.aload_n 0, 1) := by decide +kernel
theorem dX9_putBack_91 : decode cX9_putBack 91 = .ok (.getfield 15, 3) := by decide +kernel
theorem dX9_putBack_94 : decode cX9_putBack 94 = .ok (.aload_n 0, 1) := by decide +kernel
theorem dX9_putBack_95 : decode cX9_putBack 95 = .ok (.getfield 58, 3) := by decide +kernel
theorem dX9_putBack_98 : decode cX9_putBack 98 = .ok (.aload_n 0, 1) := by decide +kernel
theorem dX9_putBack_99 : decode cX9_putBack 99 = .ok (.iload_n 3, 1) := by decide +kernel
theorem dX9_putBack_100 : decode cX9_putBack 100 = .ok (.iload_n 3, 1) := by decide +kernel
theorem dX9_putBack_101 : decode cX9_putBack 101 = .ok (.invokevirtual 246, 3) := by decide +kernel
theorem dX9_putBack_104 : decode cX9_putBack 104 = .ok (.invokevirtual 230, 3) := by decide +kernel
theorem dX9_putBack_107 : decode cX9_putBack 107 = .ok (.aload 4, 2) := by decide +kernel
theorem dX9_putBack_109 : decode cX9_putBack 109 = .ok (.aload_n 0, 1) := by decide +kernel
theorem dX9_putBack_110 : decode cX9_putBack 110 = .ok (.getfield 15, 3) := by decide +kernel
theorem dX9_putBack_113 : decode cX9_putBack 113 = .ok (.getfield 233, 3) := by decide +kernel
theorem dX9_putBack_116 : decode cX9_putBack 116 = .ok (.invokevirtual 213, 3) := by decide +kernel
theorem dX9_putBack_119 : decode cX9_putBack 119 = .ok (.iinc 3 (-1), 3) := by decide +kernel
theorem dX9_putBack_122 : decode cX9_putBack 122 = .ok (.goto (-118), 3) := by decide +kernel
theorem dX9_putBack_125 : decode cX9_putBack 125 = .ok (.return_, 1) := by decide +kernel
def w_So_putBack_32 (C : zC) (n0 : Nat) (Q : zS → Prop) (B4 : Nat → Int32 → Nat → Int32 → zS → Prop) (a0 : Nat) (a1 : Int32) (a2 : Nat) (a3 : Int32) (a4 : Nat) (a5 : Int32) (κ : zS) : Prop :=
  ∃ I : Nat → Nat → Int32 → Nat → Int32 → Nat → Int32 → zS → Prop, (∃ n, I n a0 a1 a2 a3 a4 a5 κ) ∧ ∀ n a0 a1 a2 a3 a4 a5 κ, zW C n0 κ → zT κ a0 = 12 → zT κ a2 = 8 → zT κ a4 = 8 → I n a0 a1 a2 a3 a4 a5 κ →
    (a1 ≤ a5 →
      ∀ _ : zT κ a0 = 12,
      zRun C 2 mSo_cell [.ref a0, .int a3, .int a3] κ (oR 8 (fun r2 κ1 =>
        ∀ _ : zW C n0 κ1,
        ∀ _ : zM (zn κ) κ κ1,
        ∀ _ : zT κ1 r2 = 8,
        ∀ _ : zT κ1 (zR κ soCalc a0) = 4,
        ∀ _ : zT κ1 (zR κ soSum a0) = 8,
        ∀ _ : zT κ1 r2 = 8,
        zRun C 2 mCa_divide [.ref (zR κ soCalc a0), .ref (zR κ soSum a0), .ref r2] κ1 (oV (fun κ4 =>
          ∀ _ : zW C n0 κ4,
          ∀ _ : zM (zn κ1) κ1 κ4,
          ∀ _ : zT κ4 a4 = 8,
          ∀ _ : zT κ4 (zR κ4 caQuotient (zR κ4 soCalc a0)) = 8,
          zRun C 1 mNu_copy [.ref a4, .ref (zR κ4 caQuotient (zR κ4 soCalc a0))] κ4 (oV (fun κ10 =>
            ∀ _ : zW C n0 κ10,
            ∀ _ : zM (zn κ4) κ4 κ10,
            ∀ v3_14 : Int32, v3_14 = a3 + (-1 : Int32) →
            B4 a0 a1 a2 v3_14 κ10) noX)) noX)) noX)) ∧
    (¬ a1 ≤ a5 →
      ∀ _ : zT κ a0 = 12,
      zRun C 2 mSo_cell [.ref a0, .int a3, .int a5] κ (oR 8 (fun r18 κ17 =>
        ∀ _ : zW C n0 κ17,
        ∀ _ : zM (zn κ) κ κ17,
        ∀ _ : zT κ17 r18 = 8,
        ((zI κ17 nuLength r18) ≤ (0 : Int32) →
          ∀ v5_20 : Int32, v5_20 = a5 + (1 : Int32) →
          ∃ k < n, I k a0 a1 a2 a3 a4 v5_20 κ17) ∧
        (¬ (zI κ17 nuLength r18) ≤ (0 : Int32) →
          ∀ _ : zT κ17 a0 = 12,
          zRun C 2 mSo_cell [.ref a0, .int a3, .int a5] κ17 (oR 8 (fun r26 κ25 =>
            ∀ _ : zW C n0 κ25,
            ∀ _ : zM (zn κ17) κ17 κ25,
            ∀ _ : zT κ25 r26 = 8,
            ∀ _ : zT κ25 a0 = 12,
            zRun C 2 mSo_cell [.ref a0, .int a5, .int (32 : Int32)] κ25 (oR 8 (fun r29 κ28 =>
              ∀ _ : zW C n0 κ28,
              ∀ _ : zM (zn κ25) κ25 κ28,
              ∀ _ : zT κ28 r29 = 8,
              ∀ _ : zT κ28 (zR κ17 soTerm a0) = 8,
              ∀ _ : zT κ28 r26 = 8,
              ∀ _ : zT κ28 r29 = 8,
              zRun C 3 mNu_product [.ref (zR κ17 soTerm a0), .ref r26, .ref r29] κ28 (oV (fun κ32 =>
                ∀ _ : zW C n0 κ32,
                ∀ _ : zM (zn κ28) κ28 κ32,
                ∀ _ : zT κ32 (zR κ32 soSum a0) = 8,
                ∀ _ : zT κ32 (zR κ32 soTerm a0) = 8,
                zRun C 3 mNu_plus [.ref (zR κ32 soSum a0), .ref (zR κ32 soTerm a0)] κ32 (oV (fun κ38 =>
                  ∀ _ : zW C n0 κ38,
                  ∀ _ : zM (zn κ32) κ32 κ38,
                  ∀ v5_41 : Int32, v5_41 = a5 + (1 : Int32) →
                  ∃ k < n, I k a0 a1 a2 a3 a4 v5_41 κ38) noX)) noX)) noX)) noX))) noX))
theorem t_So_putBack_32 {C : zC} {n0 : Nat} {Q : zS → Prop} {B4 : Nat → Int32 → Nat → Int32 → zS → Prop} (hB4 : ∀ a0' a1' a2' a3' τ, zW C n0 τ → zT τ a0' = 12 → zT τ a2' = 8 → B4 a0' a1' a2' a3' τ → zG C n0 4 mSo_putBack 4 [some (.ref a0'), some (.int a1'), some (.ref a2'), some (.int a3'), none, none] [] τ (oV Q noX)) {a0 : Nat} {a1 : Int32} {a2 : Nat} {a3 : Int32} {a4 : Nat} {a5 : Int32} {κ : zS} (W : zW C n0 κ) (Ta0 : zT κ a0 = 12) (Ta2 : zT κ a2 = 8) (Ta4 : zT κ a4 = 8) (F : w_So_putBack_32 C n0 Q B4 a0 a1 a2 a3 a4 a5 κ) : zG C n0 4 mSo_putBack 32 [some (.ref a0), some (.int a1), some (.ref a2), some (.int a3), some (.ref a4), some (.int a5)] [] κ (oV Q noX) := by
  obtain ⟨I, ⟨m0, hI0⟩, F0⟩ := F
  have key : ∀ n a0 a1 a2 a3 a4 a5 κ, zW C n0 κ → zT κ a0 = 12 → zT κ a2 = 8 → zT κ a4 = 8 → I n a0 a1 a2 a3 a4 a5 κ → zG C n0 4 mSo_putBack 32 [some (.ref a0), some (.int a1), some (.ref a2), some (.int a3), some (.ref a4), some (.int a5)] [] κ (oV Q noX) := by
    intro n
    induction n using Nat.strongRecOn with
    | _ n ih =>
      intro a0 a1 a2 a3 a4 a5 κ W Ta0 Ta2 Ta4 hI
      have F := F0 n a0 a1 a2 a3 a4 a5 κ W Ta0 Ta2 Ta4 hI
      clear hI hI0
      refine y_il dX9_putBack_32 rfl ?_
      refine y_iln dX9_putBack_34 rfl ?_
      refine y_ii (a1 ≤ a5) dX9_putBack_35 (t := 90) rfl rfl (fun c9 => ?_) (fun c9 => ?_)
      · replace F := F.1 c9
        refine y_aln dX9_putBack_90 rfl ?_
        refine gf_X9_15 W dX9_putBack_91 rfl Ta0 ?_
        refine y_aln dX9_putBack_94 rfl ?_
        refine gf_X9_58 W dX9_putBack_95 rfl Ta0 ?_
        refine y_aln dX9_putBack_98 rfl ?_
        refine y_iln dX9_putBack_99 rfl ?_
        refine y_iln dX9_putBack_100 rfl ?_
        replace F := F Ta0
        refine k_X9_246 W dX9_putBack_101 rfl (Nat.le_of_ble_eq_true rfl) (Nat.le_of_ble_eq_true rfl) (Or.inl Ta0) F (fun r2 κ1 Wκ1 Mκ1 g3 F => ?_) (fun _ _ h9 => False.elim h9)
        replace F := F Wκ1 Mκ1 g3
        have h6 := (ztm W Mκ1 (ty_soCalc W Ta0))
        replace F := F h6
        have h7 := (ztm W Mκ1 (ty_soSum W Ta0))
        replace F := F h7
        replace F := F g3
        refine k_X9_230 Wκ1 dX9_putBack_104 rfl (Nat.le_of_ble_eq_true rfl) (Nat.le_of_ble_eq_true rfl) (Or.inl h6) F (fun  κ4 Wκ4 Mκ4 F => ?_) (fun _ _ h9 => False.elim h9)
        replace F := F Wκ4 Mκ4
        refine y_al dX9_putBack_107 rfl ?_
        refine y_aln dX9_putBack_109 rfl ?_
        have h9 := (ztm Wκ1 Mκ4 (ztm W Mκ1 Ta0))
        refine gf_X9_15 Wκ4 dX9_putBack_110 rfl h9 ?_
        refine gf_X9_233 Wκ4 dX9_putBack_113 rfl (ty_soCalc Wκ4 h9) ?_
        have h12 := (ztm Wκ1 Mκ4 (ztm W Mκ1 Ta4))
        replace F := F h12
        replace F := F (ty_caQuotient Wκ4 (ty_soCalc Wκ4 h9))
        refine k_X9_213 Wκ4 dX9_putBack_116 rfl (Nat.le_of_ble_eq_true rfl) (Nat.le_of_ble_eq_true rfl) (Or.inl h12) F (fun  κ10 Wκ10 Mκ10 F => ?_) (fun _ _ h9 => False.elim h9)
        replace F := F Wκ10 Mκ10
        refine y_incb dX9_putBack_119 zi_m1 rfl (Nat.le_of_ble_eq_true rfl) (fun v3_14 ev3_14 => ?_)
        replace F := F v3_14 ev3_14
        show zG _ _ _ _ _ [some (.ref a0), some (.int a1), some (.ref a2), some (.int v3_14), some (.ref a4), some (.int a5)] _ _ _
        refine y_goto dX9_putBack_122 (t := 4) rfl ?_
        have h15 := (ztm Wκ4 Mκ10 h9)
        have h16 := (ztm Wκ4 Mκ10 (ztm Wκ1 Mκ4 (ztm W Mκ1 Ta2)))
        exact y_k (hB4 _ _ _ _ _ Wκ10 h15 h16 F) ⟨rfl, rfl, rfl, rfl, trivial⟩
      · replace F := F.2 c9
        refine y_aln dX9_putBack_38 rfl ?_
        refine y_iln dX9_putBack_39 rfl ?_
        refine y_il dX9_putBack_40 rfl ?_
        replace F := F Ta0
        refine k_X9_246 W dX9_putBack_42 rfl (Nat.le_of_ble_eq_true rfl) (Nat.le_of_ble_eq_true rfl) (Or.inl Ta0) F (fun r18 κ17 Wκ17 Mκ17 g19 F => ?_) (fun _ _ h9 => False.elim h9)
        replace F := F Wκ17 Mκ17 g19
        refine gf_X9_250 dX9_putBack_45 rfl (Or.inl g19) ?_
        refine y_i ((zI κ17 nuLength r18) ≤ (0 : Int32)) dX9_putBack_48 (t := 84) rfl rfl (fun c9 => ?_) (fun c9 => ?_)
        · replace F := F.1 c9
          refine y_incb dX9_putBack_84 zi_1 rfl (Nat.le_of_ble_eq_true rfl) (fun v5_20 ev5_20 => ?_)
          replace F := F v5_20 ev5_20
          show zG _ _ _ _ _ [some (.ref a0), some (.int a1), some (.ref a2), some (.int a3), some (.ref a4), some (.int v5_20)] _ _ _
          refine y_goto dX9_putBack_87 (t := 32) rfl ?_
          have h21 := (ztm W Mκ17 Ta0)
          have h22 := (ztm W Mκ17 Ta2)
          have h23 := (ztm W Mκ17 Ta4)
          obtain ⟨k, hk, hI⟩ := F
          exact y_k (ih k hk _ _ _ _ _ _ _ Wκ17 h21 h22 h23 hI) ⟨rfl, rfl, rfl, rfl, rfl, rfl, trivial⟩
        · replace F := F.2 c9
          refine y_aln dX9_putBack_51 rfl ?_
          have h24 := (ztm W Mκ17 Ta0)
          refine gf_X9_55 Wκ17 dX9_putBack_52 rfl h24 ?_
          refine y_aln dX9_putBack_55 rfl ?_
          refine y_iln dX9_putBack_56 rfl ?_
          refine y_il dX9_putBack_57 rfl ?_
          replace F := F h24
          refine k_X9_246 Wκ17 dX9_putBack_59 rfl (Nat.le_of_ble_eq_true rfl) (Nat.le_of_ble_eq_true rfl) (Or.inl h24) F (fun r26 κ25 Wκ25 Mκ25 g27 F => ?_) (fun _ _ h9 => False.elim h9)
          replace F := F Wκ25 Mκ25 g27
          refine y_aln dX9_putBack_62 rfl ?_
          refine y_il dX9_putBack_63 rfl ?_
          refine y_bi1 dX9_putBack_65 zb_32 ?_
          have h30 := (ztm Wκ17 Mκ25 h24)
          replace F := F h30
          refine k_X9_246 Wκ25 dX9_putBack_67 rfl (Nat.le_of_ble_eq_true rfl) (Nat.le_of_ble_eq_true rfl) (Or.inl h30) F (fun r29 κ28 Wκ28 Mκ28 g31 F => ?_) (fun _ _ h9 => False.elim h9)
          replace F := F Wκ28 Mκ28 g31
          have h34 := (ztm Wκ25 Mκ28 (ztm Wκ17 Mκ25 (ty_soTerm Wκ17 h24)))
          replace F := F h34
          have h35 := (ztm Wκ25 Mκ28 g27)
          replace F := F h35
          replace F := F g31
          refine k_X9_227 Wκ28 dX9_putBack_70 rfl (Nat.le_of_ble_eq_true rfl) (Nat.le_of_ble_eq_true rfl) (Or.inl h34) F (fun  κ32 Wκ32 Mκ32 F => ?_) (fun _ _ h9 => False.elim h9)
          replace F := F Wκ32 Mκ32
          refine y_aln dX9_putBack_73 rfl ?_
          have h37 := (ztm Wκ28 Mκ32 (ztm Wκ25 Mκ28 h30))
          refine gf_X9_58 Wκ32 dX9_putBack_74 rfl h37 ?_
          refine y_aln dX9_putBack_77 rfl ?_
          refine gf_X9_55 Wκ32 dX9_putBack_78 rfl h37 ?_
          replace F := F (ty_soSum Wκ32 h37)
          replace F := F (ty_soTerm Wκ32 h37)
          refine k_X9_236 Wκ32 dX9_putBack_81 rfl (Nat.le_of_ble_eq_true rfl) (Nat.le_of_ble_eq_true rfl) (Or.inl (ty_soSum Wκ32 h37)) F (fun  κ38 Wκ38 Mκ38 F => ?_) (fun _ _ h9 => False.elim h9)
          replace F := F Wκ38 Mκ38
          refine y_incb dX9_putBack_84 zi_1 rfl (Nat.le_of_ble_eq_true rfl) (fun v5_41 ev5_41 => ?_)
          replace F := F v5_41 ev5_41
          show zG _ _ _ _ _ [some (.ref a0), some (.int a1), some (.ref a2), some (.int a3), some (.ref a4), some (.int v5_41)] _ _ _
          refine y_goto dX9_putBack_87 (t := 32) rfl ?_
          have h42 := (ztm Wκ32 Mκ38 h37)
          have h43 := (ztm Wκ32 Mκ38 (ztm Wκ28 Mκ32 (ztm Wκ25 Mκ28 (ztm Wκ17 Mκ25 (ztm W Mκ17 Ta2)))))
          have h44 := (ztm Wκ32 Mκ38 (ztm Wκ28 Mκ32 (ztm Wκ25 Mκ28 (ztm Wκ17 Mκ25 (ztm W Mκ17 Ta4)))))
          obtain ⟨k, hk, hI⟩ := F
          exact y_k (ih k hk _ _ _ _ _ _ _ Wκ38 h42 h43 h44 hI) ⟨rfl, rfl, rfl, rfl, rfl, rfl, trivial⟩
  exact key m0 a0 a1 a2 a3 a4 a5 κ W Ta0 Ta2 Ta4 hI0

def w_So_putBack_4 (C : zC) (n0 : Nat) (Q : zS → Prop)  (a0 : Nat) (a1 : Int32) (a2 : Nat) (a3 : Int32) (κ : zS) : Prop :=
  ∃ I : Nat → Nat → Int32 → Nat → Int32 → zS → Prop, (∃ n, I n a0 a1 a2 a3 κ) ∧ ∀ n a0 a1 a2 a3 κ, zW C n0 κ → zT κ a0 = 12 → zT κ a2 = 8 → I n a0 a1 a2 a3 κ →
    (a3 < (0 : Int32) →
      Q κ) ∧
    (¬ a3 < (0 : Int32) →
      ∀ _ : zT κ a0 = 12,
      zRun C 2 mSo_cell [.ref a0, .int a3, .int (32 : Int32)] κ (oR 8 (fun r2 κ1 =>
        ∀ _ : zW C n0 κ1,
        ∀ _ : zM (zn κ) κ κ1,
        ∀ _ : zT κ1 r2 = 8,
        ∀ _ : zT κ1 (zR κ1 soSum a0) = 8,
        ∀ _ : zT κ1 a2 = 8,
        ∀ _ : zT κ1 r2 = 8,
        zRun C 3 mNu_product [.ref (zR κ1 soSum a0), .ref a2, .ref r2] κ1 (oV (fun κ5 =>
          ∀ _ : zW C n0 κ5,
          ∀ _ : zM (zn κ1) κ1 κ5,
          ∀ v5_9 : Int32, v5_9 = (a3 + (1 : Int32)) →
          w_So_putBack_32 C n0 Q (fun a0' a1' a2' a3' τ => ∃ k < n, I k a0' a1' a2' a3' τ) a0 a1 a2 a3 r2 v5_9 κ5) noX)) noX))
theorem t_So_putBack_4 {C : zC} {n0 : Nat} {Q : zS → Prop}   {a0 : Nat} {a1 : Int32} {a2 : Nat} {a3 : Int32} {κ : zS} (W : zW C n0 κ) (Ta0 : zT κ a0 = 12) (Ta2 : zT κ a2 = 8) (F : w_So_putBack_4 C n0 Q  a0 a1 a2 a3 κ) : zG C n0 4 mSo_putBack 4 [some (.ref a0), some (.int a1), some (.ref a2), some (.int a3), none, none] [] κ (oV Q noX) := by
  obtain ⟨I, ⟨m0, hI0⟩, F0⟩ := F
  have key : ∀ n a0 a1 a2 a3 κ, zW C n0 κ → zT κ a0 = 12 → zT κ a2 = 8 → I n a0 a1 a2 a3 κ → zG C n0 4 mSo_putBack 4 [some (.ref a0), some (.int a1), some (.ref a2), some (.int a3), none, none] [] κ (oV Q noX) := by
    intro n
    induction n using Nat.strongRecOn with
    | _ n ih =>
      intro a0 a1 a2 a3 κ W Ta0 Ta2 hI
      have F := F0 n a0 a1 a2 a3 κ W Ta0 Ta2 hI
      clear hI hI0
      refine y_iln dX9_putBack_4 rfl ?_
      refine y_i (a3 < (0 : Int32)) dX9_putBack_5 (t := 125) rfl rfl (fun c9 => ?_) (fun c9 => ?_)
      · replace F := F.1 c9
        exact y_rv W dX9_putBack_125 rfl F
      · replace F := F.2 c9
        refine y_aln dX9_putBack_8 rfl ?_
        refine y_iln dX9_putBack_9 rfl ?_
        refine y_bi1 dX9_putBack_10 zb_32 ?_
        replace F := F Ta0
        refine k_X9_246 W dX9_putBack_12 rfl (Nat.le_of_ble_eq_true rfl) (Nat.le_of_ble_eq_true rfl) (Or.inl Ta0) F (fun r2 κ1 Wκ1 Mκ1 g3 F => ?_) (fun _ _ h9 => False.elim h9)
        replace F := F Wκ1 Mκ1 g3
        refine y_as dX9_putBack_15 (Nat.le_of_ble_eq_true rfl) rfl ?_
        show zG _ _ _ _ _ [some (.ref a0), some (.int a1), some (.ref a2), some (.int a3), some (.ref r2), none] _ _ _
        refine y_aln dX9_putBack_17 rfl ?_
        have h4 := (ztm W Mκ1 Ta0)
        refine gf_X9_58 Wκ1 dX9_putBack_18 rfl h4 ?_
        refine y_aln dX9_putBack_21 rfl ?_
        refine y_al dX9_putBack_22 rfl ?_
        replace F := F (ty_soSum Wκ1 h4)
        have h7 := (ztm W Mκ1 Ta2)
        replace F := F h7
        replace F := F g3
        refine k_X9_227 Wκ1 dX9_putBack_24 rfl (Nat.le_of_ble_eq_true rfl) (Nat.le_of_ble_eq_true rfl) (Or.inl (ty_soSum Wκ1 h4)) F (fun  κ5 Wκ5 Mκ5 F => ?_) (fun _ _ h9 => False.elim h9)
        replace F := F Wκ5 Mκ5
        refine y_iln dX9_putBack_27 rfl ?_
        refine y_ic dX9_putBack_28 zi_1 ?_
        refine y_iadd dX9_putBack_29 ?_
        refine y_isb dX9_putBack_30 (Nat.le_of_ble_eq_true rfl) (fun v5_9 ev5_9 => ?_)
        replace F := F v5_9 ev5_9
        show zG _ _ _ _ _ [some (.ref a0), some (.int a1), some (.ref a2), some (.int a3), some (.ref r2), some (.int v5_9)] _ _ _
        have h10 := (ztm Wκ1 Mκ5 h4)
        have h11 := (ztm Wκ1 Mκ5 h7)
        have h12 := (ztm Wκ1 Mκ5 g3)
        exact y_k (t_So_putBack_32 (fun a0' a1' a2' a3' τ w9 f09 f19 hb => by obtain ⟨k, hk, hI⟩ := hb; exact ih k hk a0' a1' a2' a3' τ w9 f09 f19 hI) Wκ5 h10 h11 h12 F) ⟨rfl, rfl, rfl, rfl, rfl, rfl, trivial⟩
  exact key m0 a0 a1 a2 a3 κ W Ta0 Ta2 hI0

def w_So_putBack_0 (C : zC) (n0 : Nat) (Q : zS → Prop)  (a0 : Nat) (a1 : Int32) (a2 : Nat) (κ : zS) : Prop :=
  ∀ v3_1 : Int32, v3_1 = (a1 - (2 : Int32)) →
  w_So_putBack_4 C n0 Q  a0 a1 a2 v3_1 κ
theorem t_So_putBack_0 {C : zC} {n0 : Nat} {Q : zS → Prop}   {a0 : Nat} {a1 : Int32} {a2 : Nat} {κ : zS} (W : zW C n0 κ) (Ta0 : zT κ a0 = 12) (Ta2 : zT κ a2 = 8) (F : w_So_putBack_0 C n0 Q  a0 a1 a2 κ) : zG C n0 4 mSo_putBack 0 [some (.ref a0), some (.int a1), some (.ref a2), none, none, none] [] κ (oV Q noX) := by
  unfold w_So_putBack_0 at F
  refine y_iln dX9_putBack_0 rfl ?_
  refine y_ic dX9_putBack_1 zi_2 ?_
  refine y_isub dX9_putBack_2 ?_
  refine y_isnb dX9_putBack_3 (Nat.le_of_ble_eq_true rfl) (fun v3_1 ev3_1 => ?_)
  replace F := F v3_1 ev3_1
  show zG _ _ _ _ _ [some (.ref a0), some (.int a1), some (.ref a2), some (.int v3_1), none, none] _ _ _
  exact y_k (t_So_putBack_4  W Ta0 Ta2 F) ⟨rfl, rfl, rfl, rfl, trivial⟩

theorem So_putBack_run {C : zC} {n0 : Nat} {Q : zS → Prop} {a0 : Nat} {a1 : Int32} {a2 : Nat} {κ : zS} (W : zW C n0 κ) (Ta0 : zT κ a0 = 12) (Ta2 : zT κ a2 = 8) (F : w_So_putBack_0 C (zn κ) Q a0 a1 a2 κ) : zRun C 4 mSo_putBack [.ref a0, .int a1, .ref a2] κ (oV Q noX) := z_run (m_ent _ 3) (t_So_putBack_0 (W.lo (Nat.le_trans W.1.2.1 W.1.2.2) (Nat.le_refl _)) Ta0 Ta2 F)

theorem dX9_keepPart_0 : decode cX9_keepPart 0 = .ok (.aload_n 0, 1) := by decide +kernel
theorem dX9_keepPart_1 : decode cX9_keepPart 1 = .ok (.getfield 45, 3) := by decide +kernel
theorem dX9_keepPart_4 : decode cX9_keepPart 4 = .ok (.invokevirtual 184, 3) := by decide +kernel
theorem dX9_keepPart_7 : decode cX9_keepPart 7 = .ok (.istore_n 2, 1) := by decide +kernel
theorem dX9_keepPart_8 : decode cX9_keepPart 8 = .ok (.iload_n 2, 1) := by decide +kernel
theorem dX9_keepPart_9 : decode cX9_keepPart 9 = .ok (.ifCond .eq 11, 3) := by decide +kernel
theorem dX9_keepPart_12 : decode cX9_keepPart 12 = .ok (.aload_n 1, 1) := by decide +kernel
theorem dX9_keepPart_13 : decode cX9_keepPart 13 = .ok (.aload_n 0, 1) := by decide +kernel
theorem dX9_keepPart_14 : decode cX9_keepPart 14 = .ok (.getfield 45, 3) := by decide +kernel
theorem dX9_keepPart_17 : decode cX9_keepPart 17 = .ok (.invokevirtual 132, 3) := by decide +kernel
theorem dX9_keepPart_20 : decode cX9_keepPart 20 = .ok (.iload_n 2, 1) := by decide +kernel
theorem dX9_keepPart_21 : decode cX9_keepPart 21 = .ok (.ireturn, 1) := by decide +kernel
def w_So_keepPart_0 (C : zC) (n0 : Nat) (Q : Int32 → zS → Prop)  (a0 : Nat) (a1 : Nat) (κ : zS) : Prop :=
  ∀ _ : zT κ (zR κ soPart a0) = 11,
  zRun C 1 mRa_fits [.ref (zR κ soPart a0)] κ (oI (fun r2 κ1 =>
    ∀ _ : zW C n0 κ1,
    ∀ _ : zM (zn κ) κ κ1,
    (r2 = (0 : Int32) →
      nb r2 ∧ Q r2 κ1) ∧
    (¬ r2 = (0 : Int32) →
      ∀ _ : zT κ1 a1 = 11,
      ∀ _ : zT κ1 (zR κ1 soPart a0) = 11,
      zRun C 2 mRa_copy [.ref a1, .ref (zR κ1 soPart a0)] κ1 (oV (fun κ5 =>
        ∀ _ : zW C n0 κ5,
        ∀ _ : zM (zn κ1) κ1 κ5,
        nb r2 ∧ Q r2 κ5) noX))) noX)
theorem t_So_keepPart_0 {C : zC} {n0 : Nat} {Q : Int32 → zS → Prop}   {a0 : Nat} {a1 : Nat} {κ : zS} (W : zW C n0 κ) (Ta0 : zT κ a0 = 12) (Ta1 : zT κ a1 = 11) (F : w_So_keepPart_0 C n0 Q  a0 a1 κ) : zG C n0 3 mSo_keepPart 0 [some (.ref a0), some (.ref a1), none] [] κ (oI Q noX) := by
  unfold w_So_keepPart_0 at F
  refine y_aln dX9_keepPart_0 rfl ?_
  refine gf_X9_45 W dX9_keepPart_1 rfl Ta0 ?_
  replace F := F (ty_soPart W Ta0)
  refine k_X9_184 W dX9_keepPart_4 rfl (Nat.le_of_ble_eq_true rfl) (Nat.le_of_ble_eq_true rfl) (Or.inl (ty_soPart W Ta0)) F (fun r2 κ1 Wκ1 Mκ1 F => ?_) (fun _ _ h9 => False.elim h9)
  replace F := F Wκ1 Mκ1
  refine y_isn dX9_keepPart_7 (Nat.le_of_ble_eq_true rfl) rfl ?_
  show zG _ _ _ _ _ [some (.ref a0), some (.ref a1), some (.int r2)] _ _ _
  refine y_iln dX9_keepPart_8 rfl ?_
  refine y_i (r2 = (0 : Int32)) dX9_keepPart_9 (t := 20) rfl rfl (fun c9 => ?_) (fun c9 => ?_)
  · replace F := F.1 c9
    refine y_iln dX9_keepPart_20 rfl ?_
    exact y_ri Wκ1 dX9_keepPart_21 rfl (nb_nar F.1) F.2
  · replace F := F.2 c9
    refine y_aln dX9_keepPart_12 rfl ?_
    refine y_aln dX9_keepPart_13 rfl ?_
    have h4 := (ztm W Mκ1 Ta0)
    refine gf_X9_45 Wκ1 dX9_keepPart_14 rfl h4 ?_
    have h7 := (ztm W Mκ1 Ta1)
    replace F := F h7
    replace F := F (ty_soPart Wκ1 h4)
    refine k_X9_132 Wκ1 dX9_keepPart_17 rfl (Nat.le_of_ble_eq_true rfl) (Nat.le_of_ble_eq_true rfl) (Or.inl h7) F (fun  κ5 Wκ5 Mκ5 F => ?_) (fun _ _ h9 => False.elim h9)
    replace F := F Wκ5 Mκ5
    refine y_iln dX9_keepPart_20 rfl ?_
    exact y_ri Wκ5 dX9_keepPart_21 rfl (nb_nar F.1) F.2

theorem So_keepPart_run {C : zC} {n0 : Nat} {Q : Int32 → zS → Prop} {a0 : Nat} {a1 : Nat} {κ : zS} (W : zW C n0 κ) (Ta0 : zT κ a0 = 12) (Ta1 : zT κ a1 = 11) (F : w_So_keepPart_0 C (zn κ) Q a0 a1 κ) : zRun C 3 mSo_keepPart [.ref a0, .ref a1] κ (oI Q noX) := z_run (m_ent _ 1) (t_So_keepPart_0 (W.lo (Nat.le_trans W.1.2.1 W.1.2.2) (Nat.le_refl _)) Ta0 Ta1 F)

theorem dX9_keep_0 : decode cX9_keep 0 = .ok (.aload_n 0, 1) := by decide +kernel
theorem dX9_keep_1 : decode cX9_keep 1 = .ok (.getfield 45, 3) := by decide +kernel
theorem dX9_keep_4 : decode cX9_keep 4 = .ok (.iconst 1, 1) := by decide +kernel
theorem dX9_keep_5 : decode cX9_keep 5 = .ok (.putfield 164, 3) := by decide +kernel
theorem dX9_keep_8 : decode cX9_keep 8 = .ok (.aload_n 0, 1) := by decide +kernel
theorem dX9_keep_9 : decode cX9_keep 9 = .ok (.getfield 45, 3) := by decide +kernel
theorem dX9_keep_12 : decode cX9_keep 12 = .ok (.getfield 139, 3) := by decide +kernel
theorem dX9_keep_15 : decode cX9_keep 15 = .ok (.aload_n 2, 1) := by decide +kernel
theorem dX9_keep_16 : decode cX9_keep 16 = .ok (.invokevirtual 213, 3) := by decide +kernel
theorem dX9_keep_19 : decode cX9_keep 19 = .ok (.aload_n 0, 1) := by decide +kernel
theorem dX9_keep_20 : decode cX9_keep 20 = .ok (.getfield 45, 3) := by decide +kernel
theorem dX9_keep_23 : decode cX9_keep 23 = .ok (.getfield 151, 3) := by decide +kernel
theorem dX9_keep_26 : decode cX9_keep 26 = .ok (.aload_n 3, 1) := by decide +kernel
theorem dX9_keep_27 : decode cX9_keep 27 = .ok (.invokevirtual 213, 3) := by decide +kernel
theorem dX9_keep_30 : decode cX9_keep 30 = .ok (.aload_n 0, 1) := by decide +kernel
theorem dX9_keep_31 : decode cX9_keep 31 = .ok (.getfield 15, 3) := by decide +kernel
theorem dX9_keep_34 : decode cX9_keep 34 = .ok (.aload_n 0, 1) := by decide +kernel
theorem dX9_keep_35 : decode cX9_keep 35 = .ok (.getfield 45, 3) := by decide +kernel
theorem dX9_keep_38 : decode cX9_keep 38 = .ok (.getfield 139, 3) := by decide +kernel
theorem dX9_keep_41 : decode cX9_keep 41 = .ok (.aload_n 0, 1) := by decide +kernel
theorem dX9_keep_42 : decode cX9_keep 42 = .ok (.getfield 45, 3) := by decide +kernel
theorem dX9_keep_45 : decode cX9_keep 45 = .ok (.getfield 151, 3) := by decide +kernel
theorem dX9_keep_48 : decode cX9_keep 48 = .ok (.invokevirtual 239, 3) := by decide +kernel
theorem dX9_keep_51 : decode cX9_keep 51 = .ok (.aload_n 0, 1) := by decide +kernel
theorem dX9_keep_52 : decode cX9_keep 52 = .ok (.aload_n 1, 1) := by decide +kernel
theorem dX9_keep_53 : decode cX9_keep 53 = .ok (.invokevirtual 242, 3) := by decide +kernel
theorem dX9_keep_56 : decode cX9_keep 56 = .ok (.ireturn, 1) := by decide +kernel
def w_So_keep_0 (C : zC) (n0 : Nat) (Q : Int32 → zS → Prop)  (a0 : Nat) (a1 : Nat) (a2 : Nat) (a3 : Nat) (κ : zS) : Prop :=
  ∀ κ1, κ1 = ui κ raSign (zR κ soPart a0) (1 : Int32) →
  ∀ _ : zW C n0 κ1,
  ∀ _ : zT κ1 (zR κ1 raTop (zR κ1 soPart a0)) = 8,
  ∀ _ : zT κ1 a2 = 8,
  zRun C 1 mNu_copy [.ref (zR κ1 raTop (zR κ1 soPart a0)), .ref a2] κ1 (oV (fun κ3 =>
    ∀ _ : zW C n0 κ3,
    ∀ _ : zM (zn κ1) κ1 κ3,
    ∀ _ : zT κ3 (zR κ3 raBottom (zR κ3 soPart a0)) = 8,
    ∀ _ : zT κ3 a3 = 8,
    zRun C 1 mNu_copy [.ref (zR κ3 raBottom (zR κ3 soPart a0)), .ref a3] κ3 (oV (fun κ8 =>
      ∀ _ : zW C n0 κ8,
      ∀ _ : zM (zn κ3) κ3 κ8,
      ∀ _ : zT κ8 (zR κ8 soCalc a0) = 4,
      ∀ _ : zT κ8 (zR κ8 raTop (zR κ8 soPart a0)) = 8,
      ∀ _ : zT κ8 (zR κ8 raBottom (zR κ8 soPart a0)) = 8,
      zRun C 5 mCa_reduce [.ref (zR κ8 soCalc a0), .ref (zR κ8 raTop (zR κ8 soPart a0)), .ref (zR κ8 raBottom (zR κ8 soPart a0))] κ8 (oV (fun κ13 =>
        ∀ _ : zW C n0 κ13,
        ∀ _ : zM (zn κ8) κ8 κ13,
        ∀ _ : zT κ13 a0 = 12,
        ∀ _ : zT κ13 a1 = 11,
        zRun C 3 mSo_keepPart [.ref a0, .ref a1] κ13 (oI (fun r17 κ16 =>
          ∀ _ : zW C n0 κ16,
          ∀ _ : zM (zn κ13) κ13 κ16,
          nb r17 ∧ Q r17 κ16) noX)) noX)) noX)) noX)
theorem t_So_keep_0 {C : zC} {n0 : Nat} {Q : Int32 → zS → Prop}   {a0 : Nat} {a1 : Nat} {a2 : Nat} {a3 : Nat} {κ : zS} (W : zW C n0 κ) (Ta0 : zT κ a0 = 12) (Ta1 : zT κ a1 = 11) (Ta2 : zT κ a2 = 8) (Ta3 : zT κ a3 = 8) (F : w_So_keep_0 C n0 Q  a0 a1 a2 a3 κ) : zG C n0 6 mSo_keep 0 [some (.ref a0), some (.ref a1), some (.ref a2), some (.ref a3)] [] κ (oI Q noX) := by
  unfold w_So_keep_0 at F
  refine y_aln dX9_keep_0 rfl ?_
  refine gf_X9_45 W dX9_keep_1 rfl Ta0 ?_
  refine y_ic dX9_keep_4 zi_1 ?_
  refine pf_X9_164 W dX9_keep_5 rfl (Or.inl (ty_soPart W Ta0)) (fun κ1 eκ1 => ?_)
  replace F := F κ1 eκ1
  have Wκ1 : zW C n0 κ1 := zW_ui W eκ1 (fun h => absurd h (by decide))
  have Mκ1 : zM (zn κ) κ κ1 := by rw [eκ1]; exact zM.of rfl rfl rfl
  replace F := F Wκ1
  refine y_aln dX9_keep_8 rfl ?_
  have h2 := (ztm W Mκ1 Ta0)
  refine gf_X9_45 Wκ1 dX9_keep_9 rfl h2 ?_
  refine gf_X9_139 Wκ1 dX9_keep_12 rfl (ty_soPart Wκ1 h2) ?_
  refine y_aln dX9_keep_15 rfl ?_
  replace F := F (ty_raTop Wκ1 (ty_soPart Wκ1 h2))
  have h5 := (ztm W Mκ1 Ta2)
  replace F := F h5
  refine k_X9_213 Wκ1 dX9_keep_16 rfl (Nat.le_of_ble_eq_true rfl) (Nat.le_of_ble_eq_true rfl) (Or.inl (ty_raTop Wκ1 (ty_soPart Wκ1 h2))) F (fun  κ3 Wκ3 Mκ3 F => ?_) (fun _ _ h9 => False.elim h9)
  replace F := F Wκ3 Mκ3
  refine y_aln dX9_keep_19 rfl ?_
  have h7 := (ztm Wκ1 Mκ3 h2)
  refine gf_X9_45 Wκ3 dX9_keep_20 rfl h7 ?_
  refine gf_X9_151 Wκ3 dX9_keep_23 rfl (ty_soPart Wκ3 h7) ?_
  refine y_aln dX9_keep_26 rfl ?_
  replace F := F (ty_raBottom Wκ3 (ty_soPart Wκ3 h7))
  have h10 := (ztm Wκ1 Mκ3 (ztm W Mκ1 Ta3))
  replace F := F h10
  refine k_X9_213 Wκ3 dX9_keep_27 rfl (Nat.le_of_ble_eq_true rfl) (Nat.le_of_ble_eq_true rfl) (Or.inl (ty_raBottom Wκ3 (ty_soPart Wκ3 h7))) F (fun  κ8 Wκ8 Mκ8 F => ?_) (fun _ _ h9 => False.elim h9)
  replace F := F Wκ8 Mκ8
  refine y_aln dX9_keep_30 rfl ?_
  have h12 := (ztm Wκ3 Mκ8 h7)
  refine gf_X9_15 Wκ8 dX9_keep_31 rfl h12 ?_
  refine y_aln dX9_keep_34 rfl ?_
  refine gf_X9_45 Wκ8 dX9_keep_35 rfl h12 ?_
  refine gf_X9_139 Wκ8 dX9_keep_38 rfl (ty_soPart Wκ8 h12) ?_
  refine y_aln dX9_keep_41 rfl ?_
  refine gf_X9_45 Wκ8 dX9_keep_42 rfl h12 ?_
  refine gf_X9_151 Wκ8 dX9_keep_45 rfl (ty_soPart Wκ8 h12) ?_
  replace F := F (ty_soCalc Wκ8 h12)
  replace F := F (ty_raTop Wκ8 (ty_soPart Wκ8 h12))
  replace F := F (ty_raBottom Wκ8 (ty_soPart Wκ8 h12))
  refine k_X9_239 Wκ8 dX9_keep_48 rfl (Nat.le_of_ble_eq_true rfl) (Nat.le_of_ble_eq_true rfl) (Or.inl (ty_soCalc Wκ8 h12)) F (fun  κ13 Wκ13 Mκ13 F => ?_) (fun _ _ h9 => False.elim h9)
  replace F := F Wκ13 Mκ13
  refine y_aln dX9_keep_51 rfl ?_
  refine y_aln dX9_keep_52 rfl ?_
  have h18 := (ztm Wκ8 Mκ13 h12)
  replace F := F h18
  have h19 := (ztm Wκ8 Mκ13 (ztm Wκ3 Mκ8 (ztm Wκ1 Mκ3 (ztm W Mκ1 Ta1))))
  replace F := F h19
  refine k_X9_242 Wκ13 dX9_keep_53 rfl (Nat.le_of_ble_eq_true rfl) (Nat.le_of_ble_eq_true rfl) (Or.inl h18) F (fun r17 κ16 Wκ16 Mκ16 F => ?_) (fun _ _ h9 => False.elim h9)
  replace F := F Wκ16 Mκ16
  exact y_ri Wκ16 dX9_keep_56 rfl (nb_nar F.1) F.2

theorem So_keep_run {C : zC} {n0 : Nat} {Q : Int32 → zS → Prop} {a0 : Nat} {a1 : Nat} {a2 : Nat} {a3 : Nat} {κ : zS} (W : zW C n0 κ) (Ta0 : zT κ a0 = 12) (Ta1 : zT κ a1 = 11) (Ta2 : zT κ a2 = 8) (Ta3 : zT κ a3 = 8) (F : w_So_keep_0 C (zn κ) Q a0 a1 a2 a3 κ) : zRun C 6 mSo_keep [.ref a0, .ref a1, .ref a2, .ref a3] κ (oI Q noX) := z_run (m_ent _ 0) (t_So_keep_0 (W.lo (Nat.le_trans W.1.2.1 W.1.2.2) (Nat.le_refl _)) Ta0 Ta1 Ta2 Ta3 F)

theorem dX9_visitRing_0 : decode cX9_visitRing 0 = .ok (.aload_n 0, 1) := by decide +kernel
theorem dX9_visitRing_1 : decode cX9_visitRing 1 = .ok (.getfield 25, 3) := by decide +kernel
theorem dX9_visitRing_4 : decode cX9_visitRing 4 = .ok (.getfield 108, 3) := by decide +kernel
theorem dX9_visitRing_7 : decode cX9_visitRing 7 = .ok (.iload_n 1, 1) := by decide +kernel
theorem dX9_visitRing_8 : decode cX9_visitRing 8 = .ok (.iaload, 1) := by decide +kernel
theorem dX9_visitRing_9 : decode cX9_visitRing 9 = .ok (.istore_n 2, 1) := by decide +kernel
theorem dX9_visitRing_10 : decode cX9_visitRing 10 = .ok (.aload_n 0, 1) := by decide +kernel
theorem dX9_visitRing_11 : decode cX9_visitRing 11 = .ok (.getfield 25, 3) := by decide +kernel
theorem dX9_visitRing_14 : decode cX9_visitRing 14 = .ok (.iload_n 1, 1) := by decide +kernel
theorem dX9_visitRing_15 : decode cX9_visitRing 15 = .ok (.invokevirtual 111, 3) := by decide +kernel
theorem dX9_visitRing_18 : decode cX9_visitRing 18 = .ok (.istore_n 3, 1) := by decide +kernel
theorem dX9_visitRing_19 : decode cX9_visitRing 19 = .ok (.aload_n 0, 1) := by decide +kernel
theorem dX9_visitRing_20 : decode cX9_visitRing 20 = .ok (.getfield 40, 3) := by decide +kernel
theorem dX9_visitRing_23 : decode cX9_visitRing 23 = .ok (.lconst 1, 1) := by decide +kernel
theorem dX9_visitRing_24 : decode cX9_visitRing 24 = .ok (.invokevirtual 191, 3) := by decide +kernel
theorem dX9_visitRing_27 : decode cX9_visitRing 27 = .ok (.iconst 0, 1) := by decide +kernel
theorem dX9_visitRing_28 : decode cX9_visitRing 28 = .ok (.istore 4, 2) := by decide +kernel
theorem dX9_visitRing_30 : decode cX9_visitRing 30 = .ok (.iload 4, 2) := by decide +kernel
theorem dX9_visitRing_32 : decode cX9_visitRing 32 = .ok (.iload_n 3, 1) := by decide +kernel
theorem dX9_visitRing_33 : decode cX9_visitRing 33 = .ok (.if_icmp .ge 44, 3) := by decide +kernel
theorem dX9_visitRing_36 : decode cX9_visitRing 36 = .ok (.aload_n 0, 1) := by decide +kernel
theorem dX9_visitRing_37 : decode cX9_visitRing 37 = .ok (.getfield 68, 3) := by decide +kernel
theorem dX9_visitRing_40 : decode cX9_visitRing 40 = .ok (.aload_n 0, 1) := by decide +kernel
theorem dX9_visitRing_41 : decode cX9_visitRing 41 = .ok (.getfield 25, 3) := by decide +kernel
theorem dX9_visitRing_44 : decode cX9_visitRing 44 = .ok (.getfield 105, 3) := by decide +kernel
theorem dX9_visitRing_47 : decode cX9_visitRing 47 = .ok (.iload_n 2, 1) := by decide +kernel
theorem dX9_visitRing_48 : decode cX9_visitRing 48 = .ok (.iload 4, 2) := by decide +kernel
theorem dX9_visitRing_50 : decode cX9_visitRing 50 = .ok (.iadd, 1) := by decide +kernel
theorem dX9_visitRing_51 : decode cX9_visitRing 51 = .ok (.iaload, 1) := by decide +kernel
theorem dX9_visitRing_52 : decode cX9_visitRing 52 = .ok (.iload 4, 2) := by decide +kernel
theorem dX9_visitRing_54 : decode cX9_visitRing 54 = .ok (.iastore, 1) := by decide +kernel
theorem dX9_visitRing_55 : decode cX9_visitRing 55 = .ok (.aload_n 0, 1) := by decide +kernel
theorem dX9_visitRing_56 : decode cX9_visitRing 56 = .ok (.aload_n 0, 1) := by decide +kernel
theorem dX9_visitRing_57 : decode cX9_visitRing 57 = .ok (.getfield 25, 3) := by decide +kernel
theorem dX9_visitRing_60 : decode cX9_visitRing 60 = .ok (.getfield 105, 3) := by decide +kernel
theorem dX9_visitRing_63 : decode cX9_visitRing 63 = .ok (.iload_n 2, 1) := by decide +kernel
theorem dX9_visitRing_64 : decode cX9_visitRing 64 = .ok (.iload 4, 2) := by decide +kernel
theorem dX9_visitRing_66 : decode cX9_visitRing 66 = .ok (.iadd, 1) := by decide +kernel
theorem dX9_visitRing_67 : decode cX9_visitRing 67 = .ok (.iaload, 1) := by decide +kernel
theorem dX9_visitRing_68 : decode cX9_visitRing 68 = .ok (.invokevirtual 194, 3) := by decide +kernel
theorem dX9_visitRing_71 : decode cX9_visitRing 71 = .ok (.iinc 4 1, 3) := by decide +kernel
theorem dX9_visitRing_74 : decode cX9_visitRing 74 = .ok (.goto (-44), 3) := by decide +kernel
theorem dX9_visitRing_77 : decode cX9_visitRing 77 = .ok (.iconst 0, 1) := by decide +kernel
theorem dX9_visitRing_78 : decode cX9_visitRing 78 = .ok (.istore 4, 2) := by decide +kernel
theorem dX9_visitRing_80 : decode cX9_visitRing 80 = .ok (.iconst 0, 1) := by decide +kernel
theorem dX9_visitRing_81 : decode cX9_visitRing 81 = .ok (.istore 5, 2) := by decide +kernel
theorem dX9_visitRing_83 : decode cX9_visitRing 83 = .ok (.iload 5, 2) := by decide +kernel
theorem dX9_visitRing_85 : decode cX9_visitRing 85 = .ok (.iload_n 3, 1) := by decide +kernel
theorem dX9_visitRing_86 : decode cX9_visitRing 86 = .ok (.if_icmp .ge 81, 3) := by decide +kernel
theorem dX9_visitRing_89 : decode cX9_visitRing 89 = .ok (.aload_n 0, 1) := by decide +kernel
theorem dX9_visitRing_90 : decode cX9_visitRing 90 = .ok (.aload_n 0, 1) := by decide +kernel
theorem dX9_visitRing_91 : decode cX9_visitRing 91 = .ok (.getfield 25, 3) := by decide +kernel
theorem dX9_visitRing_94 : decode cX9_visitRing 94 = .ok (.getfield 105, 3) := by decide +kernel
theorem dX9_visitRing_97 : decode cX9_visitRing 97 = .ok (.iload_n 2, 1) := by decide +kernel
theorem dX9_visitRing_98 : decode cX9_visitRing 98 = .ok (.iload 5, 2) := by decide +kernel
theorem dX9_visitRing_100 : decode cX9_visitRing 100 = .ok (.iadd, 1) := by decide +kernel
theorem dX9_visitRing_101 : decode cX9_visitRing 101 = .ok (.iaload, 1) := by decide +kernel
theorem dX9_visitRing_102 : decode cX9_visitRing 102 = .ok (.invokevirtual 197, 3) := by decide +kernel
theorem dX9_visitRing_105 : decode cX9_visitRing 105 = .ok (.aload_n 0, 1) := by decide +kernel
theorem dX9_visitRing_106 : decode cX9_visitRing 106 = .ok (.iload 5, 2) := by decide +kernel
theorem dX9_visitRing_108 : decode cX9_visitRing 108 = .ok (.bipush 32, 2) := by decide +kernel
theorem dX9_visitRing_110 : decode cX9_visitRing 110 = .ok (.invokevirtual 246, 3) := by decide +kernel
theorem dX9_visitRing_113 : decode cX9_visitRing 113 = .ok (.aload_n 0, 1) := by decide +kernel
theorem dX9_visitRing_114 : decode cX9_visitRing 114 = .ok (.getfield 58, 3) := by decide +kernel
theorem dX9_visitRing_117 : decode cX9_visitRing 117 = .ok (.invokevirtual 213, 3) := by decide +kernel
theorem dX9_visitRing_120 : decode cX9_visitRing 120 = .ok (.iload 4, 2) := by decide +kernel
theorem dX9_visitRing_122 : decode cX9_visitRing 122 = .ok (.ifCond .ne 13, 3) := by decide +kernel
theorem dX9_visitRing_125 : decode cX9_visitRing 125 = .ok (.aload_n 0, 1) := by decide +kernel
theorem dX9_visitRing_126 : decode cX9_visitRing 126 = .ok (.getfield 58, 3) := by decide +kernel
theorem dX9_visitRing_129 : decode cX9_visitRing 129 = .ok (.getfield 250, 3) := by decide +kernel
theorem dX9_visitRing_132 : decode cX9_visitRing 132 = .ok (.ifCond .le 7, 3) := by decide +kernel
theorem dX9_visitRing_135 : decode cX9_visitRing 135 = .ok (.iconst 1, 1) := by decide +kernel
theorem dX9_visitRing_136 : decode cX9_visitRing 136 = .ok (.goto 4, 3) := by decide +kernel
theorem dX9_visitRing_139 : decode cX9_visitRing 139 = .ok (.iconst 0, 1) := by decide +kernel
theorem dX9_visitRing_140 : decode cX9_visitRing 140 = .ok (.istore 4, 2) := by decide +kernel
theorem dX9_visitRing_142 : decode cX9_visitRing 142 = .ok (.aload_n 0, 1) := by decide +kernel
theorem dX9_visitRing_143 : decode cX9_visitRing 143 = .ok (.aload_n 0, 1) := by decide +kernel
theorem dX9_visitRing_144 : decode cX9_visitRing 144 = .ok (.getfield 25, 3) := by decide +kernel
theorem dX9_visitRing_147 : decode cX9_visitRing 147 = .ok (.getfield 105, 3) := by decide +kernel
theorem dX9_visitRing_150 : decode cX9_visitRing 150 = .ok (.iload_n 2, 1) := by decide +kernel
theorem dX9_visitRing_151 : decode cX9_visitRing 151 = .ok (.iload 5, 2) := by decide +kernel
theorem dX9_visitRing_153 : decode cX9_visitRing 153 = .ok (.iadd, 1) := by decide +kernel
theorem dX9_visitRing_154 : decode cX9_visitRing 154 = .ok (.iaload, 1) := by decide +kernel
theorem dX9_visitRing_155 : decode cX9_visitRing 155 = .ok (.iload 5, 2) := by decide +kernel
theorem dX9_visitRing_157 : decode cX9_visitRing 157 = .ok (.iload_n 3, 1) := by decide +kernel
theorem dX9_visitRing_158 : decode cX9_visitRing 158 = .ok (.invokevirtual 253, 3) := by decide +kernel
theorem dX9_visitRing_161 : decode cX9_visitRing 161 = .ok (.iinc 5 1, 3) := by decide +kernel
theorem dX9_visitRing_164 : decode cX9_visitRing 164 = .ok (.goto (-81), 3) := by decide +kernel
theorem dX9_visitRing_167 : decode cX9_visitRing 167 = .ok (.iload 4, 2) := by decide +kernel
theorem dX9_visitRing_169 : decode cX9_visitRing 169 = .ok (.ifCond .ne 5, 3) := by decide +kernel
theorem dX9_visitRing_172 : decode cX9_visitRing 172 = .ok (.iconst 1, 1) := by decide +kernel
theorem dX9_visitRing_173 : decode cX9_visitRing 173 = .ok (.ireturn, 1) := by decide +kernel
theorem dX9_visitRing_174 : decode cX9_visitRing 174 = .ok (.iconst 0, 1) := by decide +kernel
theorem dX9_visitRing_175 : decode cX9_visitRing 175 = .ok (.istore 5, 2) := by decide +kernel
theorem dX9_visitRing_177 : decode cX9_visitRing 177 = .ok (.iload 5, 2) := by decide +kernel
theorem dX9_visitRing_179 : decode cX9_visitRing 179 = .ok (.iload_n 3, 1) := by decide +kernel
theorem dX9_visitRing_180 : decode cX9_visitRing 180 = .ok (.iconst 1, 1) := by decide +kernel
theorem dX9_visitRing_181 : decode cX9_visitRing 181 = .ok (.isub, 1) := by decide +kernel
theorem dX9_visitRing_182 : decode cX9_visitRing 182 = .ok (.if_icmp .ge 16, 3) := by decide +kernel
theorem dX9_visitRing_185 : decode cX9_visitRing 185 = .ok (.aload_n 0, 1) := by decide +kernel
theorem dX9_visitRing_186 : decode cX9_visitRing 186 = .ok (.iload 5, 2) := by decide +kernel
theorem dX9_visitRing_188 : decode cX9_visitRing 188 = .ok (.iload_n 3, 1) := by decide +kernel
theorem dX9_visitRing_189 : decode cX9_visitRing 189 = .ok (.invokevirtual 257, 3) := by decide +kernel
theorem dX9_visitRing_192 : decode cX9_visitRing 192 = .ok (.iinc 5 1, 3) := by decide +kernel
theorem dX9_visitRing_195 : decode cX9_visitRing 195 = .ok (.goto (-18), 3) := by decide +kernel
theorem dX9_visitRing_198 : decode cX9_visitRing 198 = .ok (.aload_n 0, 1) := by decide +kernel
theorem dX9_visitRing_199 : decode cX9_visitRing 199 = .ok (.iload_n 3, 1) := by decide +kernel
theorem dX9_visitRing_200 : decode cX9_visitRing 200 = .ok (.iconst 1, 1) := by decide +kernel
theorem dX9_visitRing_201 : decode cX9_visitRing 201 = .ok (.isub, 1) := by decide +kernel
theorem dX9_visitRing_202 : decode cX9_visitRing 202 = .ok (.iload_n 3, 1) := by decide +kernel
theorem dX9_visitRing_203 : decode cX9_visitRing 203 = .ok (.iconst 1, 1) := by decide +kernel
theorem dX9_visitRing_204 : decode cX9_visitRing 204 = .ok (.isub, 1) := by decide +kernel
theorem dX9_visitRing_205 : decode cX9_visitRing 205 = .ok (.invokevirtual 246, 3) := by decide +kernel
theorem dX9_visitRing_208 : decode cX9_visitRing 208 = .ok (.astore 5, 2) := by decide +kernel
theorem dX9_visitRing_210 : decode cX9_visitRing 210 = .ok (.aload_n 0, 1) := by decide +kernel
theorem dX9_visitRing_211 : decode cX9_visitRing 211 = .ok (.iload_n 3, 1) := by decide +kernel
theorem dX9_visitRing_212 : decode cX9_visitRing 212 = .ok (.aload 5, 2) := by decide +kernel
theorem dX9_visitRing_214 : decode cX9_visitRing 214 = .ok (.invokevirtual 260, 3) := by decide +kernel
theorem dX9_visitRing_217 : decode cX9_visitRing 217 = .ok (.aload_n 0, 1) := by decide +kernel
theorem dX9_visitRing_218 : decode cX9_visitRing 218 = .ok (.getfield 61, 3) := by decide +kernel
theorem dX9_visitRing_221 : decode cX9_visitRing 221 = .ok (.aload 5, 2) := by decide +kernel
theorem dX9_visitRing_223 : decode cX9_visitRing 223 = .ok (.aload_n 0, 1) := by decide +kernel
theorem dX9_visitRing_224 : decode cX9_visitRing 224 = .ok (.getfield 40, 3) := by decide +kernel
theorem dX9_visitRing_227 : decode cX9_visitRing 227 = .ok (.invokevirtual 227, 3) := by decide +kernel
theorem dX9_visitRing_230 : decode cX9_visitRing 230 = .ok (.iconst 0, 1) := by decide +kernel
theorem dX9_visitRing_231 : decode cX9_visitRing 231 = .ok (.istore 6, 2) := by decide +kernel
theorem dX9_visitRing_233 : decode cX9_visitRing 233 = .ok (.iload 6, 2) := by decide +kernel
theorem dX9_visitRing_235 : decode cX9_visitRing 235 = .ok (.iload_n 3, 1) := by decide +kernel
theorem dX9_visitRing_236 : decode cX9_visitRing 236 = .ok (.if_icmp .ge 79, 3) := by decide +kernel
theorem dX9_visitRing_239 : decode cX9_visitRing 239 = .ok (.aload_n 0, 1) := by decide +kernel
theorem dX9_visitRing_240 : decode cX9_visitRing 240 = .ok (.getfield 25, 3) := by decide +kernel
theorem dX9_visitRing_243 : decode cX9_visitRing 243 = .ok (.getfield 105, 3) := by decide +kernel
theorem dX9_visitRing_246 : decode cX9_visitRing 246 = .ok (.iload_n 2, 1) := by decide +kernel
theorem dX9_visitRing_247 : decode cX9_visitRing 247 = .ok (.iload 6, 2) := by decide +kernel
theorem dX9_visitRing_249 : decode cX9_visitRing 249 = .ok (.iadd, 1) := by decide +kernel
theorem dX9_visitRing_250 : decode cX9_visitRing 250 = .ok (.iaload, 1) := by decide +kernel
theorem dX9_visitRing_251 : decode cX9_visitRing 251 = .ok (.istore 7, 2) := by decide +kernel
theorem dX9_visitRing_253 : decode cX9_visitRing 253 = .ok (.aload_n 0, 1) := by decide +kernel
theorem dX9_visitRing_254 : decode cX9_visitRing 254 = .ok (.getfield 58, 3) := by decide +kernel
theorem dX9_visitRing_257 : decode cX9_visitRing 257 = .ok (.aload_n 0, 1) := by decide +kernel
theorem dX9_visitRing_258 : decode cX9_visitRing 258 = .ok (.iload 6, 2) := by decide +kernel
theorem dX9_visitRing_260 : decode cX9_visitRing 260 = .ok (.bipush 32, 2) := by decide +kernel
theorem dX9_visitRing_262 : decode cX9_visitRing 262 = .ok (.invokevirtual 246, 3) := by decide +kernel
theorem dX9_visitRing_265 : decode cX9_visitRing 265 = .ok (.invokevirtual 213, 3) := by decide +kernel
theorem dX9_visitRing_268 : decode cX9_visitRing 268 = .ok (.aload_n 0, 1) := by decide +kernel
theorem dX9_visitRing_269 : decode cX9_visitRing 269 = .ok (.getfield 58, 3) := by decide +kernel
theorem dX9_visitRing_272 : decode cX9_visitRing 272 = .ok (.aload_n 0, 1) := by decide +kernel
theorem dX9_visitRing_273 : decode cX9_visitRing 273 = .ok (.getfield 9, 3) := by decide +kernel
theorem dX9_visitRing_276 : decode cX9_visitRing 276 = .ok (.iload 7, 2) := by decide +kernel
theorem dX9_visitRing_278 : decode cX9_visitRing 278 = .ok (.invokevirtual 136, 3) := by decide +kernel
theorem dX9_visitRing_281 : decode cX9_visitRing 281 = .ok (.i2l, 1) := by decide +kernel
theorem dX9_visitRing_282 : decode cX9_visitRing 282 = .ok (.invokevirtual 154, 3) := by decide +kernel
theorem dX9_visitRing_285 : decode cX9_visitRing 285 = .ok (.aload_n 0, 1) := by decide +kernel
theorem dX9_visitRing_286 : decode cX9_visitRing 286 = .ok (.aload_n 0, 1) := by decide +kernel
theorem dX9_visitRing_287 : decode cX9_visitRing 287 = .ok (.getfield 28, 3) := by decide +kernel
theorem dX9_visitRing_290 : decode cX9_visitRing 290 = .ok (.iload 7, 2) := by decide +kernel
theorem dX9_visitRing_292 : decode cX9_visitRing 292 = .ok (.aaload, 1) := by decide +kernel
theorem dX9_visitRing_293 : decode cX9_visitRing 293 = .ok (.aload_n 0, 1) := by decide +kernel
theorem dX9_visitRing_294 : decode cX9_visitRing 294 = .ok (.getfield 58, 3) := by decide +kernel
theorem dX9_visitRing_297 : decode cX9_visitRing 297 = .ok (.aload_n 0, 1) := by decide +kernel
theorem dX9_visitRing_298 : decode cX9_visitRing 298 = .ok (.getfield 61, 3) := by decide +kernel
theorem dX9_visitRing_301 : decode cX9_visitRing 301 = .ok (.invokevirtual 200, 3) := by decide +kernel
theorem dX9_visitRing_304 : decode cX9_visitRing 304 = .ok (.ifCond .ne 5, 3) := by decide +kernel
theorem dX9_visitRing_307 : decode cX9_visitRing 307 = .ok (.iconst 0, 1) := by decide +kernel
theorem dX9_visitRing_308 : decode cX9_visitRing 308 = .ok (.ireturn, 1) := by decide +kernel
theorem dX9_visitRing_309 : decode cX9_visitRing 309 = .ok (.iinc 6 1, 3) := by decide +kernel
theorem dX9_visitRing_312 : decode cX9_visitRing 312 = .ok (.goto (-79), 3) := by decide +kernel
theorem dX9_visitRing_315 : decode cX9_visitRing 315 = .ok (.iconst 1, 1) := by decide +kernel
theorem dX9_visitRing_316 : decode cX9_visitRing 316 = .ok (.ireturn, 1) := by decide +kernel
def w_So_visitRing_140 (C : zC) (n0 : Nat) (Q : Int32 → zS → Prop) (B83 : Nat → Int32 → Int32 → Int32 → Int32 → zS → Prop) (a0 : Nat) (a2 : Int32) (a3 : Int32) (a5 : Int32) (s0 : Int32) (κ : zS) : Prop :=
  inb (a2 + a5) (zN κ (zR κ weOrder (zR κ soWeb a0))) ∧
  ∀ _ : zT κ a0 = 12,
  zRun C 3 mSo_fillRow [.ref a0, .int (zA κ (zR κ weOrder (zR κ soWeb a0)) ((a2 + a5)).toNatClampNeg), .int a5, .int a3] κ (oV (fun κ1 =>
    ∀ _ : zW C n0 κ1,
    ∀ _ : zM (zn κ) κ κ1,
    ∀ v5_4 : Int32, v5_4 = a5 + (1 : Int32) →
    B83 a0 a2 a3 s0 v5_4 κ1) noX)
theorem t_So_visitRing_140 {C : zC} {n0 : Nat} {Q : Int32 → zS → Prop} {B83 : Nat → Int32 → Int32 → Int32 → Int32 → zS → Prop} (hB83 : ∀ a0' a2' a3' a4' a5' τ, zW C n0 τ → zT τ a0' = 12 → B83 a0' a2' a3' a4' a5' τ → zG C n0 7 mSo_visitRing 83 [some (.ref a0'), none, some (.int a2'), some (.int a3'), some (.int a4'), some (.int a5'), none, none] [] τ (oI Q noX)) {a0 : Nat} {a2 : Int32} {a3 : Int32} {a5 : Int32} {s0 : Int32} {κ : zS} (W : zW C n0 κ) (Ta0 : zT κ a0 = 12) (F : w_So_visitRing_140 C n0 Q B83 a0 a2 a3 a5 s0 κ) : zG C n0 7 mSo_visitRing 140 [some (.ref a0), none, some (.int a2), some (.int a3), none, some (.int a5), none, none] [.int s0] κ (oI Q noX) := by
  unfold w_So_visitRing_140 at F
  refine y_is dX9_visitRing_140 (Nat.le_of_ble_eq_true rfl) rfl ?_
  show zG _ _ _ _ _ [some (.ref a0), none, some (.int a2), some (.int a3), some (.int s0), some (.int a5), none, none] _ _ _
  refine y_aln dX9_visitRing_142 rfl ?_
  refine y_aln dX9_visitRing_143 rfl ?_
  refine gf_X9_25 W dX9_visitRing_144 rfl Ta0 ?_
  refine gf_X9_105 W dX9_visitRing_147 rfl (ty_soWeb W Ta0) ?_
  refine y_iln dX9_visitRing_150 rfl ?_
  refine y_il dX9_visitRing_151 rfl ?_
  refine y_iadd dX9_visitRing_153 ?_
  refine y_ald dX9_visitRing_154 (ty_weOrder W (ty_soWeb W Ta0)) F.1 ?_
  replace F := F.2
  refine y_il dX9_visitRing_155 rfl ?_
  refine y_iln dX9_visitRing_157 rfl ?_
  replace F := F Ta0
  refine k_X9_253 W dX9_visitRing_158 rfl (Nat.le_of_ble_eq_true rfl) (Nat.le_of_ble_eq_true rfl) (Or.inl Ta0) F (fun  κ1 Wκ1 Mκ1 F => ?_) (fun _ _ h9 => False.elim h9)
  replace F := F Wκ1 Mκ1
  refine y_incb dX9_visitRing_161 zi_1 rfl (Nat.le_of_ble_eq_true rfl) (fun v5_4 ev5_4 => ?_)
  replace F := F v5_4 ev5_4
  show zG _ _ _ _ _ [some (.ref a0), none, some (.int a2), some (.int a3), some (.int s0), some (.int v5_4), none, none] _ _ _
  refine y_goto dX9_visitRing_164 (t := 83) rfl ?_
  have h5 := (ztm W Mκ1 Ta0)
  exact y_k (hB83 _ _ _ _ _ _ Wκ1 h5 F) ⟨rfl, rfl, rfl, rfl, rfl, trivial⟩

def w_So_visitRing_233 (C : zC) (n0 : Nat) (Q : Int32 → zS → Prop)  (a0 : Nat) (a2 : Int32) (a3 : Int32) (a6 : Int32) (κ : zS) : Prop :=
  ∃ I : Nat → Nat → Int32 → Int32 → Int32 → zS → Prop, (∃ n, I n a0 a2 a3 a6 κ) ∧ ∀ n a0 a2 a3 a6 κ, zW C n0 κ → zT κ a0 = 12 → I n a0 a2 a3 a6 κ →
    (a3 ≤ a6 →
      Q (1 : Int32) κ) ∧
    (¬ a3 ≤ a6 →
      inb (a2 + a6) (zN κ (zR κ weOrder (zR κ soWeb a0))) ∧
      ∀ v7_1 : Int32, v7_1 = (zA κ (zR κ weOrder (zR κ soWeb a0)) ((a2 + a6)).toNatClampNeg) →
      ∀ _ : zT κ a0 = 12,
      zRun C 2 mSo_cell [.ref a0, .int a6, .int (32 : Int32)] κ (oR 8 (fun r3 κ2 =>
        ∀ _ : zW C n0 κ2,
        ∀ _ : zM (zn κ) κ κ2,
        ∀ _ : zT κ2 r3 = 8,
        ∀ _ : zT κ2 (zR κ soSum a0) = 8,
        ∀ _ : zT κ2 r3 = 8,
        zRun C 1 mNu_copy [.ref (zR κ soSum a0), .ref r3] κ2 (oV (fun κ5 =>
          ∀ _ : zW C n0 κ5,
          ∀ _ : zM (zn κ2) κ2 κ5,
          ∀ _ : zT κ5 (zR κ5 soAtlas a0) = 3,
          zRun C 0 mAt_divisorOf [.ref (zR κ5 soAtlas a0), .int v7_1] κ5 (oI (fun r11 κ10 =>
            ∀ _ : zW C n0 κ10,
            ∀ _ : zM (zn κ5) κ5 κ10,
            ∀ _ : zT κ10 (zR κ5 soSum a0) = 8,
            zRun C 3 mNu_times [.ref (zR κ5 soSum a0), .long (Int32.toInt64 r11)] κ10 (oV (fun κ13 =>
              ∀ _ : zW C n0 κ13,
              ∀ _ : zM (zn κ10) κ10 κ13,
              inb v7_1 (zN κ13 (zR κ13 soVisits a0)) ∧
              ∃ u18, (zQ κ13 (zR κ13 soVisits a0) (v7_1).toNatClampNeg) = some u18 ∧
              ∀ _ : zT κ13 a0 = 12,
              ∀ _ : zT κ13 u18 = 11,
              ∀ _ : zT κ13 (zR κ13 soSum a0) = 8,
              ∀ _ : zT κ13 (zR κ13 soLess a0) = 8,
              zRun C 6 mSo_keep [.ref a0, .ref u18, .ref (zR κ13 soSum a0), .ref (zR κ13 soLess a0)] κ13 (oI (fun r20 κ19 =>
                ∀ _ : zW C n0 κ19,
                ∀ _ : zM (zn κ13) κ13 κ19,
                (¬ r20 = (0 : Int32) →
                  ∀ v6_22 : Int32, v6_22 = a6 + (1 : Int32) →
                  ∃ k < n, I k a0 a2 a3 v6_22 κ19) ∧
                (r20 = (0 : Int32) →
                  Q (0 : Int32) κ19)) noX)) noX)) noX)) noX)) noX))
theorem t_So_visitRing_233 {C : zC} {n0 : Nat} {Q : Int32 → zS → Prop}   {a0 : Nat} {a2 : Int32} {a3 : Int32} {a6 : Int32} {κ : zS} (W : zW C n0 κ) (Ta0 : zT κ a0 = 12) (F : w_So_visitRing_233 C n0 Q  a0 a2 a3 a6 κ) : zG C n0 7 mSo_visitRing 233 [some (.ref a0), none, some (.int a2), some (.int a3), none, none, some (.int a6), none] [] κ (oI Q noX) := by
  obtain ⟨I, ⟨m0, hI0⟩, F0⟩ := F
  have key : ∀ n a0 a2 a3 a6 κ, zW C n0 κ → zT κ a0 = 12 → I n a0 a2 a3 a6 κ → zG C n0 7 mSo_visitRing 233 [some (.ref a0), none, some (.int a2), some (.int a3), none, none, some (.int a6), none] [] κ (oI Q noX) := by
    intro n
    induction n using Nat.strongRecOn with
    | _ n ih =>
      intro a0 a2 a3 a6 κ W Ta0 hI
      have F := F0 n a0 a2 a3 a6 κ W Ta0 hI
      clear hI hI0
      refine y_il dX9_visitRing_233 rfl ?_
      refine y_iln dX9_visitRing_235 rfl ?_
      refine y_ii (a3 ≤ a6) dX9_visitRing_236 (t := 315) rfl rfl (fun c9 => ?_) (fun c9 => ?_)
      · replace F := F.1 c9
        refine y_ic dX9_visitRing_315 zi_1 ?_
        exact y_ri W dX9_visitRing_316 rfl (nb_nar nb_1) F
      · replace F := F.2 c9
        refine y_aln dX9_visitRing_239 rfl ?_
        refine gf_X9_25 W dX9_visitRing_240 rfl Ta0 ?_
        refine gf_X9_105 W dX9_visitRing_243 rfl (ty_soWeb W Ta0) ?_
        refine y_iln dX9_visitRing_246 rfl ?_
        refine y_il dX9_visitRing_247 rfl ?_
        refine y_iadd dX9_visitRing_249 ?_
        refine y_ald dX9_visitRing_250 (ty_weOrder W (ty_soWeb W Ta0)) F.1 ?_
        replace F := F.2
        refine y_isb dX9_visitRing_251 (Nat.le_of_ble_eq_true rfl) (fun v7_1 ev7_1 => ?_)
        replace F := F v7_1 ev7_1
        show zG _ _ _ _ _ [some (.ref a0), none, some (.int a2), some (.int a3), none, none, some (.int a6), some (.int v7_1)] _ _ _
        refine y_aln dX9_visitRing_253 rfl ?_
        refine gf_X9_58 W dX9_visitRing_254 rfl Ta0 ?_
        refine y_aln dX9_visitRing_257 rfl ?_
        refine y_il dX9_visitRing_258 rfl ?_
        refine y_bi1 dX9_visitRing_260 zb_32 ?_
        replace F := F Ta0
        refine k_X9_246 W dX9_visitRing_262 rfl (Nat.le_of_ble_eq_true rfl) (Nat.le_of_ble_eq_true rfl) (Or.inl Ta0) F (fun r3 κ2 Wκ2 Mκ2 g4 F => ?_) (fun _ _ h9 => False.elim h9)
        replace F := F Wκ2 Mκ2 g4
        have h7 := (ztm W Mκ2 (ty_soSum W Ta0))
        replace F := F h7
        replace F := F g4
        refine k_X9_213 Wκ2 dX9_visitRing_265 rfl (Nat.le_of_ble_eq_true rfl) (Nat.le_of_ble_eq_true rfl) (Or.inl h7) F (fun  κ5 Wκ5 Mκ5 F => ?_) (fun _ _ h9 => False.elim h9)
        replace F := F Wκ5 Mκ5
        refine y_aln dX9_visitRing_268 rfl ?_
        have h9 := (ztm Wκ2 Mκ5 (ztm W Mκ2 Ta0))
        refine gf_X9_58 Wκ5 dX9_visitRing_269 rfl h9 ?_
        refine y_aln dX9_visitRing_272 rfl ?_
        refine gf_X9_9 Wκ5 dX9_visitRing_273 rfl h9 ?_
        refine y_il dX9_visitRing_276 rfl ?_
        replace F := F (ty_soAtlas Wκ5 h9)
        refine k_X9_136 Wκ5 dX9_visitRing_278 rfl (Nat.le_of_ble_eq_true rfl) (Nat.le_of_ble_eq_true rfl) (Or.inl (ty_soAtlas Wκ5 h9)) F (fun r11 κ10 Wκ10 Mκ10 F => ?_) (fun _ _ h9 => False.elim h9)
        replace F := F Wκ10 Mκ10
        refine y_i2l dX9_visitRing_281 ?_
        have h15 := (ztm Wκ5 Mκ10 (ty_soSum Wκ5 h9))
        replace F := F h15
        refine k_X9_154 Wκ10 dX9_visitRing_282 rfl (Nat.le_of_ble_eq_true rfl) (Nat.le_of_ble_eq_true rfl) (Or.inl h15) F (fun  κ13 Wκ13 Mκ13 F => ?_) (fun _ _ h9 => False.elim h9)
        replace F := F Wκ13 Mκ13
        refine y_aln dX9_visitRing_285 rfl ?_
        refine y_aln dX9_visitRing_286 rfl ?_
        have h17 := (ztm Wκ10 Mκ13 (ztm Wκ5 Mκ10 h9))
        refine gf_X9_28 Wκ13 dX9_visitRing_287 rfl h17 ?_
        refine y_il dX9_visitRing_290 rfl ?_
        refine y_qld (t := 5) dX9_visitRing_292 (ty_soVisits Wκ13 h17) (by decide) F.1 ?_
        replace F := F.2
        refine y_aln dX9_visitRing_293 rfl ?_
        refine gf_X9_58 Wκ13 dX9_visitRing_294 rfl h17 ?_
        refine y_aln dX9_visitRing_297 rfl ?_
        refine gf_X9_61 Wκ13 dX9_visitRing_298 rfl h17 ?_
        obtain ⟨u18, Eu18, F⟩ := F
        have Tu18 : zT κ13 u18 = 11 := (fun v hv => Wκ13.2.2.2.2.1 _ _ v (ty_soVisits Wκ13 h17) hv) u18 Eu18
        refine y_uq2 Eu18 ?_
        replace F := F h17
        replace F := F Tu18
        replace F := F (ty_soSum Wκ13 h17)
        replace F := F (ty_soLess Wκ13 h17)
        refine k_X9_200 Wκ13 dX9_visitRing_301 rfl (Nat.le_of_ble_eq_true rfl) (Nat.le_of_ble_eq_true rfl) (Or.inl h17) F (fun r20 κ19 Wκ19 Mκ19 F => ?_) (fun _ _ h9 => False.elim h9)
        replace F := F Wκ19 Mκ19
        refine y_in (r20 = (0 : Int32)) dX9_visitRing_304 (t := 309) rfl rfl (fun c9 => ?_) (fun c9 => ?_)
        · replace F := F.1 c9
          refine y_incb dX9_visitRing_309 zi_1 rfl (Nat.le_of_ble_eq_true rfl) (fun v6_22 ev6_22 => ?_)
          replace F := F v6_22 ev6_22
          show zG _ _ _ _ _ [some (.ref a0), none, some (.int a2), some (.int a3), none, none, some (.int v6_22), some (.int v7_1)] _ _ _
          refine y_goto dX9_visitRing_312 (t := 233) rfl ?_
          have h23 := (ztm Wκ13 Mκ19 h17)
          obtain ⟨k, hk, hI⟩ := F
          exact y_k (ih k hk _ _ _ _ _ Wκ19 h23 hI) ⟨rfl, rfl, rfl, rfl, trivial⟩
        · replace F := F.2 c9
          refine y_ic dX9_visitRing_307 zi_0 ?_
          exact y_ri Wκ19 dX9_visitRing_308 rfl (nb_nar nb_0) F
  exact key m0 a0 a2 a3 a6 κ W Ta0 hI0

def w_So_visitRing_177 (C : zC) (n0 : Nat) (Q : Int32 → zS → Prop)  (a0 : Nat) (a2 : Int32) (a3 : Int32) (a5 : Int32) (κ : zS) : Prop :=
  ∃ I : Nat → Nat → Int32 → Int32 → Int32 → zS → Prop, (∃ n, I n a0 a2 a3 a5 κ) ∧ ∀ n a0 a2 a3 a5 κ, zW C n0 κ → zT κ a0 = 12 → I n a0 a2 a3 a5 κ →
    ((a3 - (1 : Int32)) ≤ a5 →
      ∀ _ : zT κ a0 = 12,
      zRun C 2 mSo_cell [.ref a0, .int (a3 - (1 : Int32)), .int (a3 - (1 : Int32))] κ (oR 8 (fun r2 κ1 =>
        ∀ _ : zW C n0 κ1,
        ∀ _ : zM (zn κ) κ κ1,
        ∀ _ : zT κ1 r2 = 8,
        ∀ _ : zT κ1 a0 = 12,
        ∀ _ : zT κ1 r2 = 8,
        zRun C 4 mSo_putBack [.ref a0, .int a3, .ref r2] κ1 (oV (fun κ4 =>
          ∀ _ : zW C n0 κ4,
          ∀ _ : zM (zn κ1) κ1 κ4,
          ∀ _ : zT κ4 (zR κ4 soLess a0) = 8,
          ∀ _ : zT κ4 r2 = 8,
          ∀ _ : zT κ4 (zR κ4 soWhole a0) = 8,
          zRun C 3 mNu_product [.ref (zR κ4 soLess a0), .ref r2, .ref (zR κ4 soWhole a0)] κ4 (oV (fun κ9 =>
            ∀ _ : zW C n0 κ9,
            ∀ _ : zM (zn κ4) κ4 κ9,
            w_So_visitRing_233 C n0 Q  a0 a2 a3 (0 : Int32) κ9) noX)) noX)) noX)) ∧
    (¬ (a3 - (1 : Int32)) ≤ a5 →
      ∀ _ : zT κ a0 = 12,
      zRun C 4 mSo_eliminate [.ref a0, .int a5, .int a3] κ (oV (fun κ14 =>
        ∀ _ : zW C n0 κ14,
        ∀ _ : zM (zn κ) κ κ14,
        ∀ v5_17 : Int32, v5_17 = a5 + (1 : Int32) →
        ∃ k < n, I k a0 a2 a3 v5_17 κ14) noX))
theorem t_So_visitRing_177 {C : zC} {n0 : Nat} {Q : Int32 → zS → Prop}   {a0 : Nat} {a2 : Int32} {a3 : Int32} {a5 : Int32} {κ : zS} (W : zW C n0 κ) (Ta0 : zT κ a0 = 12) (F : w_So_visitRing_177 C n0 Q  a0 a2 a3 a5 κ) : zG C n0 7 mSo_visitRing 177 [some (.ref a0), none, some (.int a2), some (.int a3), none, some (.int a5), none, none] [] κ (oI Q noX) := by
  obtain ⟨I, ⟨m0, hI0⟩, F0⟩ := F
  have key : ∀ n a0 a2 a3 a5 κ, zW C n0 κ → zT κ a0 = 12 → I n a0 a2 a3 a5 κ → zG C n0 7 mSo_visitRing 177 [some (.ref a0), none, some (.int a2), some (.int a3), none, some (.int a5), none, none] [] κ (oI Q noX) := by
    intro n
    induction n using Nat.strongRecOn with
    | _ n ih =>
      intro a0 a2 a3 a5 κ W Ta0 hI
      have F := F0 n a0 a2 a3 a5 κ W Ta0 hI
      clear hI hI0
      refine y_il dX9_visitRing_177 rfl ?_
      refine y_iln dX9_visitRing_179 rfl ?_
      refine y_ic dX9_visitRing_180 zi_1 ?_
      refine y_isub dX9_visitRing_181 ?_
      refine y_ii ((a3 - (1 : Int32)) ≤ a5) dX9_visitRing_182 (t := 198) rfl rfl (fun c9 => ?_) (fun c9 => ?_)
      · replace F := F.1 c9
        refine y_aln dX9_visitRing_198 rfl ?_
        refine y_iln dX9_visitRing_199 rfl ?_
        refine y_ic dX9_visitRing_200 zi_1 ?_
        refine y_isub dX9_visitRing_201 ?_
        refine y_iln dX9_visitRing_202 rfl ?_
        refine y_ic dX9_visitRing_203 zi_1 ?_
        refine y_isub dX9_visitRing_204 ?_
        replace F := F Ta0
        refine k_X9_246 W dX9_visitRing_205 rfl (Nat.le_of_ble_eq_true rfl) (Nat.le_of_ble_eq_true rfl) (Or.inl Ta0) F (fun r2 κ1 Wκ1 Mκ1 g3 F => ?_) (fun _ _ h9 => False.elim h9)
        replace F := F Wκ1 Mκ1 g3
        refine y_as dX9_visitRing_208 (Nat.le_of_ble_eq_true rfl) rfl ?_
        show zG _ _ _ _ _ [some (.ref a0), none, some (.int a2), some (.int a3), none, some (.ref r2), none, none] _ _ _
        refine y_aln dX9_visitRing_210 rfl ?_
        refine y_iln dX9_visitRing_211 rfl ?_
        refine y_al dX9_visitRing_212 rfl ?_
        have h6 := (ztm W Mκ1 Ta0)
        replace F := F h6
        replace F := F g3
        refine k_X9_260 Wκ1 dX9_visitRing_214 rfl (Nat.le_of_ble_eq_true rfl) (Nat.le_of_ble_eq_true rfl) (Or.inl h6) F (fun  κ4 Wκ4 Mκ4 F => ?_) (fun _ _ h9 => False.elim h9)
        replace F := F Wκ4 Mκ4
        refine y_aln dX9_visitRing_217 rfl ?_
        have h8 := (ztm Wκ1 Mκ4 h6)
        refine gf_X9_61 Wκ4 dX9_visitRing_218 rfl h8 ?_
        refine y_al dX9_visitRing_221 rfl ?_
        refine y_aln dX9_visitRing_223 rfl ?_
        refine gf_X9_40 Wκ4 dX9_visitRing_224 rfl h8 ?_
        replace F := F (ty_soLess Wκ4 h8)
        have h11 := (ztm Wκ1 Mκ4 g3)
        replace F := F h11
        replace F := F (ty_soWhole Wκ4 h8)
        refine k_X9_227 Wκ4 dX9_visitRing_227 rfl (Nat.le_of_ble_eq_true rfl) (Nat.le_of_ble_eq_true rfl) (Or.inl (ty_soLess Wκ4 h8)) F (fun  κ9 Wκ9 Mκ9 F => ?_) (fun _ _ h9 => False.elim h9)
        replace F := F Wκ9 Mκ9
        refine y_ic dX9_visitRing_230 zi_0 ?_
        refine y_is dX9_visitRing_231 (Nat.le_of_ble_eq_true rfl) rfl ?_
        show zG _ _ _ _ _ [some (.ref a0), none, some (.int a2), some (.int a3), none, some (.ref r2), some (.int (0 : Int32)), none] _ _ _
        have h13 := (ztm Wκ4 Mκ9 h8)
        exact y_k (t_So_visitRing_233  Wκ9 h13 F) ⟨rfl, rfl, rfl, rfl, trivial⟩
      · replace F := F.2 c9
        refine y_aln dX9_visitRing_185 rfl ?_
        refine y_il dX9_visitRing_186 rfl ?_
        refine y_iln dX9_visitRing_188 rfl ?_
        replace F := F Ta0
        refine k_X9_257 W dX9_visitRing_189 rfl (Nat.le_of_ble_eq_true rfl) (Nat.le_of_ble_eq_true rfl) (Or.inl Ta0) F (fun  κ14 Wκ14 Mκ14 F => ?_) (fun _ _ h9 => False.elim h9)
        replace F := F Wκ14 Mκ14
        refine y_incb dX9_visitRing_192 zi_1 rfl (Nat.le_of_ble_eq_true rfl) (fun v5_17 ev5_17 => ?_)
        replace F := F v5_17 ev5_17
        show zG _ _ _ _ _ [some (.ref a0), none, some (.int a2), some (.int a3), none, some (.int v5_17), none, none] _ _ _
        refine y_goto dX9_visitRing_195 (t := 177) rfl ?_
        have h18 := (ztm W Mκ14 Ta0)
        obtain ⟨k, hk, hI⟩ := F
        exact y_k (ih k hk _ _ _ _ _ Wκ14 h18 hI) ⟨rfl, rfl, rfl, rfl, trivial⟩
  exact key m0 a0 a2 a3 a5 κ W Ta0 hI0

def w_So_visitRing_83 (C : zC) (n0 : Nat) (Q : Int32 → zS → Prop)  (a0 : Nat) (a2 : Int32) (a3 : Int32) (a4 : Int32) (a5 : Int32) (κ : zS) : Prop :=
  ∃ I : Nat → Nat → Int32 → Int32 → Int32 → Int32 → zS → Prop, (∃ n, I n a0 a2 a3 a4 a5 κ) ∧ ∀ n a0 a2 a3 a4 a5 κ, zW C n0 κ → zT κ a0 = 12 → I n a0 a2 a3 a4 a5 κ →
    (a3 ≤ a5 →
      (¬ a4 = (0 : Int32) →
        w_So_visitRing_177 C n0 Q  a0 a2 a3 (0 : Int32) κ) ∧
      (a4 = (0 : Int32) →
        Q (1 : Int32) κ)) ∧
    (¬ a3 ≤ a5 →
      inb (a2 + a5) (zN κ (zR κ weOrder (zR κ soWeb a0))) ∧
      ∀ _ : zT κ a0 = 12,
      zRun C 5 mSo_sumInflow [.ref a0, .int (zA κ (zR κ weOrder (zR κ soWeb a0)) ((a2 + a5)).toNatClampNeg)] κ (oV (fun κ1 =>
        ∀ _ : zW C n0 κ1,
        ∀ _ : zM (zn κ) κ κ1,
        ∀ _ : zT κ1 a0 = 12,
        zRun C 2 mSo_cell [.ref a0, .int a5, .int (32 : Int32)] κ1 (oR 8 (fun r5 κ4 =>
          ∀ _ : zW C n0 κ4,
          ∀ _ : zM (zn κ1) κ1 κ4,
          ∀ _ : zT κ4 r5 = 8,
          ∀ _ : zT κ4 r5 = 8,
          ∀ _ : zT κ4 (zR κ4 soSum a0) = 8,
          zRun C 1 mNu_copy [.ref r5, .ref (zR κ4 soSum a0)] κ4 (oV (fun κ9 =>
            ∀ _ : zW C n0 κ9,
            ∀ _ : zM (zn κ4) κ4 κ9,
            (¬ a4 = (0 : Int32) →
              w_So_visitRing_140 C n0 Q (fun a0' a2' a3' a4' a5' τ => ∃ k < n, I k a0' a2' a3' a4' a5' τ) a0 a2 a3 a5 (1 : Int32) κ9) ∧
            (a4 = (0 : Int32) →
              ((zI κ9 nuLength (zR κ9 soSum a0)) ≤ (0 : Int32) →
                w_So_visitRing_140 C n0 Q (fun a0' a2' a3' a4' a5' τ => ∃ k < n, I k a0' a2' a3' a4' a5' τ) a0 a2 a3 a5 (0 : Int32) κ9) ∧
              (¬ (zI κ9 nuLength (zR κ9 soSum a0)) ≤ (0 : Int32) →
                w_So_visitRing_140 C n0 Q (fun a0' a2' a3' a4' a5' τ => ∃ k < n, I k a0' a2' a3' a4' a5' τ) a0 a2 a3 a5 (1 : Int32) κ9))) noX)) noX)) noX))
theorem t_So_visitRing_83 {C : zC} {n0 : Nat} {Q : Int32 → zS → Prop}   {a0 : Nat} {a2 : Int32} {a3 : Int32} {a4 : Int32} {a5 : Int32} {κ : zS} (W : zW C n0 κ) (Ta0 : zT κ a0 = 12) (F : w_So_visitRing_83 C n0 Q  a0 a2 a3 a4 a5 κ) : zG C n0 7 mSo_visitRing 83 [some (.ref a0), none, some (.int a2), some (.int a3), some (.int a4), some (.int a5), none, none] [] κ (oI Q noX) := by
  obtain ⟨I, ⟨m0, hI0⟩, F0⟩ := F
  have key : ∀ n a0 a2 a3 a4 a5 κ, zW C n0 κ → zT κ a0 = 12 → I n a0 a2 a3 a4 a5 κ → zG C n0 7 mSo_visitRing 83 [some (.ref a0), none, some (.int a2), some (.int a3), some (.int a4), some (.int a5), none, none] [] κ (oI Q noX) := by
    intro n
    induction n using Nat.strongRecOn with
    | _ n ih =>
      intro a0 a2 a3 a4 a5 κ W Ta0 hI
      have F := F0 n a0 a2 a3 a4 a5 κ W Ta0 hI
      clear hI hI0
      refine y_il dX9_visitRing_83 rfl ?_
      refine y_iln dX9_visitRing_85 rfl ?_
      refine y_ii (a3 ≤ a5) dX9_visitRing_86 (t := 167) rfl rfl (fun c9 => ?_) (fun c9 => ?_)
      · replace F := F.1 c9
        refine y_il dX9_visitRing_167 rfl ?_
        refine y_in (a4 = (0 : Int32)) dX9_visitRing_169 (t := 174) rfl rfl (fun c9 => ?_) (fun c9 => ?_)
        · replace F := F.1 c9
          refine y_ic dX9_visitRing_174 zi_0 ?_
          refine y_is dX9_visitRing_175 (Nat.le_of_ble_eq_true rfl) rfl ?_
          show zG _ _ _ _ _ [some (.ref a0), none, some (.int a2), some (.int a3), some (.int a4), some (.int (0 : Int32)), none, none] _ _ _
          exact y_k (t_So_visitRing_177  W Ta0 F) ⟨rfl, rfl, rfl, rfl, trivial⟩
        · replace F := F.2 c9
          refine y_ic dX9_visitRing_172 zi_1 ?_
          exact y_ri W dX9_visitRing_173 rfl (nb_nar nb_1) F
      · replace F := F.2 c9
        refine y_aln dX9_visitRing_89 rfl ?_
        refine y_aln dX9_visitRing_90 rfl ?_
        refine gf_X9_25 W dX9_visitRing_91 rfl Ta0 ?_
        refine gf_X9_105 W dX9_visitRing_94 rfl (ty_soWeb W Ta0) ?_
        refine y_iln dX9_visitRing_97 rfl ?_
        refine y_il dX9_visitRing_98 rfl ?_
        refine y_iadd dX9_visitRing_100 ?_
        refine y_ald dX9_visitRing_101 (ty_weOrder W (ty_soWeb W Ta0)) F.1 ?_
        replace F := F.2
        replace F := F Ta0
        refine k_X9_197 W dX9_visitRing_102 rfl (Nat.le_of_ble_eq_true rfl) (Nat.le_of_ble_eq_true rfl) (Or.inl Ta0) F (fun  κ1 Wκ1 Mκ1 F => ?_) (fun _ _ h9 => False.elim h9)
        replace F := F Wκ1 Mκ1
        refine y_aln dX9_visitRing_105 rfl ?_
        refine y_il dX9_visitRing_106 rfl ?_
        refine y_bi1 dX9_visitRing_108 zb_32 ?_
        have h6 := (ztm W Mκ1 Ta0)
        replace F := F h6
        refine k_X9_246 Wκ1 dX9_visitRing_110 rfl (Nat.le_of_ble_eq_true rfl) (Nat.le_of_ble_eq_true rfl) (Or.inl h6) F (fun r5 κ4 Wκ4 Mκ4 g7 F => ?_) (fun _ _ h9 => False.elim h9)
        replace F := F Wκ4 Mκ4 g7
        refine y_aln dX9_visitRing_113 rfl ?_
        have h8 := (ztm Wκ1 Mκ4 h6)
        refine gf_X9_58 Wκ4 dX9_visitRing_114 rfl h8 ?_
        replace F := F g7
        replace F := F (ty_soSum Wκ4 h8)
        refine k_X9_213 Wκ4 dX9_visitRing_117 rfl (Nat.le_of_ble_eq_true rfl) (Nat.le_of_ble_eq_true rfl) (Or.inl g7) F (fun  κ9 Wκ9 Mκ9 F => ?_) (fun _ _ h9 => False.elim h9)
        replace F := F Wκ9 Mκ9
        refine y_il dX9_visitRing_120 rfl ?_
        refine y_in (a4 = (0 : Int32)) dX9_visitRing_122 (t := 135) rfl rfl (fun c9 => ?_) (fun c9 => ?_)
        · replace F := F.1 c9
          refine y_ic dX9_visitRing_135 zi_1 ?_
          refine y_goto dX9_visitRing_136 (t := 140) rfl ?_
          have h12 := (ztm Wκ4 Mκ9 h8)
          exact y_k (t_So_visitRing_140 (fun a0' a2' a3' a4' a5' τ w9 f09 hb => by obtain ⟨k, hk, hI⟩ := hb; exact ih k hk a0' a2' a3' a4' a5' τ w9 f09 hI) Wκ9 h12 F) ⟨rfl, rfl, rfl, rfl, trivial⟩
        · replace F := F.2 c9
          refine y_aln dX9_visitRing_125 rfl ?_
          have h13 := (ztm Wκ4 Mκ9 h8)
          refine gf_X9_58 Wκ9 dX9_visitRing_126 rfl h13 ?_
          refine gf_X9_250 dX9_visitRing_129 rfl (Or.inl (ty_soSum Wκ9 h13)) ?_
          refine y_i ((zI κ9 nuLength (zR κ9 soSum a0)) ≤ (0 : Int32)) dX9_visitRing_132 (t := 139) rfl rfl (fun c9 => ?_) (fun c9 => ?_)
          · replace F := F.1 c9
            refine y_ic dX9_visitRing_139 zi_0 ?_
            exact y_k (t_So_visitRing_140 (fun a0' a2' a3' a4' a5' τ w9 f09 hb => by obtain ⟨k, hk, hI⟩ := hb; exact ih k hk a0' a2' a3' a4' a5' τ w9 f09 hI) Wκ9 h13 F) ⟨rfl, rfl, rfl, rfl, trivial⟩
          · replace F := F.2 c9
            refine y_ic dX9_visitRing_135 zi_1 ?_
            refine y_goto dX9_visitRing_136 (t := 140) rfl ?_
            exact y_k (t_So_visitRing_140 (fun a0' a2' a3' a4' a5' τ w9 f09 hb => by obtain ⟨k, hk, hI⟩ := hb; exact ih k hk a0' a2' a3' a4' a5' τ w9 f09 hI) Wκ9 h13 F) ⟨rfl, rfl, rfl, rfl, trivial⟩
  exact key m0 a0 a2 a3 a4 a5 κ W Ta0 hI0

def w_So_visitRing_30 (C : zC) (n0 : Nat) (Q : Int32 → zS → Prop)  (a0 : Nat) (a2 : Int32) (a3 : Int32) (a4 : Int32) (κ : zS) : Prop :=
  ∃ I : Nat → Nat → Int32 → Int32 → Int32 → zS → Prop, (∃ n, I n a0 a2 a3 a4 κ) ∧ ∀ n a0 a2 a3 a4 κ, zW C n0 κ → zT κ a0 = 12 → I n a0 a2 a3 a4 κ →
    (a3 ≤ a4 →
      w_So_visitRing_83 C n0 Q  a0 a2 a3 (0 : Int32) (0 : Int32) κ) ∧
    (¬ a3 ≤ a4 →
      inb (a2 + a4) (zN κ (zR κ weOrder (zR κ soWeb a0))) ∧
      inb (zA κ (zR κ weOrder (zR κ soWeb a0)) ((a2 + a4)).toNatClampNeg) (zN κ (zR κ soRows a0)) ∧
      ∀ κ1, κ1 = ua κ (zR κ soRows a0) ((zA κ (zR κ weOrder (zR κ soWeb a0)) ((a2 + a4)).toNatClampNeg)).toNatClampNeg a4 →
      ∀ _ : zW C n0 κ1,
      inb (a2 + a4) (zN κ1 (zR κ1 weOrder (zR κ1 soWeb a0))) ∧
      ∀ _ : zT κ1 a0 = 12,
      zRun C 6 mSo_joinInflow [.ref a0, .int (zA κ1 (zR κ1 weOrder (zR κ1 soWeb a0)) ((a2 + a4)).toNatClampNeg)] κ1 (oV (fun κ3 =>
        ∀ _ : zW C n0 κ3,
        ∀ _ : zM (zn κ1) κ1 κ3,
        ∀ v4_6 : Int32, v4_6 = a4 + (1 : Int32) →
        ∃ k < n, I k a0 a2 a3 v4_6 κ3) noX))
theorem t_So_visitRing_30 {C : zC} {n0 : Nat} {Q : Int32 → zS → Prop}   {a0 : Nat} {a2 : Int32} {a3 : Int32} {a4 : Int32} {κ : zS} (W : zW C n0 κ) (Ta0 : zT κ a0 = 12) (F : w_So_visitRing_30 C n0 Q  a0 a2 a3 a4 κ) : zG C n0 7 mSo_visitRing 30 [some (.ref a0), none, some (.int a2), some (.int a3), some (.int a4), none, none, none] [] κ (oI Q noX) := by
  obtain ⟨I, ⟨m0, hI0⟩, F0⟩ := F
  have key : ∀ n a0 a2 a3 a4 κ, zW C n0 κ → zT κ a0 = 12 → I n a0 a2 a3 a4 κ → zG C n0 7 mSo_visitRing 30 [some (.ref a0), none, some (.int a2), some (.int a3), some (.int a4), none, none, none] [] κ (oI Q noX) := by
    intro n
    induction n using Nat.strongRecOn with
    | _ n ih =>
      intro a0 a2 a3 a4 κ W Ta0 hI
      have F := F0 n a0 a2 a3 a4 κ W Ta0 hI
      clear hI hI0
      refine y_il dX9_visitRing_30 rfl ?_
      refine y_iln dX9_visitRing_32 rfl ?_
      refine y_ii (a3 ≤ a4) dX9_visitRing_33 (t := 77) rfl rfl (fun c9 => ?_) (fun c9 => ?_)
      · replace F := F.1 c9
        refine y_ic dX9_visitRing_77 zi_0 ?_
        refine y_is dX9_visitRing_78 (Nat.le_of_ble_eq_true rfl) rfl ?_
        show zG _ _ _ _ _ [some (.ref a0), none, some (.int a2), some (.int a3), some (.int (0 : Int32)), none, none, none] _ _ _
        refine y_ic dX9_visitRing_80 zi_0 ?_
        refine y_is dX9_visitRing_81 (Nat.le_of_ble_eq_true rfl) rfl ?_
        show zG _ _ _ _ _ [some (.ref a0), none, some (.int a2), some (.int a3), some (.int (0 : Int32)), some (.int (0 : Int32)), none, none] _ _ _
        exact y_k (t_So_visitRing_83  W Ta0 F) ⟨rfl, rfl, rfl, rfl, rfl, trivial⟩
      · replace F := F.2 c9
        refine y_aln dX9_visitRing_36 rfl ?_
        refine gf_X9_68 W dX9_visitRing_37 rfl Ta0 ?_
        refine y_aln dX9_visitRing_40 rfl ?_
        refine gf_X9_25 W dX9_visitRing_41 rfl Ta0 ?_
        refine gf_X9_105 W dX9_visitRing_44 rfl (ty_soWeb W Ta0) ?_
        refine y_iln dX9_visitRing_47 rfl ?_
        refine y_il dX9_visitRing_48 rfl ?_
        refine y_iadd dX9_visitRing_50 ?_
        refine y_ald dX9_visitRing_51 (ty_weOrder W (ty_soWeb W Ta0)) F.1 ?_
        replace F := F.2
        refine y_il dX9_visitRing_52 rfl ?_
        refine y_ast W dX9_visitRing_54 (ty_soRows W Ta0) F.1 (fun κ1 eκ1 => ?_)
        replace F := F.2 κ1 eκ1
        have Wκ1 : zW C n0 κ1 := zW_ua W eκ1 (fun h => absurd (h.symm.trans (ty_soRows W Ta0)) (by decide)) (fun h => absurd (h.symm.trans (ty_soRows W Ta0)) (by decide))
        have Mκ1 : zM (zn κ) κ κ1 := by rw [eκ1]; exact zM.of rfl rfl rfl
        replace F := F Wκ1
        refine y_aln dX9_visitRing_55 rfl ?_
        refine y_aln dX9_visitRing_56 rfl ?_
        have h2 := (ztm W Mκ1 Ta0)
        refine gf_X9_25 Wκ1 dX9_visitRing_57 rfl h2 ?_
        refine gf_X9_105 Wκ1 dX9_visitRing_60 rfl (ty_soWeb Wκ1 h2) ?_
        refine y_iln dX9_visitRing_63 rfl ?_
        refine y_il dX9_visitRing_64 rfl ?_
        refine y_iadd dX9_visitRing_66 ?_
        refine y_ald dX9_visitRing_67 (ty_weOrder Wκ1 (ty_soWeb Wκ1 h2)) F.1 ?_
        replace F := F.2
        replace F := F h2
        refine k_X9_194 Wκ1 dX9_visitRing_68 rfl (Nat.le_of_ble_eq_true rfl) (Nat.le_of_ble_eq_true rfl) (Or.inl h2) F (fun  κ3 Wκ3 Mκ3 F => ?_) (fun _ _ h9 => False.elim h9)
        replace F := F Wκ3 Mκ3
        refine y_incb dX9_visitRing_71 zi_1 rfl (Nat.le_of_ble_eq_true rfl) (fun v4_6 ev4_6 => ?_)
        replace F := F v4_6 ev4_6
        show zG _ _ _ _ _ [some (.ref a0), none, some (.int a2), some (.int a3), some (.int v4_6), none, none, none] _ _ _
        refine y_goto dX9_visitRing_74 (t := 30) rfl ?_
        have h7 := (ztm Wκ1 Mκ3 h2)
        obtain ⟨k, hk, hI⟩ := F
        exact y_k (ih k hk _ _ _ _ _ Wκ3 h7 hI) ⟨rfl, rfl, rfl, rfl, trivial⟩
  exact key m0 a0 a2 a3 a4 κ W Ta0 hI0

def w_So_visitRing_0 (C : zC) (n0 : Nat) (Q : Int32 → zS → Prop)  (a0 : Nat) (a1 : Int32) (κ : zS) : Prop :=
  inb a1 (zN κ (zR κ weKnotFirsts (zR κ soWeb a0))) ∧
  ∀ v2_1 : Int32, v2_1 = (zA κ (zR κ weKnotFirsts (zR κ soWeb a0)) (a1).toNatClampNeg) →
  ∀ _ : zT κ (zR κ soWeb a0) = 14,
  zRun C 0 mWe_sizeOf [.ref (zR κ soWeb a0), .int a1] κ (oI (fun r3 κ2 =>
    ∀ _ : zW C n0 κ2,
    ∀ _ : zM (zn κ) κ κ2,
    ∀ _ : zT κ2 (zR κ2 soWhole a0) = 8,
    zRun C 0 mNu_put [.ref (zR κ2 soWhole a0), .long (1 : Int64)] κ2 (oV (fun κ6 =>
      ∀ _ : zW C n0 κ6,
      ∀ _ : zM (zn κ2) κ2 κ6,
      w_So_visitRing_30 C n0 Q  a0 v2_1 r3 (0 : Int32) κ6) noX)) noX)
theorem t_So_visitRing_0 {C : zC} {n0 : Nat} {Q : Int32 → zS → Prop}   {a0 : Nat} {a1 : Int32} {κ : zS} (W : zW C n0 κ) (Ta0 : zT κ a0 = 12) (F : w_So_visitRing_0 C n0 Q  a0 a1 κ) : zG C n0 7 mSo_visitRing 0 [some (.ref a0), some (.int a1), none, none, none, none, none, none] [] κ (oI Q noX) := by
  unfold w_So_visitRing_0 at F
  refine y_aln dX9_visitRing_0 rfl ?_
  refine gf_X9_25 W dX9_visitRing_1 rfl Ta0 ?_
  refine gf_X9_108 W dX9_visitRing_4 rfl (ty_soWeb W Ta0) ?_
  refine y_iln dX9_visitRing_7 rfl ?_
  refine y_ald dX9_visitRing_8 (ty_weKnotFirsts W (ty_soWeb W Ta0)) F.1 ?_
  replace F := F.2
  refine y_isnb dX9_visitRing_9 (Nat.le_of_ble_eq_true rfl) (fun v2_1 ev2_1 => ?_)
  replace F := F v2_1 ev2_1
  show zG _ _ _ _ _ [some (.ref a0), some (.int a1), some (.int v2_1), none, none, none, none, none] _ _ _
  refine y_aln dX9_visitRing_10 rfl ?_
  refine gf_X9_25 W dX9_visitRing_11 rfl Ta0 ?_
  refine y_iln dX9_visitRing_14 rfl ?_
  replace F := F (ty_soWeb W Ta0)
  refine k_X9_111 W dX9_visitRing_15 rfl (Nat.le_of_ble_eq_true rfl) (Nat.le_of_ble_eq_true rfl) (Or.inl (ty_soWeb W Ta0)) F (fun r3 κ2 Wκ2 Mκ2 F => ?_) (fun _ _ h9 => False.elim h9)
  replace F := F Wκ2 Mκ2
  refine y_isn dX9_visitRing_18 (Nat.le_of_ble_eq_true rfl) rfl ?_
  show zG _ _ _ _ _ [some (.ref a0), some (.int a1), some (.int v2_1), some (.int r3), none, none, none, none] _ _ _
  refine y_aln dX9_visitRing_19 rfl ?_
  have h5 := (ztm W Mκ2 Ta0)
  refine gf_X9_40 Wκ2 dX9_visitRing_20 rfl h5 ?_
  refine y_lc dX9_visitRing_23 zl_1 ?_
  replace F := F (ty_soWhole Wκ2 h5)
  refine k_X9_191 Wκ2 dX9_visitRing_24 rfl (Nat.le_of_ble_eq_true rfl) (Nat.le_of_ble_eq_true rfl) (Or.inl (ty_soWhole Wκ2 h5)) F (fun  κ6 Wκ6 Mκ6 F => ?_) (fun _ _ h9 => False.elim h9)
  replace F := F Wκ6 Mκ6
  refine y_ic dX9_visitRing_27 zi_0 ?_
  refine y_is dX9_visitRing_28 (Nat.le_of_ble_eq_true rfl) rfl ?_
  show zG _ _ _ _ _ [some (.ref a0), some (.int a1), some (.int v2_1), some (.int r3), some (.int (0 : Int32)), none, none, none] _ _ _
  have h9 := (ztm Wκ2 Mκ6 h5)
  exact y_k (t_So_visitRing_30  Wκ6 h9 F) ⟨rfl, rfl, rfl, rfl, trivial⟩

theorem So_visitRing_run {C : zC} {n0 : Nat} {Q : Int32 → zS → Prop} {a0 : Nat} {a1 : Int32} {κ : zS} (W : zW C n0 κ) (Ta0 : zT κ a0 = 12) (F : w_So_visitRing_0 C (zn κ) Q a0 a1 κ) : zRun C 7 mSo_visitRing [.ref a0, .int a1] κ (oI Q noX) := z_run (m_ent _ 6) (t_So_visitRing_0 (W.lo (Nat.le_trans W.1.2.1 W.1.2.2) (Nat.le_refl _)) Ta0 F)

