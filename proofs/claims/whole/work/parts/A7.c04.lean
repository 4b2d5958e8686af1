/-! methods of the class: We_visit, We_follow, We_knot, We_makeRows, We_reach, We_weaveBack, We_weave -/
theorem dX11_visit_0 : decode cX11_visit 0 = .ok (.aload_n 0, 1) := by decide +kernel
theorem dX11_visit_1 : decode cX11_visit 1 = .ok (.dup, 1) := by decide +kernel
theorem dX11_visit_2 : decode cX11_visit 2 = .ok (.getfield 114, 3) := by decide +kernel
theorem dX11_visit_5 : decode cX11_visit 5 = .ok (.iconst 1, 1) := by decide +kernel
theorem dX11_visit_6 : decode cX11_visit 6 = .ok (.iadd, 1) := by decide +kernel
theorem dX11_visit_7 : decode cX11_visit 7 = .ok (.putfield 114, 3) := by decide +kernel
theorem dX11_visit_10 : decode cX11_visit 10 = .ok (.aload_n 0, 1) := by decide +kernel
theorem dX11_visit_11 : decode cX11_visit 11 = .ok (.getfield 40, 3) := by decide +kernel
theorem dX11_visit_14 : decode cX11_visit 14 = .ok (.iload_n 1, 1) := by decide +kernel
theorem dX11_visit_15 : decode cX11_visit 15 = .ok (.aload_n 0, 1) := by decide +kernel
theorem dX11_visit_16 : decode cX11_visit 16 = .ok (.getfield 114, 3) := by decide +kernel
theorem dX11_visit_19 : decode cX11_visit 19 = .ok (.iastore, 1) := by decide +kernel
theorem dX11_visit_20 : decode cX11_visit 20 = .ok (.aload_n 0, 1) := by decide +kernel
theorem dX11_visit_21 : decode cX11_visit 21 = .ok (.getfield 43, 3) := by decide +kernel
theorem dX11_visit_24 : decode cX11_visit 24 = .ok (.iload_n 1, 1) := by decide +kernel
theorem dX11_visit_25 : decode cX11_visit 25 = .ok (.aload_n 0, 1) := by decide +kernel
theorem dX11_visit_26 : decode cX11_visit 26 = .ok (.getfield 114, 3) := by decide +kernel
theorem dX11_visit_29 : decode cX11_visit 29 = .ok (.iastore, 1) := by decide +kernel
theorem dX11_visit_30 : decode cX11_visit 30 = .ok (.aload_n 0, 1) := by decide +kernel
theorem dX11_visit_31 : decode cX11_visit 31 = .ok (.getfield 46, 3) := by decide +kernel
theorem dX11_visit_34 : decode cX11_visit 34 = .ok (.iload_n 1, 1) := by decide +kernel
theorem dX11_visit_35 : decode cX11_visit 35 = .ok (.aload_n 0, 1) := by decide +kernel
theorem dX11_visit_36 : decode cX11_visit 36 = .ok (.getfield 9, 3) := by decide +kernel
theorem dX11_visit_39 : decode cX11_visit 39 = .ok (.iload_n 1, 1) := by decide +kernel
theorem dX11_visit_40 : decode cX11_visit 40 = .ok (.iaload, 1) := by decide +kernel
theorem dX11_visit_41 : decode cX11_visit 41 = .ok (.iastore, 1) := by decide +kernel
theorem dX11_visit_42 : decode cX11_visit 42 = .ok (.aload_n 0, 1) := by decide +kernel
theorem dX11_visit_43 : decode cX11_visit 43 = .ok (.getfield 49, 3) := by decide +kernel
theorem dX11_visit_46 : decode cX11_visit 46 = .ok (.iload_n 2, 1) := by decide +kernel
theorem dX11_visit_47 : decode cX11_visit 47 = .ok (.iload_n 1, 1) := by decide +kernel
theorem dX11_visit_48 : decode cX11_visit 48 = .ok (.iastore, 1) := by decide +kernel
theorem dX11_visit_49 : decode cX11_visit 49 = .ok (.aload_n 0, 1) := by decide +kernel
theorem dX11_visit_50 : decode cX11_visit 50 = .ok (.getfield 52, 3) := by decide +kernel
theorem dX11_visit_53 : decode cX11_visit 53 = .ok (.aload_n 0, 1) := by decide +kernel
theorem dX11_visit_54 : decode cX11_visit 54 = .ok (.getfield 111, 3) := by decide +kernel
theorem dX11_visit_57 : decode cX11_visit 57 = .ok (.iload_n 1, 1) := by decide +kernel
theorem dX11_visit_58 : decode cX11_visit 58 = .ok (.iastore, 1) := by decide +kernel
theorem dX11_visit_59 : decode cX11_visit 59 = .ok (.aload_n 0, 1) := by decide +kernel
theorem dX11_visit_60 : decode cX11_visit 60 = .ok (.dup, 1) := by decide +kernel
theorem dX11_visit_61 : decode cX11_visit 61 = .ok (.getfield 111, 3) := by decide +kernel
theorem dX11_visit_64 : decode cX11_visit 64 = .ok (.iconst 1, 1) := by decide +kernel
theorem dX11_visit_65 : decode cX11_visit 65 = .ok (.iadd, 1) := by decide +kernel
theorem dX11_visit_66 : decode cX11_visit 66 = .ok (.putfield 111, 3) := by decide +kernel
theorem dX11_visit_69 : decode cX11_visit 69 = .ok (.return_, 1) := by decide +kernel
def w_We_visit_0 (C : zC) (n0 : Nat) (Q : zS → Prop)  (a0 : Nat) (a1 : Int32) (a2 : Int32) (κ : zS) : Prop :=
  ∀ κ1, κ1 = ui κ weStamp a0 ((zI κ weStamp a0) + (1 : Int32)) →
  ∀ _ : zW C n0 κ1,
  inb a1 (zN κ1 (zR κ1 weSeen a0)) ∧
  ∀ κ3, κ3 = ua κ1 (zR κ1 weSeen a0) (a1).toNatClampNeg (zI κ1 weStamp a0) →
  ∀ _ : zW C n0 κ3,
  inb a1 (zN κ3 (zR κ3 weLow a0)) ∧
  ∀ κ5, κ5 = ua κ3 (zR κ3 weLow a0) (a1).toNatClampNeg (zI κ3 weStamp a0) →
  ∀ _ : zW C n0 κ5,
  inb a1 (zN κ5 (zR κ5 weFirsts a0)) ∧
  inb a1 (zN κ5 (zR κ5 weCursor a0)) ∧
  ∀ κ7, κ7 = ua κ5 (zR κ5 weCursor a0) (a1).toNatClampNeg (zA κ5 (zR κ5 weFirsts a0) (a1).toNatClampNeg) →
  ∀ _ : zW C n0 κ7,
  inb a2 (zN κ7 (zR κ7 wePath a0)) ∧
  ∀ κ9, κ9 = ua κ7 (zR κ7 wePath a0) (a2).toNatClampNeg a1 →
  ∀ _ : zW C n0 κ9,
  inb (zI κ9 weHeaped a0) (zN κ9 (zR κ9 weHeap a0)) ∧
  ∀ κ11, κ11 = ua κ9 (zR κ9 weHeap a0) ((zI κ9 weHeaped a0)).toNatClampNeg a1 →
  ∀ _ : zW C n0 κ11,
  ∀ κ13, κ13 = ui κ11 weHeaped a0 ((zI κ11 weHeaped a0) + (1 : Int32)) →
  ∀ _ : zW C n0 κ13,
  Q κ13
theorem t_We_visit_0 {C : zC} {n0 : Nat} {Q : zS → Prop}   {a0 : Nat} {a1 : Int32} {a2 : Int32} {κ : zS} (W : zW C n0 κ) (Ta0 : zT κ a0 = 14) (F : w_We_visit_0 C n0 Q  a0 a1 a2 κ) : zG C n0 0 mWe_visit 0 [some (.ref a0), some (.int a1), some (.int a2)] [] κ (oV Q noX) := by
  unfold w_We_visit_0 at F
  refine y_aln dX11_visit_0 rfl ?_
  refine y_dup dX11_visit_1 rfl ?_
  refine gf_X11_114 dX11_visit_2 rfl (Or.inl Ta0) ?_
  refine y_ic dX11_visit_5 zi_1 ?_
  refine y_iadd dX11_visit_6 ?_
  refine pf_X11_114 W dX11_visit_7 rfl (Or.inl Ta0) (fun κ1 eκ1 => ?_)
  replace F := F κ1 eκ1
  have Wκ1 : zW C n0 κ1 := zW_ui W eκ1 (fun h => absurd h (by decide))
  have Mκ1 : zM (zn κ) κ κ1 := by rw [eκ1]; exact zM.of rfl rfl rfl
  replace F := F Wκ1
  refine y_aln dX11_visit_10 rfl ?_
  have h2 := (ztm W Mκ1 Ta0)
  refine gf_X11_40 Wκ1 dX11_visit_11 rfl h2 ?_
  refine y_iln dX11_visit_14 rfl ?_
  refine y_aln dX11_visit_15 rfl ?_
  refine gf_X11_114 dX11_visit_16 rfl (Or.inl h2) ?_
  refine y_ast Wκ1 dX11_visit_19 (ty_weSeen Wκ1 h2) F.1 (fun κ3 eκ3 => ?_)
  replace F := F.2 κ3 eκ3
  have Wκ3 : zW C n0 κ3 := zW_ua Wκ1 eκ3 (fun h => absurd (h.symm.trans (ty_weSeen Wκ1 h2)) (by decide)) (fun h => absurd (h.symm.trans (ty_weSeen Wκ1 h2)) (by decide))
  have Mκ3 : zM (zn κ1) κ1 κ3 := by rw [eκ3]; exact zM.of rfl rfl rfl
  replace F := F Wκ3
  refine y_aln dX11_visit_20 rfl ?_
  have h4 := (ztm Wκ1 Mκ3 h2)
  refine gf_X11_43 Wκ3 dX11_visit_21 rfl h4 ?_
  refine y_iln dX11_visit_24 rfl ?_
  refine y_aln dX11_visit_25 rfl ?_
  refine gf_X11_114 dX11_visit_26 rfl (Or.inl h4) ?_
  refine y_ast Wκ3 dX11_visit_29 (ty_weLow Wκ3 h4) F.1 (fun κ5 eκ5 => ?_)
  replace F := F.2 κ5 eκ5
  have Wκ5 : zW C n0 κ5 := zW_ua Wκ3 eκ5 (fun h => absurd (h.symm.trans (ty_weLow Wκ3 h4)) (by decide)) (fun h => absurd (h.symm.trans (ty_weLow Wκ3 h4)) (by decide))
  have Mκ5 : zM (zn κ3) κ3 κ5 := by rw [eκ5]; exact zM.of rfl rfl rfl
  replace F := F Wκ5
  refine y_aln dX11_visit_30 rfl ?_
  have h6 := (ztm Wκ3 Mκ5 h4)
  refine gf_X11_46 Wκ5 dX11_visit_31 rfl h6 ?_
  refine y_iln dX11_visit_34 rfl ?_
  refine y_aln dX11_visit_35 rfl ?_
  refine gf_X11_9 Wκ5 dX11_visit_36 rfl h6 ?_
  refine y_iln dX11_visit_39 rfl ?_
  refine y_ald dX11_visit_40 (ty_weFirsts Wκ5 h6) F.1 ?_
  replace F := F.2
  refine y_ast Wκ5 dX11_visit_41 (ty_weCursor Wκ5 h6) F.1 (fun κ7 eκ7 => ?_)
  replace F := F.2 κ7 eκ7
  have Wκ7 : zW C n0 κ7 := zW_ua Wκ5 eκ7 (fun h => absurd (h.symm.trans (ty_weCursor Wκ5 h6)) (by decide)) (fun h => absurd (h.symm.trans (ty_weCursor Wκ5 h6)) (by decide))
  have Mκ7 : zM (zn κ5) κ5 κ7 := by rw [eκ7]; exact zM.of rfl rfl rfl
  replace F := F Wκ7
  refine y_aln dX11_visit_42 rfl ?_
  have h8 := (ztm Wκ5 Mκ7 h6)
  refine gf_X11_49 Wκ7 dX11_visit_43 rfl h8 ?_
  refine y_iln dX11_visit_46 rfl ?_
  refine y_iln dX11_visit_47 rfl ?_
  refine y_ast Wκ7 dX11_visit_48 (ty_wePath Wκ7 h8) F.1 (fun κ9 eκ9 => ?_)
  replace F := F.2 κ9 eκ9
  have Wκ9 : zW C n0 κ9 := zW_ua Wκ7 eκ9 (fun h => absurd (h.symm.trans (ty_wePath Wκ7 h8)) (by decide)) (fun h => absurd (h.symm.trans (ty_wePath Wκ7 h8)) (by decide))
  have Mκ9 : zM (zn κ7) κ7 κ9 := by rw [eκ9]; exact zM.of rfl rfl rfl
  replace F := F Wκ9
  refine y_aln dX11_visit_49 rfl ?_
  have h10 := (ztm Wκ7 Mκ9 h8)
  refine gf_X11_52 Wκ9 dX11_visit_50 rfl h10 ?_
  refine y_aln dX11_visit_53 rfl ?_
  refine gf_X11_111 dX11_visit_54 rfl (Or.inl h10) ?_
  refine y_iln dX11_visit_57 rfl ?_
  refine y_ast Wκ9 dX11_visit_58 (ty_weHeap Wκ9 h10) F.1 (fun κ11 eκ11 => ?_)
  replace F := F.2 κ11 eκ11
  have Wκ11 : zW C n0 κ11 := zW_ua Wκ9 eκ11 (fun h => absurd (h.symm.trans (ty_weHeap Wκ9 h10)) (by decide)) (fun h => absurd (h.symm.trans (ty_weHeap Wκ9 h10)) (by decide))
  have Mκ11 : zM (zn κ9) κ9 κ11 := by rw [eκ11]; exact zM.of rfl rfl rfl
  replace F := F Wκ11
  refine y_aln dX11_visit_59 rfl ?_
  refine y_dup dX11_visit_60 rfl ?_
  have h12 := (ztm Wκ9 Mκ11 h10)
  refine gf_X11_111 dX11_visit_61 rfl (Or.inl h12) ?_
  refine y_ic dX11_visit_64 zi_1 ?_
  refine y_iadd dX11_visit_65 ?_
  refine pf_X11_111 Wκ11 dX11_visit_66 rfl (Or.inl h12) (fun κ13 eκ13 => ?_)
  replace F := F κ13 eκ13
  have Wκ13 : zW C n0 κ13 := zW_ui Wκ11 eκ13 (fun h => absurd h (by decide))
  have Mκ13 : zM (zn κ11) κ11 κ13 := by rw [eκ13]; exact zM.of rfl rfl rfl
  replace F := F Wκ13
  exact y_rv Wκ13 dX11_visit_69 rfl F

theorem We_visit_run {C : zC} {n0 : Nat} {Q : zS → Prop} {a0 : Nat} {a1 : Int32} {a2 : Int32} {κ : zS} (W : zW C n0 κ) (Ta0 : zT κ a0 = 14) (F : w_We_visit_0 C (zn κ) Q a0 a1 a2 κ) : zRun C 0 mWe_visit [.ref a0, .int a1, .int a2] κ (oV Q noX) := z_run (m_ent _ 0) (t_We_visit_0 (W.lo (Nat.le_trans W.1.2.1 W.1.2.2) (Nat.le_refl _)) Ta0 F)

theorem dX11_follow_0 : decode cX11_follow 0 = .ok (.iconst 1, 1) := by decide +kernel
theorem dX11_follow_1 : decode cX11_follow 1 = .ok (.istore_n 2, 1) := by decide +kernel
theorem dX11_follow_2 : decode cX11_follow 2 = .ok (.aload_n 0, 1) := by decide +kernel
theorem dX11_follow_3 : decode cX11_follow 3 = .ok (.iload_n 1, 1) := by decide +kernel
theorem dX11_follow_4 : decode cX11_follow 4 = .ok (.iconst 0, 1) := by decide +kernel
theorem dX11_follow_5 : decode cX11_follow 5 = .ok (.invokevirtual 120, 3) := by decide +kernel
theorem dX11_follow_8 : decode cX11_follow 8 = .ok (.ldc2_w 124, 3) := by decide +kernel
theorem dX11_follow_11 : decode cX11_follow 11 = .ok (.aload_n 0, 1) := by decide +kernel
theorem dX11_follow_12 : decode cX11_follow 12 = .ok (.getfield 9, 3) := by decide +kernel
theorem dX11_follow_15 : decode cX11_follow 15 = .ok (.aload_n 0, 1) := by decide +kernel
theorem dX11_follow_16 : decode cX11_follow 16 = .ok (.getfield 70, 3) := by decide +kernel
theorem dX11_follow_19 : decode cX11_follow 19 = .ok (.iaload, 1) := by decide +kernel
theorem dX11_follow_20 : decode cX11_follow 20 = .ok (.aload_n 0, 1) := by decide +kernel
theorem dX11_follow_21 : decode cX11_follow 21 = .ok (.getfield 70, 3) := by decide +kernel
theorem dX11_follow_24 : decode cX11_follow 24 = .ok (.iadd, 1) := by decide +kernel
theorem dX11_follow_25 : decode cX11_follow 25 = .ok (.i2l, 1) := by decide +kernel
theorem dX11_follow_26 : decode cX11_follow 26 = .ok (.lmul, 1) := by decide +kernel
theorem dX11_follow_27 : decode cX11_follow 27 = .ok (.ldc2_w 124, 3) := by decide +kernel
theorem dX11_follow_30 : decode cX11_follow 30 = .ok (.ladd, 1) := by decide +kernel
theorem dX11_follow_31 : decode cX11_follow 31 = .ok (.lstore_n 3, 1) := by decide +kernel
theorem dX11_follow_32 : decode cX11_follow 32 = .ok (.lconst 0, 1) := by decide +kernel
theorem dX11_follow_33 : decode cX11_follow 33 = .ok (.lstore 5, 2) := by decide +kernel
theorem dX11_follow_35 : decode cX11_follow 35 = .ok (.lload 5, 2) := by decide +kernel
theorem dX11_follow_37 : decode cX11_follow 37 = .ok (.lload_n 3, 1) := by decide +kernel
theorem dX11_follow_38 : decode cX11_follow 38 = .ok (.lcmp, 1) := by decide +kernel
theorem dX11_follow_39 : decode cX11_follow 39 = .ok (.ifCond .ge 195, 3) := by decide +kernel
theorem dX11_follow_42 : decode cX11_follow 42 = .ok (.iload_n 2, 1) := by decide +kernel
theorem dX11_follow_43 : decode cX11_follow 43 = .ok (.ifCond .le 191, 3) := by decide +kernel
theorem dX11_follow_46 : decode cX11_follow 46 = .ok (.aload_n 0, 1) := by decide +kernel
theorem dX11_follow_47 : decode cX11_follow 47 = .ok (.getfield 49, 3) := by decide +kernel
theorem dX11_follow_50 : decode cX11_follow 50 = .ok (.iload_n 2, 1) := by decide +kernel
theorem dX11_follow_51 : decode cX11_follow 51 = .ok (.iconst 1, 1) := by decide +kernel
theorem dX11_follow_52 : decode cX11_follow 52 = .ok (.isub, 1) := by decide +kernel
theorem dX11_follow_53 : decode cX11_follow 53 = .ok (.iaload, 1) := by decide +kernel
theorem dX11_follow_54 : decode cX11_follow 54 = .ok (.istore 7, 2) := by decide +kernel
theorem dX11_follow_56 : decode cX11_follow 56 = .ok (.aload_n 0, 1) := by decide +kernel
theorem dX11_follow_57 : decode cX11_follow 57 = .ok (.getfield 46, 3) := by decide +kernel
theorem dX11_follow_60 : decode cX11_follow 60 = .ok (.iload 7, 2) := by decide +kernel
theorem dX11_follow_62 : decode cX11_follow 62 = .ok (.iaload, 1) := by decide +kernel
theorem dX11_follow_63 : decode cX11_follow 63 = .ok (.aload_n 0, 1) := by decide +kernel
theorem dX11_follow_64 : decode cX11_follow 64 = .ok (.getfield 9, 3) := by decide +kernel
theorem dX11_follow_67 : decode cX11_follow 67 = .ok (.iload 7, 2) := by decide +kernel
theorem dX11_follow_69 : decode cX11_follow 69 = .ok (.iconst 1, 1) := by decide +kernel
theorem dX11_follow_70 : decode cX11_follow 70 = .ok (.iadd, 1) := by decide +kernel
theorem dX11_follow_71 : decode cX11_follow 71 = .ok (.iaload, 1) := by decide +kernel
theorem dX11_follow_72 : decode cX11_follow 72 = .ok (.if_icmp .ge 89, 3) := by decide +kernel
theorem dX11_follow_75 : decode cX11_follow 75 = .ok (.aload_n 0, 1) := by decide +kernel
theorem dX11_follow_76 : decode cX11_follow 76 = .ok (.getfield 15, 3) := by decide +kernel
theorem dX11_follow_79 : decode cX11_follow 79 = .ok (.aload_n 0, 1) := by decide +kernel
theorem dX11_follow_80 : decode cX11_follow 80 = .ok (.getfield 46, 3) := by decide +kernel
theorem dX11_follow_83 : decode cX11_follow 83 = .ok (.iload 7, 2) := by decide +kernel
theorem dX11_follow_85 : decode cX11_follow 85 = .ok (.iaload, 1) := by decide +kernel
theorem dX11_follow_86 : decode cX11_follow 86 = .ok (.iaload, 1) := by decide +kernel
theorem dX11_follow_87 : decode cX11_follow 87 = .ok (.istore 8, 2) := by decide +kernel
theorem dX11_follow_89 : decode cX11_follow 89 = .ok (.aload_n 0, 1) := by decide +kernel
theorem dX11_follow_90 : decode cX11_follow 90 = .ok (.getfield 46, 3) := by decide +kernel
theorem dX11_follow_93 : decode cX11_follow 93 = .ok (.iload 7, 2) := by decide +kernel
theorem dX11_follow_95 : decode cX11_follow 95 = .ok (.dup2, 1) := by decide +kernel
theorem dX11_follow_96 : decode cX11_follow 96 = .ok (.iaload, 1) := by decide +kernel
theorem dX11_follow_97 : decode cX11_follow 97 = .ok (.iconst 1, 1) := by decide +kernel
theorem dX11_follow_98 : decode cX11_follow 98 = .ok (.iadd, 1) := by decide +kernel
theorem dX11_follow_99 : decode cX11_follow 99 = .ok (.iastore, 1) := by decide +kernel
theorem dX11_follow_100 : decode cX11_follow 100 = .ok (.aload_n 0, 1) := by decide +kernel
theorem dX11_follow_101 : decode cX11_follow 101 = .ok (.getfield 40, 3) := by decide +kernel
theorem dX11_follow_104 : decode cX11_follow 104 = .ok (.iload 8, 2) := by decide +kernel
theorem dX11_follow_106 : decode cX11_follow 106 = .ok (.iaload, 1) := by decide +kernel
theorem dX11_follow_107 : decode cX11_follow 107 = .ok (.ifCond .ne 16, 3) := by decide +kernel
theorem dX11_follow_110 : decode cX11_follow 110 = .ok (.aload_n 0, 1) := by decide +kernel
theorem dX11_follow_111 : decode cX11_follow 111 = .ok (.iload 8, 2) := by decide +kernel
theorem dX11_follow_113 : decode cX11_follow 113 = .ok (.iload_n 2, 1) := by decide +kernel
theorem dX11_follow_114 : decode cX11_follow 114 = .ok (.invokevirtual 120, 3) := by decide +kernel
theorem dX11_follow_117 : decode cX11_follow 117 = .ok (.iinc 2 1, 3) := by decide +kernel
theorem dX11_follow_120 : decode cX11_follow 120 = .ok (.goto 38, 3) := by decide +kernel
theorem dX11_follow_123 : decode cX11_follow 123 = .ok (.aload_n 0, 1) := by decide +kernel
theorem dX11_follow_124 : decode cX11_follow 124 = .ok (.getfield 34, 3) := by decide +kernel
theorem dX11_follow_127 : decode cX11_follow 127 = .ok (.iload 8, 2) := by decide +kernel
theorem dX11_follow_129 : decode cX11_follow 129 = .ok (.iaload, 1) := by decide +kernel
theorem dX11_follow_130 : decode cX11_follow 130 = .ok (.iconst (-1), 1) := by decide +kernel
theorem dX11_follow_131 : decode cX11_follow 131 = .ok (.if_icmp .ne 27, 3) := by decide +kernel
theorem dX11_follow_134 : decode cX11_follow 134 = .ok (.aload_n 0, 1) := by decide +kernel
theorem dX11_follow_135 : decode cX11_follow 135 = .ok (.getfield 43, 3) := by decide +kernel
theorem dX11_follow_138 : decode cX11_follow 138 = .ok (.iload 7, 2) := by decide +kernel
theorem dX11_follow_140 : decode cX11_follow 140 = .ok (.aload_n 0, 1) := by decide +kernel
theorem dX11_follow_141 : decode cX11_follow 141 = .ok (.getfield 43, 3) := by decide +kernel
theorem dX11_follow_144 : decode cX11_follow 144 = .ok (.iload 7, 2) := by decide +kernel
theorem dX11_follow_146 : decode cX11_follow 146 = .ok (.iaload, 1) := by decide +kernel
theorem dX11_follow_147 : decode cX11_follow 147 = .ok (.aload_n 0, 1) := by decide +kernel
theorem dX11_follow_148 : decode cX11_follow 148 = .ok (.getfield 40, 3) := by decide +kernel
theorem dX11_follow_151 : decode cX11_follow 151 = .ok (.iload 8, 2) := by decide +kernel
theorem dX11_follow_153 : decode cX11_follow 153 = .ok (.iaload, 1) := by decide +kernel
theorem dX11_follow_154 : decode cX11_follow 154 = .ok (.invokestatic 74, 3) := by decide +kernel
theorem dX11_follow_157 : decode cX11_follow 157 = .ok (.iastore, 1) := by decide +kernel
theorem dX11_follow_158 : decode cX11_follow 158 = .ok (.goto 67, 3) := by decide +kernel
theorem dX11_follow_161 : decode cX11_follow 161 = .ok (.iinc 2 (-1), 3) := by decide +kernel
theorem dX11_follow_164 : decode cX11_follow 164 = .ok (.iload_n 2, 1) := by decide +kernel
theorem dX11_follow_165 : decode cX11_follow 165 = .ok (.ifCond .le 37, 3) := by decide +kernel
theorem dX11_follow_168 : decode cX11_follow 168 = .ok (.aload_n 0, 1) := by decide +kernel
theorem dX11_follow_169 : decode cX11_follow 169 = .ok (.getfield 49, 3) := by decide +kernel
theorem dX11_follow_172 : decode cX11_follow 172 = .ok (.iload_n 2, 1) := by decide +kernel
theorem dX11_follow_173 : decode cX11_follow 173 = .ok (.iconst 1, 1) := by decide +kernel
theorem dX11_follow_174 : decode cX11_follow 174 = .ok (.isub, 1) := by decide +kernel
theorem dX11_follow_175 : decode cX11_follow 175 = .ok (.iaload, 1) := by decide +kernel
theorem dX11_follow_176 : decode cX11_follow 176 = .ok (.istore 8, 2) := by decide +kernel
theorem dX11_follow_178 : decode cX11_follow 178 = .ok (.aload_n 0, 1) := by decide +kernel
theorem dX11_follow_179 : decode cX11_follow 179 = .ok (.getfield 43, 3) := by decide +kernel
theorem dX11_follow_182 : decode cX11_follow 182 = .ok (.iload 8, 2) := by decide +kernel
theorem dX11_follow_184 : decode cX11_follow 184 = .ok (.aload_n 0, 1) := by decide +kernel
theorem dX11_follow_185 : decode cX11_follow 185 = .ok (.getfield 43, 3) := by decide +kernel
theorem dX11_follow_188 : decode cX11_follow 188 = .ok (.iload 8, 2) := by decide +kernel
theorem dX11_follow_190 : decode cX11_follow 190 = .ok (.iaload, 1) := by decide +kernel
theorem dX11_follow_191 : decode cX11_follow 191 = .ok (.aload_n 0, 1) := by decide +kernel
theorem dX11_follow_192 : decode cX11_follow 192 = .ok (.getfield 43, 3) := by decide +kernel
theorem dX11_follow_195 : decode cX11_follow 195 = .ok (.iload 7, 2) := by decide +kernel
theorem dX11_follow_197 : decode cX11_follow 197 = .ok (.iaload, 1) := by decide +kernel
theorem dX11_follow_198 : decode cX11_follow 198 = .ok (.invokestatic 74, 3) := by decide +kernel
theorem dX11_follow_201 : decode cX11_follow 201 = .ok (.iastore, 1) := by decide +kernel
theorem dX11_follow_202 : decode cX11_follow 202 = .ok (.aload_n 0, 1) := by decide +kernel
theorem dX11_follow_203 : decode cX11_follow 203 = .ok (.getfield 43, 3) := by decide +kernel
theorem dX11_follow_206 : decode cX11_follow 206 = .ok (.iload 7, 2) := by decide +kernel
theorem dX11_follow_208 : decode cX11_follow 208 = .ok (.iaload, 1) := by decide +kernel
theorem dX11_follow_209 : decode cX11_follow 209 = .ok (.aload_n 0, 1) := by decide +kernel
theorem dX11_follow_210 : decode cX11_follow 210 = .ok (.getfield 40, 3) := by decide +kernel
theorem dX11_follow_213 : decode cX11_follow 213 = .ok (.iload 7, 2) := by decide +kernel
theorem dX11_follow_215 : decode cX11_follow 215 = .ok (.iaload, 1) := by decide +kernel
theorem dX11_follow_216 : decode cX11_follow 216 = .ok (.if_icmp .ne 9, 3) := by decide +kernel
theorem dX11_follow_219 : decode cX11_follow 219 = .ok (.aload_n 0, 1) := by decide +kernel
theorem dX11_follow_220 : decode cX11_follow 220 = .ok (.iload 7, 2) := by decide +kernel
theorem dX11_follow_222 : decode cX11_follow 222 = .ok (.invokevirtual 126, 3) := by decide +kernel
theorem dX11_follow_225 : decode cX11_follow 225 = .ok (.lload 5, 2) := by decide +kernel
theorem dX11_follow_227 : decode cX11_follow 227 = .ok (.lconst 1, 1) := by decide +kernel
theorem dX11_follow_228 : decode cX11_follow 228 = .ok (.ladd, 1) := by decide +kernel
theorem dX11_follow_229 : decode cX11_follow 229 = .ok (.lstore 5, 2) := by decide +kernel
theorem dX11_follow_231 : decode cX11_follow 231 = .ok (.goto (-196), 3) := by decide +kernel
theorem dX11_follow_234 : decode cX11_follow 234 = .ok (.return_, 1) := by decide +kernel
def w_We_follow_225 (C : zC) (n0 : Nat) (Q : zS → Prop) (B35 : Nat → Int32 → Int64 → Int64 → zS → Prop) (a0 : Nat) (a2 : Int32) (a3 : Int64) (a5 : Int64) (κ : zS) : Prop :=
  ∀ v5_1 : Int64, v5_1 = (a5 + (1 : Int64)) →
  B35 a0 a2 a3 v5_1 κ
theorem t_We_follow_225 {C : zC} {n0 : Nat} {Q : zS → Prop} {B35 : Nat → Int32 → Int64 → Int64 → zS → Prop} (hB35 : ∀ a0' a2' a3' a5' τ, zW C n0 τ → zT τ a0' = 14 → B35 a0' a2' a3' a5' τ → zG C n0 1 mWe_follow 35 [some (.ref a0'), none, some (.int a2'), some (.long a3'), none, some (.long a5'), none, none, none] [] τ (oV Q noX)) {a0 : Nat} {a2 : Int32} {a3 : Int64} {a5 : Int64} {κ : zS} (W : zW C n0 κ) (Ta0 : zT κ a0 = 14) (F : w_We_follow_225 C n0 Q B35 a0 a2 a3 a5 κ) : zG C n0 1 mWe_follow 225 [some (.ref a0), none, some (.int a2), some (.long a3), none, some (.long a5), none, none, none] [] κ (oV Q noX) := by
  unfold w_We_follow_225 at F
  refine y_ll dX11_follow_225 rfl ?_
  refine y_lc dX11_follow_227 zl_1 ?_
  refine y_ladd dX11_follow_228 ?_
  refine y_lsb dX11_follow_229 (Nat.le_of_ble_eq_true rfl) (fun v5_1 ev5_1 => ?_)
  replace F := F v5_1 ev5_1
  refine y_goto dX11_follow_231 (t := 35) rfl ?_
  exact y_k (hB35 _ _ _ _ _ W Ta0 F) ⟨rfl, rfl, rfl, rfl, trivial⟩

def w_We_follow_202 (C : zC) (n0 : Nat) (Q : zS → Prop) (B35 : Nat → Int32 → Int64 → Int64 → zS → Prop) (a0 : Nat) (a2 : Int32) (a3 : Int64) (a5 : Int64) (a7 : Int32) (κ : zS) : Prop :=
  inb a7 (zN κ (zR κ weLow a0)) ∧
  inb a7 (zN κ (zR κ weSeen a0)) ∧
  (¬ (zA κ (zR κ weLow a0) (a7).toNatClampNeg) = (zA κ (zR κ weSeen a0) (a7).toNatClampNeg) →
    w_We_follow_225 C n0 Q B35 a0 a2 a3 a5 κ) ∧
  ((zA κ (zR κ weLow a0) (a7).toNatClampNeg) = (zA κ (zR κ weSeen a0) (a7).toNatClampNeg) →
    ∀ _ : zT κ a0 = 14,
    zRun C 0 mWe_tie [.ref a0, .int a7] κ (oV (fun κ1 =>
      ∀ _ : zW C n0 κ1,
      ∀ _ : zM (zn κ) κ κ1,
      w_We_follow_225 C n0 Q B35 a0 a2 a3 a5 κ1) noX))
theorem t_We_follow_202 {C : zC} {n0 : Nat} {Q : zS → Prop} {B35 : Nat → Int32 → Int64 → Int64 → zS → Prop} (hB35 : ∀ a0' a2' a3' a5' τ, zW C n0 τ → zT τ a0' = 14 → B35 a0' a2' a3' a5' τ → zG C n0 1 mWe_follow 35 [some (.ref a0'), none, some (.int a2'), some (.long a3'), none, some (.long a5'), none, none, none] [] τ (oV Q noX)) {a0 : Nat} {a2 : Int32} {a3 : Int64} {a5 : Int64} {a7 : Int32} {κ : zS} (W : zW C n0 κ) (Ta0 : zT κ a0 = 14) (F : w_We_follow_202 C n0 Q B35 a0 a2 a3 a5 a7 κ) : zG C n0 1 mWe_follow 202 [some (.ref a0), none, some (.int a2), some (.long a3), none, some (.long a5), none, some (.int a7), none] [] κ (oV Q noX) := by
  unfold w_We_follow_202 at F
  refine y_aln dX11_follow_202 rfl ?_
  refine gf_X11_43 W dX11_follow_203 rfl Ta0 ?_
  refine y_il dX11_follow_206 rfl ?_
  refine y_ald dX11_follow_208 (ty_weLow W Ta0) F.1 ?_
  replace F := F.2
  refine y_aln dX11_follow_209 rfl ?_
  refine gf_X11_40 W dX11_follow_210 rfl Ta0 ?_
  refine y_il dX11_follow_213 rfl ?_
  refine y_ald dX11_follow_215 (ty_weSeen W Ta0) F.1 ?_
  replace F := F.2
  refine y_iin ((zA κ (zR κ weLow a0) (a7).toNatClampNeg) = (zA κ (zR κ weSeen a0) (a7).toNatClampNeg)) dX11_follow_216 (t := 225) rfl rfl (fun c9 => ?_) (fun c9 => ?_)
  · replace F := F.1 c9
    exact y_k (t_We_follow_225 hB35 W Ta0 F) ⟨rfl, rfl, rfl, rfl, trivial⟩
  · replace F := F.2 c9
    refine y_aln dX11_follow_219 rfl ?_
    refine y_il dX11_follow_220 rfl ?_
    replace F := F Ta0
    refine k_X11_126 W dX11_follow_222 rfl (Nat.le_of_ble_eq_true rfl) (Nat.le_of_ble_eq_true rfl) (Or.inl Ta0) F (fun  κ1 Wκ1 Mκ1 F => ?_) (fun _ _ h9 => False.elim h9)
    replace F := F Wκ1 Mκ1
    have h4 := (ztm W Mκ1 Ta0)
    exact y_k (t_We_follow_225 hB35 Wκ1 h4 F) ⟨rfl, rfl, rfl, rfl, trivial⟩

def w_We_follow_35 (C : zC) (n0 : Nat) (Q : zS → Prop)  (a0 : Nat) (a2 : Int32) (a3 : Int64) (a5 : Int64) (κ : zS) : Prop :=
  ∃ I : Nat → Nat → Int32 → Int64 → Int64 → zS → Prop, (∃ n, I n a0 a2 a3 a5 κ) ∧ ∀ n a0 a2 a3 a5 κ, zW C n0 κ → zT κ a0 = 14 → I n a0 a2 a3 a5 κ →
    ((0 : Int32) ≤ (lg_cmp a5 a3) →
      Q κ) ∧
    (¬ (0 : Int32) ≤ (lg_cmp a5 a3) →
      (a2 ≤ (0 : Int32) →
        Q κ) ∧
      (¬ a2 ≤ (0 : Int32) →
        inb (a2 - (1 : Int32)) (zN κ (zR κ wePath a0)) ∧
        ∀ v7_1 : Int32, v7_1 = (zA κ (zR κ wePath a0) ((a2 - (1 : Int32))).toNatClampNeg) →
        inb v7_1 (zN κ (zR κ weCursor a0)) ∧
        inb (v7_1 + (1 : Int32)) (zN κ (zR κ weFirsts a0)) ∧
        ((zA κ (zR κ weFirsts a0) ((v7_1 + (1 : Int32))).toNatClampNeg) ≤ (zA κ (zR κ weCursor a0) (v7_1).toNatClampNeg) →
          ∀ v2_2 : Int32, v2_2 = a2 + (-1 : Int32) →
          (v2_2 ≤ (0 : Int32) →
            w_We_follow_202 C n0 Q (fun a0' a2' a3' a5' τ => ∃ k < n, I k a0' a2' a3' a5' τ) a0 v2_2 a3 a5 v7_1 κ) ∧
          (¬ v2_2 ≤ (0 : Int32) →
            inb (v2_2 - (1 : Int32)) (zN κ (zR κ wePath a0)) ∧
            ∀ v8_3 : Int32, v8_3 = (zA κ (zR κ wePath a0) ((v2_2 - (1 : Int32))).toNatClampNeg) →
            inb v8_3 (zN κ (zR κ weLow a0)) ∧
            inb v7_1 (zN κ (zR κ weLow a0)) ∧
            inb v8_3 (zN κ (zR κ weLow a0)) ∧
            ∀ κ4, κ4 = ua κ (zR κ weLow a0) (v8_3).toNatClampNeg (if (zA κ (zR κ weLow a0) (v7_1).toNatClampNeg) < (zA κ (zR κ weLow a0) (v8_3).toNatClampNeg) then (zA κ (zR κ weLow a0) (v7_1).toNatClampNeg) else (zA κ (zR κ weLow a0) (v8_3).toNatClampNeg)) →
            ∀ _ : zW C n0 κ4,
            w_We_follow_202 C n0 Q (fun a0' a2' a3' a5' τ => ∃ k < n, I k a0' a2' a3' a5' τ) a0 v2_2 a3 a5 v7_1 κ4)) ∧
        (¬ (zA κ (zR κ weFirsts a0) ((v7_1 + (1 : Int32))).toNatClampNeg) ≤ (zA κ (zR κ weCursor a0) (v7_1).toNatClampNeg) →
          inb v7_1 (zN κ (zR κ weCursor a0)) ∧
          inb (zA κ (zR κ weCursor a0) (v7_1).toNatClampNeg) (zN κ (zR κ weTargets a0)) ∧
          ∀ v8_6 : Int32, v8_6 = (zA κ (zR κ weTargets a0) ((zA κ (zR κ weCursor a0) (v7_1).toNatClampNeg)).toNatClampNeg) →
          inb v7_1 (zN κ (zR κ weCursor a0)) ∧
          inb v7_1 (zN κ (zR κ weCursor a0)) ∧
          ∀ κ7, κ7 = ua κ (zR κ weCursor a0) (v7_1).toNatClampNeg ((zA κ (zR κ weCursor a0) (v7_1).toNatClampNeg) + (1 : Int32)) →
          ∀ _ : zW C n0 κ7,
          inb v8_6 (zN κ7 (zR κ7 weSeen a0)) ∧
          (¬ (zA κ7 (zR κ7 weSeen a0) (v8_6).toNatClampNeg) = (0 : Int32) →
            inb v8_6 (zN κ7 (zR κ7 weKnotOf a0)) ∧
            (¬ (zA κ7 (zR κ7 weKnotOf a0) (v8_6).toNatClampNeg) = (-1 : Int32) →
              w_We_follow_225 C n0 Q (fun a0' a2' a3' a5' τ => ∃ k < n, I k a0' a2' a3' a5' τ) a0 a2 a3 a5 κ7) ∧
            ((zA κ7 (zR κ7 weKnotOf a0) (v8_6).toNatClampNeg) = (-1 : Int32) →
              inb v7_1 (zN κ7 (zR κ7 weLow a0)) ∧
              inb v8_6 (zN κ7 (zR κ7 weSeen a0)) ∧
              inb v7_1 (zN κ7 (zR κ7 weLow a0)) ∧
              ∀ κ9, κ9 = ua κ7 (zR κ7 weLow a0) (v7_1).toNatClampNeg (if (zA κ7 (zR κ7 weSeen a0) (v8_6).toNatClampNeg) < (zA κ7 (zR κ7 weLow a0) (v7_1).toNatClampNeg) then (zA κ7 (zR κ7 weSeen a0) (v8_6).toNatClampNeg) else (zA κ7 (zR κ7 weLow a0) (v7_1).toNatClampNeg)) →
              ∀ _ : zW C n0 κ9,
              w_We_follow_225 C n0 Q (fun a0' a2' a3' a5' τ => ∃ k < n, I k a0' a2' a3' a5' τ) a0 a2 a3 a5 κ9)) ∧
          ((zA κ7 (zR κ7 weSeen a0) (v8_6).toNatClampNeg) = (0 : Int32) →
            ∀ _ : zT κ7 a0 = 14,
            zRun C 0 mWe_visit [.ref a0, .int v8_6, .int a2] κ7 (oV (fun κ11 =>
              ∀ _ : zW C n0 κ11,
              ∀ _ : zM (zn κ7) κ7 κ11,
              ∀ v2_14 : Int32, v2_14 = a2 + (1 : Int32) →
              w_We_follow_225 C n0 Q (fun a0' a2' a3' a5' τ => ∃ k < n, I k a0' a2' a3' a5' τ) a0 v2_14 a3 a5 κ11) noX)))))
theorem t_We_follow_35 {C : zC} {n0 : Nat} {Q : zS → Prop}   {a0 : Nat} {a2 : Int32} {a3 : Int64} {a5 : Int64} {κ : zS} (W : zW C n0 κ) (Ta0 : zT κ a0 = 14) (F : w_We_follow_35 C n0 Q  a0 a2 a3 a5 κ) : zG C n0 1 mWe_follow 35 [some (.ref a0), none, some (.int a2), some (.long a3), none, some (.long a5), none, none, none] [] κ (oV Q noX) := by
  obtain ⟨I, ⟨m0, hI0⟩, F0⟩ := F
  have key : ∀ n a0 a2 a3 a5 κ, zW C n0 κ → zT κ a0 = 14 → I n a0 a2 a3 a5 κ → zG C n0 1 mWe_follow 35 [some (.ref a0), none, some (.int a2), some (.long a3), none, some (.long a5), none, none, none] [] κ (oV Q noX) := by
    intro n
    induction n using Nat.strongRecOn with
    | _ n ih =>
      intro a0 a2 a3 a5 κ W Ta0 hI
      have F := F0 n a0 a2 a3 a5 κ W Ta0 hI
      clear hI hI0
      refine y_ll dX11_follow_35 rfl ?_
      refine y_lln dX11_follow_37 rfl ?_
      refine y_lcmp dX11_follow_38 ?_
      refine y_i ((0 : Int32) ≤ (lg_cmp a5 a3)) dX11_follow_39 (t := 234) rfl rfl (fun c9 => ?_) (fun c9 => ?_)
      · replace F := F.1 c9
        exact y_rv W dX11_follow_234 rfl F
      · replace F := F.2 c9
        refine y_iln dX11_follow_42 rfl ?_
        refine y_i (a2 ≤ (0 : Int32)) dX11_follow_43 (t := 234) rfl rfl (fun c9 => ?_) (fun c9 => ?_)
        · replace F := F.1 c9
          exact y_rv W dX11_follow_234 rfl F
        · replace F := F.2 c9
          refine y_aln dX11_follow_46 rfl ?_
          refine gf_X11_49 W dX11_follow_47 rfl Ta0 ?_
          refine y_iln dX11_follow_50 rfl ?_
          refine y_ic dX11_follow_51 zi_1 ?_
          refine y_isub dX11_follow_52 ?_
          refine y_ald dX11_follow_53 (ty_wePath W Ta0) F.1 ?_
          replace F := F.2
          refine y_isb dX11_follow_54 (Nat.le_of_ble_eq_true rfl) (fun v7_1 ev7_1 => ?_)
          replace F := F v7_1 ev7_1
          refine y_aln dX11_follow_56 rfl ?_
          refine gf_X11_46 W dX11_follow_57 rfl Ta0 ?_
          refine y_il dX11_follow_60 rfl ?_
          refine y_ald dX11_follow_62 (ty_weCursor W Ta0) F.1 ?_
          replace F := F.2
          refine y_aln dX11_follow_63 rfl ?_
          refine gf_X11_9 W dX11_follow_64 rfl Ta0 ?_
          refine y_il dX11_follow_67 rfl ?_
          refine y_ic dX11_follow_69 zi_1 ?_
          refine y_iadd dX11_follow_70 ?_
          refine y_ald dX11_follow_71 (ty_weFirsts W Ta0) F.1 ?_
          replace F := F.2
          refine y_ii ((zA κ (zR κ weFirsts a0) ((v7_1 + (1 : Int32))).toNatClampNeg) ≤ (zA κ (zR κ weCursor a0) (v7_1).toNatClampNeg)) dX11_follow_72 (t := 161) rfl rfl (fun c9 => ?_) (fun c9 => ?_)
          · replace F := F.1 c9
            refine y_incb dX11_follow_161 zi_m1 rfl (Nat.le_of_ble_eq_true rfl) (fun v2_2 ev2_2 => ?_)
            replace F := F v2_2 ev2_2
            refine y_iln dX11_follow_164 rfl ?_
            refine y_i (v2_2 ≤ (0 : Int32)) dX11_follow_165 (t := 202) rfl rfl (fun c9 => ?_) (fun c9 => ?_)
            · replace F := F.1 c9
              exact y_k (t_We_follow_202 (fun a0' a2' a3' a5' τ w9 f09 hb => by obtain ⟨k, hk, hI⟩ := hb; exact ih k hk a0' a2' a3' a5' τ w9 f09 hI) W Ta0 F) ⟨rfl, rfl, rfl, rfl, rfl, trivial⟩
            · replace F := F.2 c9
              refine y_aln dX11_follow_168 rfl ?_
              refine gf_X11_49 W dX11_follow_169 rfl Ta0 ?_
              refine y_iln dX11_follow_172 rfl ?_
              refine y_ic dX11_follow_173 zi_1 ?_
              refine y_isub dX11_follow_174 ?_
              refine y_ald dX11_follow_175 (ty_wePath W Ta0) F.1 ?_
              replace F := F.2
              refine y_isb dX11_follow_176 (Nat.le_of_ble_eq_true rfl) (fun v8_3 ev8_3 => ?_)
              replace F := F v8_3 ev8_3
              refine y_aln dX11_follow_178 rfl ?_
              refine gf_X11_43 W dX11_follow_179 rfl Ta0 ?_
              refine y_il dX11_follow_182 rfl ?_
              refine y_aln dX11_follow_184 rfl ?_
              refine gf_X11_43 W dX11_follow_185 rfl Ta0 ?_
              refine y_il dX11_follow_188 rfl ?_
              refine y_ald dX11_follow_190 (ty_weLow W Ta0) F.1 ?_
              replace F := F.2
              refine y_aln dX11_follow_191 rfl ?_
              refine gf_X11_43 W dX11_follow_192 rfl Ta0 ?_
              refine y_il dX11_follow_195 rfl ?_
              refine y_ald dX11_follow_197 (ty_weLow W Ta0) F.1 ?_
              replace F := F.2
              refine y_min dX11_follow_198 rfl zbi_X11_74 (Nat.le_of_ble_eq_true rfl) (Nat.le_of_ble_eq_true rfl) ?_
              refine y_ast W dX11_follow_201 (ty_weLow W Ta0) F.1 (fun κ4 eκ4 => ?_)
              replace F := F.2 κ4 eκ4
              have Wκ4 : zW C n0 κ4 := zW_ua W eκ4 (fun h => absurd (h.symm.trans (ty_weLow W Ta0)) (by decide)) (fun h => absurd (h.symm.trans (ty_weLow W Ta0)) (by decide))
              have Mκ4 : zM (zn κ) κ κ4 := by rw [eκ4]; exact zM.of rfl rfl rfl
              replace F := F Wκ4
              have h5 := (ztm W Mκ4 Ta0)
              exact y_k (t_We_follow_202 (fun a0' a2' a3' a5' τ w9 f09 hb => by obtain ⟨k, hk, hI⟩ := hb; exact ih k hk a0' a2' a3' a5' τ w9 f09 hI) Wκ4 h5 F) ⟨rfl, rfl, rfl, rfl, rfl, trivial⟩
          · replace F := F.2 c9
            refine y_aln dX11_follow_75 rfl ?_
            refine gf_X11_15 W dX11_follow_76 rfl Ta0 ?_
            refine y_aln dX11_follow_79 rfl ?_
            refine gf_X11_46 W dX11_follow_80 rfl Ta0 ?_
            refine y_il dX11_follow_83 rfl ?_
            refine y_ald dX11_follow_85 (ty_weCursor W Ta0) F.1 ?_
            replace F := F.2
            refine y_ald dX11_follow_86 (ty_weTargets W Ta0) F.1 ?_
            replace F := F.2
            refine y_isb dX11_follow_87 (Nat.le_of_ble_eq_true rfl) (fun v8_6 ev8_6 => ?_)
            replace F := F v8_6 ev8_6
            refine y_aln dX11_follow_89 rfl ?_
            refine gf_X11_46 W dX11_follow_90 rfl Ta0 ?_
            refine y_il dX11_follow_93 rfl ?_
            refine y_dup2 dX11_follow_95 rfl rfl ?_
            refine y_ald dX11_follow_96 (ty_weCursor W Ta0) F.1 ?_
            replace F := F.2
            refine y_ic dX11_follow_97 zi_1 ?_
            refine y_iadd dX11_follow_98 ?_
            refine y_ast W dX11_follow_99 (ty_weCursor W Ta0) F.1 (fun κ7 eκ7 => ?_)
            replace F := F.2 κ7 eκ7
            have Wκ7 : zW C n0 κ7 := zW_ua W eκ7 (fun h => absurd (h.symm.trans (ty_weCursor W Ta0)) (by decide)) (fun h => absurd (h.symm.trans (ty_weCursor W Ta0)) (by decide))
            have Mκ7 : zM (zn κ) κ κ7 := by rw [eκ7]; exact zM.of rfl rfl rfl
            replace F := F Wκ7
            refine y_aln dX11_follow_100 rfl ?_
            have h8 := (ztm W Mκ7 Ta0)
            refine gf_X11_40 Wκ7 dX11_follow_101 rfl h8 ?_
            refine y_il dX11_follow_104 rfl ?_
            refine y_ald dX11_follow_106 (ty_weSeen Wκ7 h8) F.1 ?_
            replace F := F.2
            refine y_in ((zA κ7 (zR κ7 weSeen a0) (v8_6).toNatClampNeg) = (0 : Int32)) dX11_follow_107 (t := 123) rfl rfl (fun c9 => ?_) (fun c9 => ?_)
            · replace F := F.1 c9
              refine y_aln dX11_follow_123 rfl ?_
              refine gf_X11_34 Wκ7 dX11_follow_124 rfl h8 ?_
              refine y_il dX11_follow_127 rfl ?_
              refine y_ald dX11_follow_129 (ty_weKnotOf Wκ7 h8) F.1 ?_
              replace F := F.2
              refine y_ic dX11_follow_130 zi_m1 ?_
              refine y_iin ((zA κ7 (zR κ7 weKnotOf a0) (v8_6).toNatClampNeg) = (-1 : Int32)) dX11_follow_131 (t := 158) rfl rfl (fun c9 => ?_) (fun c9 => ?_)
              · replace F := F.1 c9
                refine y_goto dX11_follow_158 (t := 225) rfl ?_
                exact y_k (t_We_follow_225 (fun a0' a2' a3' a5' τ w9 f09 hb => by obtain ⟨k, hk, hI⟩ := hb; exact ih k hk a0' a2' a3' a5' τ w9 f09 hI) Wκ7 h8 F) ⟨rfl, rfl, rfl, rfl, trivial⟩
              · replace F := F.2 c9
                refine y_aln dX11_follow_134 rfl ?_
                refine gf_X11_43 Wκ7 dX11_follow_135 rfl h8 ?_
                refine y_il dX11_follow_138 rfl ?_
                refine y_aln dX11_follow_140 rfl ?_
                refine gf_X11_43 Wκ7 dX11_follow_141 rfl h8 ?_
                refine y_il dX11_follow_144 rfl ?_
                refine y_ald dX11_follow_146 (ty_weLow Wκ7 h8) F.1 ?_
                replace F := F.2
                refine y_aln dX11_follow_147 rfl ?_
                refine gf_X11_40 Wκ7 dX11_follow_148 rfl h8 ?_
                refine y_il dX11_follow_151 rfl ?_
                refine y_ald dX11_follow_153 (ty_weSeen Wκ7 h8) F.1 ?_
                replace F := F.2
                refine y_min dX11_follow_154 rfl zbi_X11_74 (Nat.le_of_ble_eq_true rfl) (Nat.le_of_ble_eq_true rfl) ?_
                refine y_ast Wκ7 dX11_follow_157 (ty_weLow Wκ7 h8) F.1 (fun κ9 eκ9 => ?_)
                replace F := F.2 κ9 eκ9
                have Wκ9 : zW C n0 κ9 := zW_ua Wκ7 eκ9 (fun h => absurd (h.symm.trans (ty_weLow Wκ7 h8)) (by decide)) (fun h => absurd (h.symm.trans (ty_weLow Wκ7 h8)) (by decide))
                have Mκ9 : zM (zn κ7) κ7 κ9 := by rw [eκ9]; exact zM.of rfl rfl rfl
                replace F := F Wκ9
                refine y_goto dX11_follow_158 (t := 225) rfl ?_
                have h10 := (ztm Wκ7 Mκ9 h8)
                exact y_k (t_We_follow_225 (fun a0' a2' a3' a5' τ w9 f09 hb => by obtain ⟨k, hk, hI⟩ := hb; exact ih k hk a0' a2' a3' a5' τ w9 f09 hI) Wκ9 h10 F) ⟨rfl, rfl, rfl, rfl, trivial⟩
            · replace F := F.2 c9
              refine y_aln dX11_follow_110 rfl ?_
              refine y_il dX11_follow_111 rfl ?_
              refine y_iln dX11_follow_113 rfl ?_
              replace F := F h8
              refine k_X11_120 Wκ7 dX11_follow_114 rfl (Nat.le_of_ble_eq_true rfl) (Nat.le_of_ble_eq_true rfl) (Or.inl h8) F (fun  κ11 Wκ11 Mκ11 F => ?_) (fun _ _ h9 => False.elim h9)
              replace F := F Wκ11 Mκ11
              refine y_incb dX11_follow_117 zi_1 rfl (Nat.le_of_ble_eq_true rfl) (fun v2_14 ev2_14 => ?_)
              replace F := F v2_14 ev2_14
              refine y_goto dX11_follow_120 (t := 158) rfl ?_
              refine y_goto dX11_follow_158 (t := 225) rfl ?_
              have h15 := (ztm Wκ7 Mκ11 h8)
              exact y_k (t_We_follow_225 (fun a0' a2' a3' a5' τ w9 f09 hb => by obtain ⟨k, hk, hI⟩ := hb; exact ih k hk a0' a2' a3' a5' τ w9 f09 hI) Wκ11 h15 F) ⟨rfl, rfl, rfl, rfl, trivial⟩
  exact key m0 a0 a2 a3 a5 κ W Ta0 hI0

def w_We_follow_0 (C : zC) (n0 : Nat) (Q : zS → Prop)  (a0 : Nat) (a1 : Int32) (κ : zS) : Prop :=
  ∀ _ : zT κ a0 = 14,
  zRun C 0 mWe_visit [.ref a0, .int a1, .int (0 : Int32)] κ (oV (fun κ1 =>
    ∀ _ : zW C n0 κ1,
    ∀ _ : zM (zn κ) κ κ1,
    inb (zI κ1 weTotal a0) (zN κ1 (zR κ1 weFirsts a0)) ∧
    ∀ v3_5 : Int64, v3_5 = (((2 : Int64) * (Int32.toInt64 ((zA κ1 (zR κ1 weFirsts a0) ((zI κ1 weTotal a0)).toNatClampNeg) + (zI κ1 weTotal a0)))) + (2 : Int64)) →
    w_We_follow_35 C n0 Q  a0 (1 : Int32) v3_5 (0 : Int64) κ1) noX)
theorem t_We_follow_0 {C : zC} {n0 : Nat} {Q : zS → Prop}   {a0 : Nat} {a1 : Int32} {κ : zS} (W : zW C n0 κ) (Ta0 : zT κ a0 = 14) (F : w_We_follow_0 C n0 Q  a0 a1 κ) : zG C n0 1 mWe_follow 0 [some (.ref a0), some (.int a1), none, none, none, none, none, none, none] [] κ (oV Q noX) := by
  unfold w_We_follow_0 at F
  refine y_ic dX11_follow_0 zi_1 ?_
  refine y_isn dX11_follow_1 (Nat.le_of_ble_eq_true rfl) rfl ?_
  refine y_aln dX11_follow_2 rfl ?_
  refine y_iln dX11_follow_3 rfl ?_
  refine y_ic dX11_follow_4 zi_0 ?_
  replace F := F Ta0
  refine k_X11_120 W dX11_follow_5 rfl (Nat.le_of_ble_eq_true rfl) (Nat.le_of_ble_eq_true rfl) (Or.inl Ta0) F (fun  κ1 Wκ1 Mκ1 F => ?_) (fun _ _ h9 => False.elim h9)
  replace F := F Wκ1 Mκ1
  refine y_ldcl dX11_follow_8 rfl zcl_X11_124 ?_
  refine y_aln dX11_follow_11 rfl ?_
  have h4 := (ztm W Mκ1 Ta0)
  refine gf_X11_9 Wκ1 dX11_follow_12 rfl h4 ?_
  refine y_aln dX11_follow_15 rfl ?_
  refine gf_X11_70 dX11_follow_16 rfl (Or.inl h4) ?_
  refine y_ald dX11_follow_19 (ty_weFirsts Wκ1 h4) F.1 ?_
  replace F := F.2
  refine y_aln dX11_follow_20 rfl ?_
  refine gf_X11_70 dX11_follow_21 rfl (Or.inl h4) ?_
  refine y_iadd dX11_follow_24 ?_
  refine y_i2l dX11_follow_25 ?_
  refine y_lmul dX11_follow_26 ?_
  refine y_ldcl dX11_follow_27 rfl zcl_X11_124 ?_
  refine y_ladd dX11_follow_30 ?_
  refine y_lsnb dX11_follow_31 (Nat.le_of_ble_eq_true rfl) (fun v3_5 ev3_5 => ?_)
  replace F := F v3_5 ev3_5
  refine y_lc dX11_follow_32 zl_0 ?_
  refine y_ls dX11_follow_33 (Nat.le_of_ble_eq_true rfl) rfl ?_
  exact y_k (t_We_follow_35  Wκ1 h4 F) ⟨rfl, rfl, rfl, rfl, trivial⟩

theorem We_follow_run {C : zC} {n0 : Nat} {Q : zS → Prop} {a0 : Nat} {a1 : Int32} {κ : zS} (W : zW C n0 κ) (Ta0 : zT κ a0 = 14) (F : w_We_follow_0 C (zn κ) Q a0 a1 κ) : zRun C 1 mWe_follow [.ref a0, .int a1] κ (oV Q noX) := z_run (m_ent _ 7) (t_We_follow_0 (W.lo (Nat.le_trans W.1.2.1 W.1.2.2) (Nat.le_refl _)) Ta0 F)

theorem dX11_knot_0 : decode cX11_knot 0 = .ok (.aload_n 0, 1) := by decide +kernel
theorem dX11_knot_1 : decode cX11_knot 1 = .ok (.getfield 40, 3) := by decide +kernel
theorem dX11_knot_4 : decode cX11_knot 4 = .ok (.iconst 0, 1) := by decide +kernel
theorem dX11_knot_5 : decode cX11_knot 5 = .ok (.invokestatic 80, 3) := by decide +kernel
theorem dX11_knot_8 : decode cX11_knot 8 = .ok (.aload_n 0, 1) := by decide +kernel
theorem dX11_knot_9 : decode cX11_knot 9 = .ok (.getfield 34, 3) := by decide +kernel
theorem dX11_knot_12 : decode cX11_knot 12 = .ok (.iconst (-1), 1) := by decide +kernel
theorem dX11_knot_13 : decode cX11_knot 13 = .ok (.invokestatic 80, 3) := by decide +kernel
theorem dX11_knot_16 : decode cX11_knot 16 = .ok (.aload_n 0, 1) := by decide +kernel
theorem dX11_knot_17 : decode cX11_knot 17 = .ok (.iconst 0, 1) := by decide +kernel
theorem dX11_knot_18 : decode cX11_knot 18 = .ok (.putfield 105, 3) := by decide +kernel
theorem dX11_knot_21 : decode cX11_knot 21 = .ok (.aload_n 0, 1) := by decide +kernel
theorem dX11_knot_22 : decode cX11_knot 22 = .ok (.iconst 0, 1) := by decide +kernel
theorem dX11_knot_23 : decode cX11_knot 23 = .ok (.putfield 108, 3) := by decide +kernel
theorem dX11_knot_26 : decode cX11_knot 26 = .ok (.aload_n 0, 1) := by decide +kernel
theorem dX11_knot_27 : decode cX11_knot 27 = .ok (.iconst 0, 1) := by decide +kernel
theorem dX11_knot_28 : decode cX11_knot 28 = .ok (.putfield 111, 3) := by decide +kernel
theorem dX11_knot_31 : decode cX11_knot 31 = .ok (.aload_n 0, 1) := by decide +kernel
theorem dX11_knot_32 : decode cX11_knot 32 = .ok (.iconst 0, 1) := by decide +kernel
theorem dX11_knot_33 : decode cX11_knot 33 = .ok (.putfield 114, 3) := by decide +kernel
theorem dX11_knot_36 : decode cX11_knot 36 = .ok (.iconst 0, 1) := by decide +kernel
theorem dX11_knot_37 : decode cX11_knot 37 = .ok (.istore_n 1, 1) := by decide +kernel
theorem dX11_knot_38 : decode cX11_knot 38 = .ok (.iload_n 1, 1) := by decide +kernel
theorem dX11_knot_39 : decode cX11_knot 39 = .ok (.aload_n 0, 1) := by decide +kernel
theorem dX11_knot_40 : decode cX11_knot 40 = .ok (.getfield 70, 3) := by decide +kernel
theorem dX11_knot_43 : decode cX11_knot 43 = .ok (.if_icmp .ge 23, 3) := by decide +kernel
theorem dX11_knot_46 : decode cX11_knot 46 = .ok (.aload_n 0, 1) := by decide +kernel
theorem dX11_knot_47 : decode cX11_knot 47 = .ok (.getfield 40, 3) := by decide +kernel
theorem dX11_knot_50 : decode cX11_knot 50 = .ok (.iload_n 1, 1) := by decide +kernel
theorem dX11_knot_51 : decode cX11_knot 51 = .ok (.iaload, 1) := by decide +kernel
theorem dX11_knot_52 : decode cX11_knot 52 = .ok (.ifCond .ne 8, 3) := by decide +kernel
theorem dX11_knot_55 : decode cX11_knot 55 = .ok (.aload_n 0, 1) := by decide +kernel
theorem dX11_knot_56 : decode cX11_knot 56 = .ok (.iload_n 1, 1) := by decide +kernel
theorem dX11_knot_57 : decode cX11_knot 57 = .ok (.invokevirtual 117, 3) := by decide +kernel
theorem dX11_knot_60 : decode cX11_knot 60 = .ok (.iinc 1 1, 3) := by decide +kernel
theorem dX11_knot_63 : decode cX11_knot 63 = .ok (.goto (-25), 3) := by decide +kernel
theorem dX11_knot_66 : decode cX11_knot 66 = .ok (.aload_n 0, 1) := by decide +kernel
theorem dX11_knot_67 : decode cX11_knot 67 = .ok (.getfield 31, 3) := by decide +kernel
theorem dX11_knot_70 : decode cX11_knot 70 = .ok (.aload_n 0, 1) := by decide +kernel
theorem dX11_knot_71 : decode cX11_knot 71 = .ok (.getfield 105, 3) := by decide +kernel
theorem dX11_knot_74 : decode cX11_knot 74 = .ok (.aload_n 0, 1) := by decide +kernel
theorem dX11_knot_75 : decode cX11_knot 75 = .ok (.getfield 108, 3) := by decide +kernel
theorem dX11_knot_78 : decode cX11_knot 78 = .ok (.iastore, 1) := by decide +kernel
theorem dX11_knot_79 : decode cX11_knot 79 = .ok (.return_, 1) := by decide +kernel
def w_We_knot_38 (C : zC) (n0 : Nat) (Q : zS → Prop)  (a0 : Nat) (a1 : Int32) (κ : zS) : Prop :=
  ∃ I : Nat → Nat → Int32 → zS → Prop, (∃ n, I n a0 a1 κ) ∧ ∀ n a0 a1 κ, zW C n0 κ → zT κ a0 = 14 → I n a0 a1 κ →
    ((zI κ weTotal a0) ≤ a1 →
      inb (zI κ weKnots a0) (zN κ (zR κ weKnotFirsts a0)) ∧
      ∀ κ1, κ1 = ua κ (zR κ weKnotFirsts a0) ((zI κ weKnots a0)).toNatClampNeg (zI κ wePlaced a0) →
      ∀ _ : zW C n0 κ1,
      Q κ1) ∧
    (¬ (zI κ weTotal a0) ≤ a1 →
      inb a1 (zN κ (zR κ weSeen a0)) ∧
      (¬ (zA κ (zR κ weSeen a0) (a1).toNatClampNeg) = (0 : Int32) →
        ∀ v1_2 : Int32, v1_2 = a1 + (1 : Int32) →
        ∃ k < n, I k a0 v1_2 κ) ∧
      ((zA κ (zR κ weSeen a0) (a1).toNatClampNeg) = (0 : Int32) →
        ∀ _ : zT κ a0 = 14,
        zRun C 1 mWe_follow [.ref a0, .int a1] κ (oV (fun κ3 =>
          ∀ _ : zW C n0 κ3,
          ∀ _ : zM (zn κ) κ κ3,
          ∀ v1_6 : Int32, v1_6 = a1 + (1 : Int32) →
          ∃ k < n, I k a0 v1_6 κ3) noX)))
theorem t_We_knot_38 {C : zC} {n0 : Nat} {Q : zS → Prop}   {a0 : Nat} {a1 : Int32} {κ : zS} (W : zW C n0 κ) (Ta0 : zT κ a0 = 14) (F : w_We_knot_38 C n0 Q  a0 a1 κ) : zG C n0 2 mWe_knot 38 [some (.ref a0), some (.int a1)] [] κ (oV Q noX) := by
  obtain ⟨I, ⟨m0, hI0⟩, F0⟩ := F
  have key : ∀ n a0 a1 κ, zW C n0 κ → zT κ a0 = 14 → I n a0 a1 κ → zG C n0 2 mWe_knot 38 [some (.ref a0), some (.int a1)] [] κ (oV Q noX) := by
    intro n
    induction n using Nat.strongRecOn with
    | _ n ih =>
      intro a0 a1 κ W Ta0 hI
      have F := F0 n a0 a1 κ W Ta0 hI
      clear hI hI0
      refine y_iln dX11_knot_38 rfl ?_
      refine y_aln dX11_knot_39 rfl ?_
      refine gf_X11_70 dX11_knot_40 rfl (Or.inl Ta0) ?_
      refine y_ii ((zI κ weTotal a0) ≤ a1) dX11_knot_43 (t := 66) rfl rfl (fun c9 => ?_) (fun c9 => ?_)
      · replace F := F.1 c9
        refine y_aln dX11_knot_66 rfl ?_
        refine gf_X11_31 W dX11_knot_67 rfl Ta0 ?_
        refine y_aln dX11_knot_70 rfl ?_
        refine gf_X11_105 dX11_knot_71 rfl (Or.inl Ta0) ?_
        refine y_aln dX11_knot_74 rfl ?_
        refine gf_X11_108 dX11_knot_75 rfl (Or.inl Ta0) ?_
        refine y_ast W dX11_knot_78 (ty_weKnotFirsts W Ta0) F.1 (fun κ1 eκ1 => ?_)
        replace F := F.2 κ1 eκ1
        have Wκ1 : zW C n0 κ1 := zW_ua W eκ1 (fun h => absurd (h.symm.trans (ty_weKnotFirsts W Ta0)) (by decide)) (fun h => absurd (h.symm.trans (ty_weKnotFirsts W Ta0)) (by decide))
        have Mκ1 : zM (zn κ) κ κ1 := by rw [eκ1]; exact zM.of rfl rfl rfl
        replace F := F Wκ1
        exact y_rv Wκ1 dX11_knot_79 rfl F
      · replace F := F.2 c9
        refine y_aln dX11_knot_46 rfl ?_
        refine gf_X11_40 W dX11_knot_47 rfl Ta0 ?_
        refine y_iln dX11_knot_50 rfl ?_
        refine y_ald dX11_knot_51 (ty_weSeen W Ta0) F.1 ?_
        replace F := F.2
        refine y_in ((zA κ (zR κ weSeen a0) (a1).toNatClampNeg) = (0 : Int32)) dX11_knot_52 (t := 60) rfl rfl (fun c9 => ?_) (fun c9 => ?_)
        · replace F := F.1 c9
          refine y_incb dX11_knot_60 zi_1 rfl (Nat.le_of_ble_eq_true rfl) (fun v1_2 ev1_2 => ?_)
          replace F := F v1_2 ev1_2
          refine y_goto dX11_knot_63 (t := 38) rfl ?_
          obtain ⟨k, hk, hI⟩ := F
          exact y_k (ih k hk _ _ _ W Ta0 hI) ⟨rfl, rfl, trivial⟩
        · replace F := F.2 c9
          refine y_aln dX11_knot_55 rfl ?_
          refine y_iln dX11_knot_56 rfl ?_
          replace F := F Ta0
          refine k_X11_117 W dX11_knot_57 rfl (Nat.le_of_ble_eq_true rfl) (Nat.le_of_ble_eq_true rfl) (Or.inl Ta0) F (fun  κ3 Wκ3 Mκ3 F => ?_) (fun _ _ h9 => False.elim h9)
          replace F := F Wκ3 Mκ3
          refine y_incb dX11_knot_60 zi_1 rfl (Nat.le_of_ble_eq_true rfl) (fun v1_6 ev1_6 => ?_)
          replace F := F v1_6 ev1_6
          refine y_goto dX11_knot_63 (t := 38) rfl ?_
          have h7 := (ztm W Mκ3 Ta0)
          obtain ⟨k, hk, hI⟩ := F
          exact y_k (ih k hk _ _ _ Wκ3 h7 hI) ⟨rfl, rfl, trivial⟩
  exact key m0 a0 a1 κ W Ta0 hI0

def w_We_knot_0 (C : zC) (n0 : Nat) (Q : zS → Prop)  (a0 : Nat) (κ : zS) : Prop :=
  ∀ _ : zT κ (zR κ weSeen a0) = 20,
  zRun C 0 mAr_fill [.ref (zR κ weSeen a0), .int (0 : Int32)] κ (oV (fun κ1 =>
    ∀ _ : zW C n0 κ1,
    ∀ _ : zM (zn κ) κ κ1,
    ∀ _ : zT κ1 (zR κ1 weKnotOf a0) = 20,
    zRun C 0 mAr_fill [.ref (zR κ1 weKnotOf a0), .int (-1 : Int32)] κ1 (oV (fun κ5 =>
      ∀ _ : zW C n0 κ5,
      ∀ _ : zM (zn κ1) κ1 κ5,
      ∀ κ8, κ8 = ui κ5 weKnots a0 (0 : Int32) →
      ∀ _ : zW C n0 κ8,
      ∀ κ10, κ10 = ui κ8 wePlaced a0 (0 : Int32) →
      ∀ _ : zW C n0 κ10,
      ∀ κ12, κ12 = ui κ10 weHeaped a0 (0 : Int32) →
      ∀ _ : zW C n0 κ12,
      ∀ κ14, κ14 = ui κ12 weStamp a0 (0 : Int32) →
      ∀ _ : zW C n0 κ14,
      w_We_knot_38 C n0 Q  a0 (0 : Int32) κ14) noX)) noX)
theorem t_We_knot_0 {C : zC} {n0 : Nat} {Q : zS → Prop}   {a0 : Nat} {κ : zS} (W : zW C n0 κ) (Ta0 : zT κ a0 = 14) (F : w_We_knot_0 C n0 Q  a0 κ) : zG C n0 2 mWe_knot 0 [some (.ref a0), none] [] κ (oV Q noX) := by
  unfold w_We_knot_0 at F
  refine y_aln dX11_knot_0 rfl ?_
  refine gf_X11_40 W dX11_knot_1 rfl Ta0 ?_
  refine y_ic dX11_knot_4 zi_0 ?_
  replace F := F (ty_weSeen W Ta0)
  refine k_X11_80 W dX11_knot_5 rfl (Nat.le_of_ble_eq_true rfl) (Nat.le_of_ble_eq_true rfl)  F (fun  κ1 Wκ1 Mκ1 F => ?_) (fun _ _ h9 => False.elim h9)
  replace F := F Wκ1 Mκ1
  refine y_aln dX11_knot_8 rfl ?_
  have h4 := (ztm W Mκ1 Ta0)
  refine gf_X11_34 Wκ1 dX11_knot_9 rfl h4 ?_
  refine y_ic dX11_knot_12 zi_m1 ?_
  replace F := F (ty_weKnotOf Wκ1 h4)
  refine k_X11_80 Wκ1 dX11_knot_13 rfl (Nat.le_of_ble_eq_true rfl) (Nat.le_of_ble_eq_true rfl)  F (fun  κ5 Wκ5 Mκ5 F => ?_) (fun _ _ h9 => False.elim h9)
  replace F := F Wκ5 Mκ5
  refine y_aln dX11_knot_16 rfl ?_
  refine y_ic dX11_knot_17 zi_0 ?_
  have h9 := (ztm Wκ1 Mκ5 h4)
  refine pf_X11_105 Wκ5 dX11_knot_18 rfl (Or.inl h9) (fun κ8 eκ8 => ?_)
  replace F := F κ8 eκ8
  have Wκ8 : zW C n0 κ8 := zW_ui Wκ5 eκ8 (fun h => absurd h (by decide))
  have Mκ8 : zM (zn κ5) κ5 κ8 := by rw [eκ8]; exact zM.of rfl rfl rfl
  replace F := F Wκ8
  refine y_aln dX11_knot_21 rfl ?_
  refine y_ic dX11_knot_22 zi_0 ?_
  have h11 := (ztm Wκ5 Mκ8 h9)
  refine pf_X11_108 Wκ8 dX11_knot_23 rfl (Or.inl h11) (fun κ10 eκ10 => ?_)
  replace F := F κ10 eκ10
  have Wκ10 : zW C n0 κ10 := zW_ui Wκ8 eκ10 (fun h => absurd h (by decide))
  have Mκ10 : zM (zn κ8) κ8 κ10 := by rw [eκ10]; exact zM.of rfl rfl rfl
  replace F := F Wκ10
  refine y_aln dX11_knot_26 rfl ?_
  refine y_ic dX11_knot_27 zi_0 ?_
  have h13 := (ztm Wκ8 Mκ10 h11)
  refine pf_X11_111 Wκ10 dX11_knot_28 rfl (Or.inl h13) (fun κ12 eκ12 => ?_)
  replace F := F κ12 eκ12
  have Wκ12 : zW C n0 κ12 := zW_ui Wκ10 eκ12 (fun h => absurd h (by decide))
  have Mκ12 : zM (zn κ10) κ10 κ12 := by rw [eκ12]; exact zM.of rfl rfl rfl
  replace F := F Wκ12
  refine y_aln dX11_knot_31 rfl ?_
  refine y_ic dX11_knot_32 zi_0 ?_
  have h15 := (ztm Wκ10 Mκ12 h13)
  refine pf_X11_114 Wκ12 dX11_knot_33 rfl (Or.inl h15) (fun κ14 eκ14 => ?_)
  replace F := F κ14 eκ14
  have Wκ14 : zW C n0 κ14 := zW_ui Wκ12 eκ14 (fun h => absurd h (by decide))
  have Mκ14 : zM (zn κ12) κ12 κ14 := by rw [eκ14]; exact zM.of rfl rfl rfl
  replace F := F Wκ14
  refine y_ic dX11_knot_36 zi_0 ?_
  refine y_isn dX11_knot_37 (Nat.le_of_ble_eq_true rfl) rfl ?_
  have h16 := (ztm Wκ12 Mκ14 h15)
  exact y_k (t_We_knot_38  Wκ14 h16 F) ⟨rfl, rfl, trivial⟩

theorem We_knot_run {C : zC} {n0 : Nat} {Q : zS → Prop} {a0 : Nat} {κ : zS} (W : zW C n0 κ) (Ta0 : zT κ a0 = 14) (F : w_We_knot_0 C (zn κ) Q a0 κ) : zRun C 2 mWe_knot [.ref a0] κ (oV Q noX) := z_run (m_ent _ 1) (t_We_knot_0 (W.lo (Nat.le_trans W.1.2.1 W.1.2.2) (Nat.le_refl _)) Ta0 F)

theorem dX11_makeRows_0 : decode cX11_makeRows 0 = .ok (.aload_n 0, 1) := by decide +kernel
theorem dX11_makeRows_1 : decode cX11_makeRows 1 = .ok (.getfield 27, 3) := by decide +kernel
theorem dX11_makeRows_4 : decode cX11_makeRows 4 = .ok (.arraylength, 1) := by decide +kernel
theorem dX11_makeRows_5 : decode cX11_makeRows 5 = .ok (.ifCond .ne 102, 3) := by decide +kernel
theorem dX11_makeRows_8 : decode cX11_makeRows 8 = .ok (.aload_n 0, 1) := by decide +kernel
theorem dX11_makeRows_9 : decode cX11_makeRows 9 = .ok (.sipush 1001, 3) := by decide +kernel
theorem dX11_makeRows_12 : decode cX11_makeRows 12 = .ok (.newarray .int, 2) := by decide +kernel
theorem dX11_makeRows_14 : decode cX11_makeRows 14 = .ok (.putfield 9, 3) := by decide +kernel
theorem dX11_makeRows_17 : decode cX11_makeRows 17 = .ok (.aload_n 0, 1) := by decide +kernel
theorem dX11_makeRows_18 : decode cX11_makeRows 18 = .ok (.sipush 1001, 3) := by decide +kernel
theorem dX11_makeRows_21 : decode cX11_makeRows 21 = .ok (.newarray .int, 2) := by decide +kernel
theorem dX11_makeRows_23 : decode cX11_makeRows 23 = .ok (.putfield 18, 3) := by decide +kernel
theorem dX11_makeRows_26 : decode cX11_makeRows 26 = .ok (.aload_n 0, 1) := by decide +kernel
theorem dX11_makeRows_27 : decode cX11_makeRows 27 = .ok (.sipush 1000, 3) := by decide +kernel
theorem dX11_makeRows_30 : decode cX11_makeRows 30 = .ok (.newarray .boolean, 2) := by decide +kernel
theorem dX11_makeRows_32 : decode cX11_makeRows 32 = .ok (.putfield 27, 3) := by decide +kernel
theorem dX11_makeRows_35 : decode cX11_makeRows 35 = .ok (.aload_n 0, 1) := by decide +kernel
theorem dX11_makeRows_36 : decode cX11_makeRows 36 = .ok (.sipush 1001, 3) := by decide +kernel
theorem dX11_makeRows_39 : decode cX11_makeRows 39 = .ok (.newarray .int, 2) := by decide +kernel
theorem dX11_makeRows_41 : decode cX11_makeRows 41 = .ok (.putfield 31, 3) := by decide +kernel
theorem dX11_makeRows_44 : decode cX11_makeRows 44 = .ok (.aload_n 0, 1) := by decide +kernel
theorem dX11_makeRows_45 : decode cX11_makeRows 45 = .ok (.sipush 1000, 3) := by decide +kernel
theorem dX11_makeRows_48 : decode cX11_makeRows 48 = .ok (.newarray .int, 2) := by decide +kernel
theorem dX11_makeRows_50 : decode cX11_makeRows 50 = .ok (.putfield 34, 3) := by decide +kernel
theorem dX11_makeRows_53 : decode cX11_makeRows 53 = .ok (.aload_n 0, 1) := by decide +kernel
theorem dX11_makeRows_54 : decode cX11_makeRows 54 = .ok (.sipush 1000, 3) := by decide +kernel
theorem dX11_makeRows_57 : decode cX11_makeRows 57 = .ok (.newarray .int, 2) := by decide +kernel
theorem dX11_makeRows_59 : decode cX11_makeRows 59 = .ok (.putfield 37, 3) := by decide +kernel
theorem dX11_makeRows_62 : decode cX11_makeRows 62 = .ok (.aload_n 0, 1) := by decide +kernel
theorem dX11_makeRows_63 : decode cX11_makeRows 63 = .ok (.sipush 1000, 3) := by decide +kernel
theorem dX11_makeRows_66 : decode cX11_makeRows 66 = .ok (.newarray .int, 2) := by decide +kernel
theorem dX11_makeRows_68 : decode cX11_makeRows 68 = .ok (.putfield 40, 3) := by decide +kernel
theorem dX11_makeRows_71 : decode cX11_makeRows 71 = .ok (.aload_n 0, 1) := by decide +kernel
theorem dX11_makeRows_72 : decode cX11_makeRows 72 = .ok (.sipush 1000, 3) := by decide +kernel
theorem dX11_makeRows_75 : decode cX11_makeRows 75 = .ok (.newarray .int, 2) := by decide +kernel
theorem dX11_makeRows_77 : decode cX11_makeRows 77 = .ok (.putfield 43, 3) := by decide +kernel
theorem dX11_makeRows_80 : decode cX11_makeRows 80 = .ok (.aload_n 0, 1) := by decide +kernel
theorem dX11_makeRows_81 : decode cX11_makeRows 81 = .ok (.sipush 1000, 3) := by decide +kernel
theorem dX11_makeRows_84 : decode cX11_makeRows 84 = .ok (.newarray .int, 2) := by decide +kernel
theorem dX11_makeRows_86 : decode cX11_makeRows 86 = .ok (.putfield 46, 3) := by decide +kernel
theorem dX11_makeRows_89 : decode cX11_makeRows 89 = .ok (.aload_n 0, 1) := by decide +kernel
theorem dX11_makeRows_90 : decode cX11_makeRows 90 = .ok (.sipush 1000, 3) := by decide +kernel
theorem dX11_makeRows_93 : decode cX11_makeRows 93 = .ok (.newarray .int, 2) := by decide +kernel
theorem dX11_makeRows_95 : decode cX11_makeRows 95 = .ok (.putfield 49, 3) := by decide +kernel
theorem dX11_makeRows_98 : decode cX11_makeRows 98 = .ok (.aload_n 0, 1) := by decide +kernel
theorem dX11_makeRows_99 : decode cX11_makeRows 99 = .ok (.sipush 1000, 3) := by decide +kernel
theorem dX11_makeRows_102 : decode cX11_makeRows 102 = .ok (.newarray .int, 2) := by decide +kernel
theorem dX11_makeRows_104 : decode cX11_makeRows 104 = .ok (.putfield 52, 3) := by decide +kernel
theorem dX11_makeRows_107 : decode cX11_makeRows 107 = .ok (.return_, 1) := by decide +kernel
def w_We_makeRows_0 (C : zC) (n0 : Nat) (Q : zS → Prop)  (a0 : Nat) (κ : zS) : Prop :=
  (¬ (Int32.ofNat (zN κ (zR κ weOpen a0))) = (0 : Int32) →
    Q κ) ∧
  ((Int32.ofNat (zN κ (zR κ weOpen a0))) = (0 : Int32) →
    nsz (1001 : Int32) ∧
    ∀ κ1, κ1 = na κ 20 ((1001 : Int32)).toNatClampNeg →
    ∀ _ : zW C n0 κ1,
    zO κ1 (zn κ) = (0, 0) ∧
    ∀ κ4, κ4 = uo κ1 weFirsts a0 (zn κ) →
    ∀ _ : zW C n0 κ4,
    nsz (1001 : Int32) ∧
    ∀ κ7, κ7 = na κ4 20 ((1001 : Int32)).toNatClampNeg →
    ∀ _ : zW C n0 κ7,
    zO κ7 (zn κ4) = (0, 0) ∧
    ∀ κ10, κ10 = uo κ7 weBackFirsts a0 (zn κ4) →
    ∀ _ : zW C n0 κ10,
    nsz (1000 : Int32) ∧
    ∀ κ13, κ13 = na κ10 23 ((1000 : Int32)).toNatClampNeg →
    ∀ _ : zW C n0 κ13,
    zO κ13 (zn κ10) = (0, 0) ∧
    ∀ κ16, κ16 = uo κ13 weOpen a0 (zn κ10) →
    ∀ _ : zW C n0 κ16,
    nsz (1001 : Int32) ∧
    ∀ κ19, κ19 = na κ16 20 ((1001 : Int32)).toNatClampNeg →
    ∀ _ : zW C n0 κ19,
    zO κ19 (zn κ16) = (0, 0) ∧
    ∀ κ22, κ22 = uo κ19 weKnotFirsts a0 (zn κ16) →
    ∀ _ : zW C n0 κ22,
    nsz (1000 : Int32) ∧
    ∀ κ25, κ25 = na κ22 20 ((1000 : Int32)).toNatClampNeg →
    ∀ _ : zW C n0 κ25,
    zO κ25 (zn κ22) = (0, 0) ∧
    ∀ κ28, κ28 = uo κ25 weKnotOf a0 (zn κ22) →
    ∀ _ : zW C n0 κ28,
    nsz (1000 : Int32) ∧
    ∀ κ31, κ31 = na κ28 20 ((1000 : Int32)).toNatClampNeg →
    ∀ _ : zW C n0 κ31,
    zO κ31 (zn κ28) = (0, 0) ∧
    ∀ κ34, κ34 = uo κ31 weOrder a0 (zn κ28) →
    ∀ _ : zW C n0 κ34,
    nsz (1000 : Int32) ∧
    ∀ κ37, κ37 = na κ34 20 ((1000 : Int32)).toNatClampNeg →
    ∀ _ : zW C n0 κ37,
    zO κ37 (zn κ34) = (0, 0) ∧
    ∀ κ40, κ40 = uo κ37 weSeen a0 (zn κ34) →
    ∀ _ : zW C n0 κ40,
    nsz (1000 : Int32) ∧
    ∀ κ43, κ43 = na κ40 20 ((1000 : Int32)).toNatClampNeg →
    ∀ _ : zW C n0 κ43,
    zO κ43 (zn κ40) = (0, 0) ∧
    ∀ κ46, κ46 = uo κ43 weLow a0 (zn κ40) →
    ∀ _ : zW C n0 κ46,
    nsz (1000 : Int32) ∧
    ∀ κ49, κ49 = na κ46 20 ((1000 : Int32)).toNatClampNeg →
    ∀ _ : zW C n0 κ49,
    zO κ49 (zn κ46) = (0, 0) ∧
    ∀ κ52, κ52 = uo κ49 weCursor a0 (zn κ46) →
    ∀ _ : zW C n0 κ52,
    nsz (1000 : Int32) ∧
    ∀ κ55, κ55 = na κ52 20 ((1000 : Int32)).toNatClampNeg →
    ∀ _ : zW C n0 κ55,
    zO κ55 (zn κ52) = (0, 0) ∧
    ∀ κ58, κ58 = uo κ55 wePath a0 (zn κ52) →
    ∀ _ : zW C n0 κ58,
    nsz (1000 : Int32) ∧
    ∀ κ61, κ61 = na κ58 20 ((1000 : Int32)).toNatClampNeg →
    ∀ _ : zW C n0 κ61,
    zO κ61 (zn κ58) = (0, 0) ∧
    ∀ κ64, κ64 = uo κ61 weHeap a0 (zn κ58) →
    ∀ _ : zW C n0 κ64,
    Q κ64)
theorem t_We_makeRows_0 {C : zC} {n0 : Nat} {Q : zS → Prop}   {a0 : Nat} {κ : zS} (W : zW C n0 κ) (Ta0 : zT κ a0 = 14) (F : w_We_makeRows_0 C n0 Q  a0 κ) : zG C n0 0 mWe_makeRows 0 [some (.ref a0)] [] κ (oV Q noX) := by
  unfold w_We_makeRows_0 at F
  refine y_aln dX11_makeRows_0 rfl ?_
  refine gf_X11_27 W dX11_makeRows_1 rfl Ta0 ?_
  refine y_alen (t := 3) dX11_makeRows_4 (ty_weOpen W Ta0) (by decide) ?_
  refine y_in ((Int32.ofNat (zN κ (zR κ weOpen a0))) = (0 : Int32)) dX11_makeRows_5 (t := 107) rfl rfl (fun c9 => ?_) (fun c9 => ?_)
  · replace F := F.1 c9
    exact y_rv W dX11_makeRows_107 rfl F
  · replace F := F.2 c9
    refine y_aln dX11_makeRows_8 rfl ?_
    refine y_si dX11_makeRows_9 zs_1001 ?_
    have b2 := F.1
    refine y_newa (t := 0) W dX11_makeRows_12 (by decide) b2 (fun κ1 eκ1 => ?_)
    replace F := F.2 κ1 eκ1
    have Wκ1 : zW C n0 κ1 := zW_na W eκ1 (by decide) (by decide) b2.2
    have Mκ1 : zM (zn κ) κ κ1 := zM_na (W.lo (Nat.le_trans W.1.2.1 W.1.2.2) (Nat.le_refl _)) eκ1
    replace F := F Wκ1
    have g3 : zT κ1 (zn κ) = 20 := by rw [eκ1]; exact if_pos rfl
    have b5 := F.1
    replace F := F.2
    have h6 := (ztm W Mκ1 Ta0)
    refine pf_X11_9 Wκ1 dX11_makeRows_14 rfl (Or.inl h6) g3 (fun κ4 eκ4 => ?_)
    replace F := F κ4 eκ4
    have Wκ4 : zW C n0 κ4 := zW_uo Wκ1 eκ4 (fun t ht => by cases ht; exact g3) b5
    have Mκ4 : zM (zn κ1) κ1 κ4 := by rw [eκ4]; exact zM.of rfl rfl rfl
    replace F := F Wκ4
    refine y_aln dX11_makeRows_17 rfl ?_
    refine y_si dX11_makeRows_18 zs_1001 ?_
    have b8 := F.1
    refine y_newa (t := 0) Wκ4 dX11_makeRows_21 (by decide) b8 (fun κ7 eκ7 => ?_)
    replace F := F.2 κ7 eκ7
    have Wκ7 : zW C n0 κ7 := zW_na Wκ4 eκ7 (by decide) (by decide) b8.2
    have Mκ7 : zM (zn κ4) κ4 κ7 := zM_na (Wκ4.lo (Nat.le_trans Wκ4.1.2.1 Wκ4.1.2.2) (Nat.le_refl _)) eκ7
    replace F := F Wκ7
    have g9 : zT κ7 (zn κ4) = 20 := by rw [eκ7]; exact if_pos rfl
    have b11 := F.1
    replace F := F.2
    have h12 := (ztm Wκ4 Mκ7 (ztm Wκ1 Mκ4 h6))
    refine pf_X11_18 Wκ7 dX11_makeRows_23 rfl (Or.inl h12) g9 (fun κ10 eκ10 => ?_)
    replace F := F κ10 eκ10
    have Wκ10 : zW C n0 κ10 := zW_uo Wκ7 eκ10 (fun t ht => by cases ht; exact g9) b11
    have Mκ10 : zM (zn κ7) κ7 κ10 := by rw [eκ10]; exact zM.of rfl rfl rfl
    replace F := F Wκ10
    refine y_aln dX11_makeRows_26 rfl ?_
    refine y_si dX11_makeRows_27 zs_1000 ?_
    have b14 := F.1
    refine y_newa (t := 3) Wκ10 dX11_makeRows_30 (by decide) b14 (fun κ13 eκ13 => ?_)
    replace F := F.2 κ13 eκ13
    have Wκ13 : zW C n0 κ13 := zW_na Wκ10 eκ13 (by decide) (by decide) b14.2
    have Mκ13 : zM (zn κ10) κ10 κ13 := zM_na (Wκ10.lo (Nat.le_trans Wκ10.1.2.1 Wκ10.1.2.2) (Nat.le_refl _)) eκ13
    replace F := F Wκ13
    have g15 : zT κ13 (zn κ10) = 23 := by rw [eκ13]; exact if_pos rfl
    have b17 := F.1
    replace F := F.2
    have h18 := (ztm Wκ10 Mκ13 (ztm Wκ7 Mκ10 h12))
    refine pf_X11_27 Wκ13 dX11_makeRows_32 rfl (Or.inl h18) g15 (fun κ16 eκ16 => ?_)
    replace F := F κ16 eκ16
    have Wκ16 : zW C n0 κ16 := zW_uo Wκ13 eκ16 (fun t ht => by cases ht; exact g15) b17
    have Mκ16 : zM (zn κ13) κ13 κ16 := by rw [eκ16]; exact zM.of rfl rfl rfl
    replace F := F Wκ16
    refine y_aln dX11_makeRows_35 rfl ?_
    refine y_si dX11_makeRows_36 zs_1001 ?_
    have b20 := F.1
    refine y_newa (t := 0) Wκ16 dX11_makeRows_39 (by decide) b20 (fun κ19 eκ19 => ?_)
    replace F := F.2 κ19 eκ19
    have Wκ19 : zW C n0 κ19 := zW_na Wκ16 eκ19 (by decide) (by decide) b20.2
    have Mκ19 : zM (zn κ16) κ16 κ19 := zM_na (Wκ16.lo (Nat.le_trans Wκ16.1.2.1 Wκ16.1.2.2) (Nat.le_refl _)) eκ19
    replace F := F Wκ19
    have g21 : zT κ19 (zn κ16) = 20 := by rw [eκ19]; exact if_pos rfl
    have b23 := F.1
    replace F := F.2
    have h24 := (ztm Wκ16 Mκ19 (ztm Wκ13 Mκ16 h18))
    refine pf_X11_31 Wκ19 dX11_makeRows_41 rfl (Or.inl h24) g21 (fun κ22 eκ22 => ?_)
    replace F := F κ22 eκ22
    have Wκ22 : zW C n0 κ22 := zW_uo Wκ19 eκ22 (fun t ht => by cases ht; exact g21) b23
    have Mκ22 : zM (zn κ19) κ19 κ22 := by rw [eκ22]; exact zM.of rfl rfl rfl
    replace F := F Wκ22
    refine y_aln dX11_makeRows_44 rfl ?_
    refine y_si dX11_makeRows_45 zs_1000 ?_
    have b26 := F.1
    refine y_newa (t := 0) Wκ22 dX11_makeRows_48 (by decide) b26 (fun κ25 eκ25 => ?_)
    replace F := F.2 κ25 eκ25
    have Wκ25 : zW C n0 κ25 := zW_na Wκ22 eκ25 (by decide) (by decide) b26.2
    have Mκ25 : zM (zn κ22) κ22 κ25 := zM_na (Wκ22.lo (Nat.le_trans Wκ22.1.2.1 Wκ22.1.2.2) (Nat.le_refl _)) eκ25
    replace F := F Wκ25
    have g27 : zT κ25 (zn κ22) = 20 := by rw [eκ25]; exact if_pos rfl
    have b29 := F.1
    replace F := F.2
    have h30 := (ztm Wκ22 Mκ25 (ztm Wκ19 Mκ22 h24))
    refine pf_X11_34 Wκ25 dX11_makeRows_50 rfl (Or.inl h30) g27 (fun κ28 eκ28 => ?_)
    replace F := F κ28 eκ28
    have Wκ28 : zW C n0 κ28 := zW_uo Wκ25 eκ28 (fun t ht => by cases ht; exact g27) b29
    have Mκ28 : zM (zn κ25) κ25 κ28 := by rw [eκ28]; exact zM.of rfl rfl rfl
    replace F := F Wκ28
    refine y_aln dX11_makeRows_53 rfl ?_
    refine y_si dX11_makeRows_54 zs_1000 ?_
    have b32 := F.1
    refine y_newa (t := 0) Wκ28 dX11_makeRows_57 (by decide) b32 (fun κ31 eκ31 => ?_)
    replace F := F.2 κ31 eκ31
    have Wκ31 : zW C n0 κ31 := zW_na Wκ28 eκ31 (by decide) (by decide) b32.2
    have Mκ31 : zM (zn κ28) κ28 κ31 := zM_na (Wκ28.lo (Nat.le_trans Wκ28.1.2.1 Wκ28.1.2.2) (Nat.le_refl _)) eκ31
    replace F := F Wκ31
    have g33 : zT κ31 (zn κ28) = 20 := by rw [eκ31]; exact if_pos rfl
    have b35 := F.1
    replace F := F.2
    have h36 := (ztm Wκ28 Mκ31 (ztm Wκ25 Mκ28 h30))
    refine pf_X11_37 Wκ31 dX11_makeRows_59 rfl (Or.inl h36) g33 (fun κ34 eκ34 => ?_)
    replace F := F κ34 eκ34
    have Wκ34 : zW C n0 κ34 := zW_uo Wκ31 eκ34 (fun t ht => by cases ht; exact g33) b35
    have Mκ34 : zM (zn κ31) κ31 κ34 := by rw [eκ34]; exact zM.of rfl rfl rfl
    replace F := F Wκ34
    refine y_aln dX11_makeRows_62 rfl ?_
    refine y_si dX11_makeRows_63 zs_1000 ?_
    have b38 := F.1
    refine y_newa (t := 0) Wκ34 dX11_makeRows_66 (by decide) b38 (fun κ37 eκ37 => ?_)
    replace F := F.2 κ37 eκ37
    have Wκ37 : zW C n0 κ37 := zW_na Wκ34 eκ37 (by decide) (by decide) b38.2
    have Mκ37 : zM (zn κ34) κ34 κ37 := zM_na (Wκ34.lo (Nat.le_trans Wκ34.1.2.1 Wκ34.1.2.2) (Nat.le_refl _)) eκ37
    replace F := F Wκ37
    have g39 : zT κ37 (zn κ34) = 20 := by rw [eκ37]; exact if_pos rfl
    have b41 := F.1
    replace F := F.2
    have h42 := (ztm Wκ34 Mκ37 (ztm Wκ31 Mκ34 h36))
    refine pf_X11_40 Wκ37 dX11_makeRows_68 rfl (Or.inl h42) g39 (fun κ40 eκ40 => ?_)
    replace F := F κ40 eκ40
    have Wκ40 : zW C n0 κ40 := zW_uo Wκ37 eκ40 (fun t ht => by cases ht; exact g39) b41
    have Mκ40 : zM (zn κ37) κ37 κ40 := by rw [eκ40]; exact zM.of rfl rfl rfl
    replace F := F Wκ40
    refine y_aln dX11_makeRows_71 rfl ?_
    refine y_si dX11_makeRows_72 zs_1000 ?_
    have b44 := F.1
    refine y_newa (t := 0) Wκ40 dX11_makeRows_75 (by decide) b44 (fun κ43 eκ43 => ?_)
    replace F := F.2 κ43 eκ43
    have Wκ43 : zW C n0 κ43 := zW_na Wκ40 eκ43 (by decide) (by decide) b44.2
    have Mκ43 : zM (zn κ40) κ40 κ43 := zM_na (Wκ40.lo (Nat.le_trans Wκ40.1.2.1 Wκ40.1.2.2) (Nat.le_refl _)) eκ43
    replace F := F Wκ43
    have g45 : zT κ43 (zn κ40) = 20 := by rw [eκ43]; exact if_pos rfl
    have b47 := F.1
    replace F := F.2
    have h48 := (ztm Wκ40 Mκ43 (ztm Wκ37 Mκ40 h42))
    refine pf_X11_43 Wκ43 dX11_makeRows_77 rfl (Or.inl h48) g45 (fun κ46 eκ46 => ?_)
    replace F := F κ46 eκ46
    have Wκ46 : zW C n0 κ46 := zW_uo Wκ43 eκ46 (fun t ht => by cases ht; exact g45) b47
    have Mκ46 : zM (zn κ43) κ43 κ46 := by rw [eκ46]; exact zM.of rfl rfl rfl
    replace F := F Wκ46
    refine y_aln dX11_makeRows_80 rfl ?_
    refine y_si dX11_makeRows_81 zs_1000 ?_
    have b50 := F.1
    refine y_newa (t := 0) Wκ46 dX11_makeRows_84 (by decide) b50 (fun κ49 eκ49 => ?_)
    replace F := F.2 κ49 eκ49
    have Wκ49 : zW C n0 κ49 := zW_na Wκ46 eκ49 (by decide) (by decide) b50.2
    have Mκ49 : zM (zn κ46) κ46 κ49 := zM_na (Wκ46.lo (Nat.le_trans Wκ46.1.2.1 Wκ46.1.2.2) (Nat.le_refl _)) eκ49
    replace F := F Wκ49
    have g51 : zT κ49 (zn κ46) = 20 := by rw [eκ49]; exact if_pos rfl
    have b53 := F.1
    replace F := F.2
    have h54 := (ztm Wκ46 Mκ49 (ztm Wκ43 Mκ46 h48))
    refine pf_X11_46 Wκ49 dX11_makeRows_86 rfl (Or.inl h54) g51 (fun κ52 eκ52 => ?_)
    replace F := F κ52 eκ52
    have Wκ52 : zW C n0 κ52 := zW_uo Wκ49 eκ52 (fun t ht => by cases ht; exact g51) b53
    have Mκ52 : zM (zn κ49) κ49 κ52 := by rw [eκ52]; exact zM.of rfl rfl rfl
    replace F := F Wκ52
    refine y_aln dX11_makeRows_89 rfl ?_
    refine y_si dX11_makeRows_90 zs_1000 ?_
    have b56 := F.1
    refine y_newa (t := 0) Wκ52 dX11_makeRows_93 (by decide) b56 (fun κ55 eκ55 => ?_)
    replace F := F.2 κ55 eκ55
    have Wκ55 : zW C n0 κ55 := zW_na Wκ52 eκ55 (by decide) (by decide) b56.2
    have Mκ55 : zM (zn κ52) κ52 κ55 := zM_na (Wκ52.lo (Nat.le_trans Wκ52.1.2.1 Wκ52.1.2.2) (Nat.le_refl _)) eκ55
    replace F := F Wκ55
    have g57 : zT κ55 (zn κ52) = 20 := by rw [eκ55]; exact if_pos rfl
    have b59 := F.1
    replace F := F.2
    have h60 := (ztm Wκ52 Mκ55 (ztm Wκ49 Mκ52 h54))
    refine pf_X11_49 Wκ55 dX11_makeRows_95 rfl (Or.inl h60) g57 (fun κ58 eκ58 => ?_)
    replace F := F κ58 eκ58
    have Wκ58 : zW C n0 κ58 := zW_uo Wκ55 eκ58 (fun t ht => by cases ht; exact g57) b59
    have Mκ58 : zM (zn κ55) κ55 κ58 := by rw [eκ58]; exact zM.of rfl rfl rfl
    replace F := F Wκ58
    refine y_aln dX11_makeRows_98 rfl ?_
    refine y_si dX11_makeRows_99 zs_1000 ?_
    have b62 := F.1
    refine y_newa (t := 0) Wκ58 dX11_makeRows_102 (by decide) b62 (fun κ61 eκ61 => ?_)
    replace F := F.2 κ61 eκ61
    have Wκ61 : zW C n0 κ61 := zW_na Wκ58 eκ61 (by decide) (by decide) b62.2
    have Mκ61 : zM (zn κ58) κ58 κ61 := zM_na (Wκ58.lo (Nat.le_trans Wκ58.1.2.1 Wκ58.1.2.2) (Nat.le_refl _)) eκ61
    replace F := F Wκ61
    have g63 : zT κ61 (zn κ58) = 20 := by rw [eκ61]; exact if_pos rfl
    have b65 := F.1
    replace F := F.2
    have h66 := (ztm Wκ58 Mκ61 (ztm Wκ55 Mκ58 h60))
    refine pf_X11_52 Wκ61 dX11_makeRows_104 rfl (Or.inl h66) g63 (fun κ64 eκ64 => ?_)
    replace F := F κ64 eκ64
    have Wκ64 : zW C n0 κ64 := zW_uo Wκ61 eκ64 (fun t ht => by cases ht; exact g63) b65
    have Mκ64 : zM (zn κ61) κ61 κ64 := by rw [eκ64]; exact zM.of rfl rfl rfl
    replace F := F Wκ64
    exact y_rv Wκ64 dX11_makeRows_107 rfl F

theorem We_makeRows_run {C : zC} {n0 : Nat} {Q : zS → Prop} {a0 : Nat} {κ : zS} (W : zW C n0 κ) (Ta0 : zT κ a0 = 14) (F : w_We_makeRows_0 C (zn κ) Q a0 κ) : zRun C 0 mWe_makeRows [.ref a0] κ (oV Q noX) := z_run (m_ent _ 0) (t_We_makeRows_0 (W.lo (Nat.le_trans W.1.2.1 W.1.2.2) (Nat.le_refl _)) Ta0 F)

theorem dX11_reach_0 : decode cX11_reach 0 = .ok (.iload_n 1, 1) := by decide +kernel
theorem dX11_reach_1 : decode cX11_reach 1 = .ok (.istore_n 2, 1) := by decide +kernel
theorem dX11_reach_2 : decode cX11_reach 2 = .ok (.iconst 0, 1) := by decide +kernel
theorem dX11_reach_3 : decode cX11_reach 3 = .ok (.istore_n 3, 1) := by decide +kernel
theorem dX11_reach_4 : decode cX11_reach 4 = .ok (.iload_n 3, 1) := by decide +kernel
theorem dX11_reach_5 : decode cX11_reach 5 = .ok (.iload_n 2, 1) := by decide +kernel
theorem dX11_reach_6 : decode cX11_reach 6 = .ok (.if_icmp .ge 92, 3) := by decide +kernel
theorem dX11_reach_9 : decode cX11_reach 9 = .ok (.iload_n 3, 1) := by decide +kernel
theorem dX11_reach_10 : decode cX11_reach 10 = .ok (.aload_n 0, 1) := by decide +kernel
theorem dX11_reach_11 : decode cX11_reach 11 = .ok (.getfield 70, 3) := by decide +kernel
theorem dX11_reach_14 : decode cX11_reach 14 = .ok (.if_icmp .ge 84, 3) := by decide +kernel
theorem dX11_reach_17 : decode cX11_reach 17 = .ok (.aload_n 0, 1) := by decide +kernel
theorem dX11_reach_18 : decode cX11_reach 18 = .ok (.getfield 52, 3) := by decide +kernel
theorem dX11_reach_21 : decode cX11_reach 21 = .ok (.iload_n 3, 1) := by decide +kernel
theorem dX11_reach_22 : decode cX11_reach 22 = .ok (.iaload, 1) := by decide +kernel
theorem dX11_reach_23 : decode cX11_reach 23 = .ok (.istore 4, 2) := by decide +kernel
theorem dX11_reach_25 : decode cX11_reach 25 = .ok (.aload_n 0, 1) := by decide +kernel
theorem dX11_reach_26 : decode cX11_reach 26 = .ok (.getfield 18, 3) := by decide +kernel
theorem dX11_reach_29 : decode cX11_reach 29 = .ok (.iload 4, 2) := by decide +kernel
theorem dX11_reach_31 : decode cX11_reach 31 = .ok (.iaload, 1) := by decide +kernel
theorem dX11_reach_32 : decode cX11_reach 32 = .ok (.istore 5, 2) := by decide +kernel
theorem dX11_reach_34 : decode cX11_reach 34 = .ok (.iload 5, 2) := by decide +kernel
theorem dX11_reach_36 : decode cX11_reach 36 = .ok (.aload_n 0, 1) := by decide +kernel
theorem dX11_reach_37 : decode cX11_reach 37 = .ok (.getfield 18, 3) := by decide +kernel
theorem dX11_reach_40 : decode cX11_reach 40 = .ok (.iload 4, 2) := by decide +kernel
theorem dX11_reach_42 : decode cX11_reach 42 = .ok (.iconst 1, 1) := by decide +kernel
theorem dX11_reach_43 : decode cX11_reach 43 = .ok (.iadd, 1) := by decide +kernel
theorem dX11_reach_44 : decode cX11_reach 44 = .ok (.iaload, 1) := by decide +kernel
theorem dX11_reach_45 : decode cX11_reach 45 = .ok (.if_icmp .ge 47, 3) := by decide +kernel
theorem dX11_reach_48 : decode cX11_reach 48 = .ok (.aload_n 0, 1) := by decide +kernel
theorem dX11_reach_49 : decode cX11_reach 49 = .ok (.getfield 21, 3) := by decide +kernel
theorem dX11_reach_52 : decode cX11_reach 52 = .ok (.iload 5, 2) := by decide +kernel
theorem dX11_reach_54 : decode cX11_reach 54 = .ok (.iaload, 1) := by decide +kernel
theorem dX11_reach_55 : decode cX11_reach 55 = .ok (.istore 6, 2) := by decide +kernel
theorem dX11_reach_57 : decode cX11_reach 57 = .ok (.aload_n 0, 1) := by decide +kernel
theorem dX11_reach_58 : decode cX11_reach 58 = .ok (.getfield 27, 3) := by decide +kernel
theorem dX11_reach_61 : decode cX11_reach 61 = .ok (.iload 6, 2) := by decide +kernel
theorem dX11_reach_63 : decode cX11_reach 63 = .ok (.baload, 1) := by decide +kernel
theorem dX11_reach_64 : decode cX11_reach 64 = .ok (.ifCond .ne 22, 3) := by decide +kernel
theorem dX11_reach_67 : decode cX11_reach 67 = .ok (.aload_n 0, 1) := by decide +kernel
theorem dX11_reach_68 : decode cX11_reach 68 = .ok (.getfield 27, 3) := by decide +kernel
theorem dX11_reach_71 : decode cX11_reach 71 = .ok (.iload 6, 2) := by decide +kernel
theorem dX11_reach_73 : decode cX11_reach 73 = .ok (.iconst 1, 1) := by decide +kernel
theorem dX11_reach_74 : decode cX11_reach 74 = .ok (.bastore, 1) := by decide +kernel
theorem dX11_reach_75 : decode cX11_reach 75 = .ok (.aload_n 0, 1) := by decide +kernel
theorem dX11_reach_76 : decode cX11_reach 76 = .ok (.getfield 52, 3) := by decide +kernel
theorem dX11_reach_79 : decode cX11_reach 79 = .ok (.iload_n 2, 1) := by decide +kernel
theorem dX11_reach_80 : decode cX11_reach 80 = .ok (.iload 6, 2) := by decide +kernel
theorem dX11_reach_82 : decode cX11_reach 82 = .ok (.iastore, 1) := by decide +kernel
theorem dX11_reach_83 : decode cX11_reach 83 = .ok (.iinc 2 1, 3) := by decide +kernel
theorem dX11_reach_86 : decode cX11_reach 86 = .ok (.iinc 5 1, 3) := by decide +kernel
theorem dX11_reach_89 : decode cX11_reach 89 = .ok (.goto (-55), 3) := by decide +kernel
theorem dX11_reach_92 : decode cX11_reach 92 = .ok (.iinc 3 1, 3) := by decide +kernel
theorem dX11_reach_95 : decode cX11_reach 95 = .ok (.goto (-91), 3) := by decide +kernel
theorem dX11_reach_98 : decode cX11_reach 98 = .ok (.return_, 1) := by decide +kernel
def w_We_reach_34 (C : zC) (n0 : Nat) (Q : zS → Prop) (B4 : Nat → Int32 → Int32 → zS → Prop) (a0 : Nat) (a2 : Int32) (a3 : Int32) (a4 : Int32) (a5 : Int32) (κ : zS) : Prop :=
  ∃ I : Nat → Nat → Int32 → Int32 → Int32 → Int32 → zS → Prop, (∃ n, I n a0 a2 a3 a4 a5 κ) ∧ ∀ n a0 a2 a3 a4 a5 κ, zW C n0 κ → zT κ a0 = 14 → I n a0 a2 a3 a4 a5 κ →
    inb (a4 + (1 : Int32)) (zN κ (zR κ weBackFirsts a0)) ∧
    ((zA κ (zR κ weBackFirsts a0) ((a4 + (1 : Int32))).toNatClampNeg) ≤ a5 →
      ∀ v3_1 : Int32, v3_1 = a3 + (1 : Int32) →
      B4 a0 a2 v3_1 κ) ∧
    (¬ (zA κ (zR κ weBackFirsts a0) ((a4 + (1 : Int32))).toNatClampNeg) ≤ a5 →
      inb a5 (zN κ (zR κ weSources a0)) ∧
      ∀ v6_2 : Int32, v6_2 = (zA κ (zR κ weSources a0) (a5).toNatClampNeg) →
      inb v6_2 (zN κ (zR κ weOpen a0)) ∧
      (¬ (zA κ (zR κ weOpen a0) (v6_2).toNatClampNeg) = (0 : Int32) →
        ∀ v5_3 : Int32, v5_3 = a5 + (1 : Int32) →
        ∃ k < n, I k a0 a2 a3 a4 v5_3 κ) ∧
      ((zA κ (zR κ weOpen a0) (v6_2).toNatClampNeg) = (0 : Int32) →
        inb v6_2 (zN κ (zR κ weOpen a0)) ∧
        ∀ κ4, κ4 = ua κ (zR κ weOpen a0) (v6_2).toNatClampNeg (vp_nar .boolean (1 : Int32)) →
        ∀ _ : zW C n0 κ4,
        inb a2 (zN κ4 (zR κ4 weHeap a0)) ∧
        ∀ κ6, κ6 = ua κ4 (zR κ4 weHeap a0) (a2).toNatClampNeg v6_2 →
        ∀ _ : zW C n0 κ6,
        ∀ v2_7 : Int32, v2_7 = a2 + (1 : Int32) →
        ∀ v5_8 : Int32, v5_8 = a5 + (1 : Int32) →
        ∃ k < n, I k a0 v2_7 a3 a4 v5_8 κ6))
theorem t_We_reach_34 {C : zC} {n0 : Nat} {Q : zS → Prop} {B4 : Nat → Int32 → Int32 → zS → Prop} (hB4 : ∀ a0' a2' a3' τ, zW C n0 τ → zT τ a0' = 14 → B4 a0' a2' a3' τ → zG C n0 0 mWe_reach 4 [some (.ref a0'), none, some (.int a2'), some (.int a3'), none, none, none] [] τ (oV Q noX)) {a0 : Nat} {a2 : Int32} {a3 : Int32} {a4 : Int32} {a5 : Int32} {κ : zS} (W : zW C n0 κ) (Ta0 : zT κ a0 = 14) (F : w_We_reach_34 C n0 Q B4 a0 a2 a3 a4 a5 κ) : zG C n0 0 mWe_reach 34 [some (.ref a0), none, some (.int a2), some (.int a3), some (.int a4), some (.int a5), none] [] κ (oV Q noX) := by
  obtain ⟨I, ⟨m0, hI0⟩, F0⟩ := F
  have key : ∀ n a0 a2 a3 a4 a5 κ, zW C n0 κ → zT κ a0 = 14 → I n a0 a2 a3 a4 a5 κ → zG C n0 0 mWe_reach 34 [some (.ref a0), none, some (.int a2), some (.int a3), some (.int a4), some (.int a5), none] [] κ (oV Q noX) := by
    intro n
    induction n using Nat.strongRecOn with
    | _ n ih =>
      intro a0 a2 a3 a4 a5 κ W Ta0 hI
      have F := F0 n a0 a2 a3 a4 a5 κ W Ta0 hI
      clear hI hI0
      refine y_il dX11_reach_34 rfl ?_
      refine y_aln dX11_reach_36 rfl ?_
      refine gf_X11_18 W dX11_reach_37 rfl Ta0 ?_
      refine y_il dX11_reach_40 rfl ?_
      refine y_ic dX11_reach_42 zi_1 ?_
      refine y_iadd dX11_reach_43 ?_
      refine y_ald dX11_reach_44 (ty_weBackFirsts W Ta0) F.1 ?_
      replace F := F.2
      refine y_ii ((zA κ (zR κ weBackFirsts a0) ((a4 + (1 : Int32))).toNatClampNeg) ≤ a5) dX11_reach_45 (t := 92) rfl rfl (fun c9 => ?_) (fun c9 => ?_)
      · replace F := F.1 c9
        refine y_incb dX11_reach_92 zi_1 rfl (Nat.le_of_ble_eq_true rfl) (fun v3_1 ev3_1 => ?_)
        replace F := F v3_1 ev3_1
        refine y_goto dX11_reach_95 (t := 4) rfl ?_
        exact y_k (hB4 _ _ _ _ W Ta0 F) ⟨rfl, rfl, rfl, trivial⟩
      · replace F := F.2 c9
        refine y_aln dX11_reach_48 rfl ?_
        refine gf_X11_21 W dX11_reach_49 rfl Ta0 ?_
        refine y_il dX11_reach_52 rfl ?_
        refine y_ald dX11_reach_54 (ty_weSources W Ta0) F.1 ?_
        replace F := F.2
        refine y_isb dX11_reach_55 (Nat.le_of_ble_eq_true rfl) (fun v6_2 ev6_2 => ?_)
        replace F := F v6_2 ev6_2
        refine y_aln dX11_reach_57 rfl ?_
        refine gf_X11_27 W dX11_reach_58 rfl Ta0 ?_
        refine y_il dX11_reach_61 rfl ?_
        refine y_zld dX11_reach_63 (ty_weOpen W Ta0) F.1 ?_
        replace F := F.2
        refine y_in ((zA κ (zR κ weOpen a0) (v6_2).toNatClampNeg) = (0 : Int32)) dX11_reach_64 (t := 86) rfl rfl (fun c9 => ?_) (fun c9 => ?_)
        · replace F := F.1 c9
          refine y_incb dX11_reach_86 zi_1 rfl (Nat.le_of_ble_eq_true rfl) (fun v5_3 ev5_3 => ?_)
          replace F := F v5_3 ev5_3
          refine y_goto dX11_reach_89 (t := 34) rfl ?_
          obtain ⟨k, hk, hI⟩ := F
          exact y_k (ih k hk _ _ _ _ _ _ W Ta0 hI) ⟨rfl, rfl, rfl, rfl, rfl, trivial⟩
        · replace F := F.2 c9
          refine y_aln dX11_reach_67 rfl ?_
          refine gf_X11_27 W dX11_reach_68 rfl Ta0 ?_
          refine y_il dX11_reach_71 rfl ?_
          refine y_ic dX11_reach_73 zi_1 ?_
          refine y_zst W dX11_reach_74 (ty_weOpen W Ta0) F.1 (fun κ4 eκ4 => ?_)
          replace F := F.2 κ4 eκ4
          have Wκ4 : zW C n0 κ4 := zW_ua W eκ4 (fun _ => nb_nr) (fun h => absurd (h.symm.trans (ty_weOpen W Ta0)) (by decide))
          have Mκ4 : zM (zn κ) κ κ4 := by rw [eκ4]; exact zM.of rfl rfl rfl
          replace F := F Wκ4
          refine y_aln dX11_reach_75 rfl ?_
          have h5 := (ztm W Mκ4 Ta0)
          refine gf_X11_52 Wκ4 dX11_reach_76 rfl h5 ?_
          refine y_iln dX11_reach_79 rfl ?_
          refine y_il dX11_reach_80 rfl ?_
          refine y_ast Wκ4 dX11_reach_82 (ty_weHeap Wκ4 h5) F.1 (fun κ6 eκ6 => ?_)
          replace F := F.2 κ6 eκ6
          have Wκ6 : zW C n0 κ6 := zW_ua Wκ4 eκ6 (fun h => absurd (h.symm.trans (ty_weHeap Wκ4 h5)) (by decide)) (fun h => absurd (h.symm.trans (ty_weHeap Wκ4 h5)) (by decide))
          have Mκ6 : zM (zn κ4) κ4 κ6 := by rw [eκ6]; exact zM.of rfl rfl rfl
          replace F := F Wκ6
          refine y_incb dX11_reach_83 zi_1 rfl (Nat.le_of_ble_eq_true rfl) (fun v2_7 ev2_7 => ?_)
          replace F := F v2_7 ev2_7
          refine y_incb dX11_reach_86 zi_1 rfl (Nat.le_of_ble_eq_true rfl) (fun v5_8 ev5_8 => ?_)
          replace F := F v5_8 ev5_8
          refine y_goto dX11_reach_89 (t := 34) rfl ?_
          have h9 := (ztm Wκ4 Mκ6 h5)
          obtain ⟨k, hk, hI⟩ := F
          exact y_k (ih k hk _ _ _ _ _ _ Wκ6 h9 hI) ⟨rfl, rfl, rfl, rfl, rfl, trivial⟩
  exact key m0 a0 a2 a3 a4 a5 κ W Ta0 hI0

def w_We_reach_4 (C : zC) (n0 : Nat) (Q : zS → Prop)  (a0 : Nat) (a2 : Int32) (a3 : Int32) (κ : zS) : Prop :=
  ∃ I : Nat → Nat → Int32 → Int32 → zS → Prop, (∃ n, I n a0 a2 a3 κ) ∧ ∀ n a0 a2 a3 κ, zW C n0 κ → zT κ a0 = 14 → I n a0 a2 a3 κ →
    (a2 ≤ a3 →
      Q κ) ∧
    (¬ a2 ≤ a3 →
      ((zI κ weTotal a0) ≤ a3 →
        Q κ) ∧
      (¬ (zI κ weTotal a0) ≤ a3 →
        inb a3 (zN κ (zR κ weHeap a0)) ∧
        ∀ v4_1 : Int32, v4_1 = (zA κ (zR κ weHeap a0) (a3).toNatClampNeg) →
        inb v4_1 (zN κ (zR κ weBackFirsts a0)) ∧
        ∀ v5_2 : Int32, v5_2 = (zA κ (zR κ weBackFirsts a0) (v4_1).toNatClampNeg) →
        w_We_reach_34 C n0 Q (fun a0' a2' a3' τ => ∃ k < n, I k a0' a2' a3' τ) a0 a2 a3 v4_1 v5_2 κ))
theorem t_We_reach_4 {C : zC} {n0 : Nat} {Q : zS → Prop}   {a0 : Nat} {a2 : Int32} {a3 : Int32} {κ : zS} (W : zW C n0 κ) (Ta0 : zT κ a0 = 14) (F : w_We_reach_4 C n0 Q  a0 a2 a3 κ) : zG C n0 0 mWe_reach 4 [some (.ref a0), none, some (.int a2), some (.int a3), none, none, none] [] κ (oV Q noX) := by
  obtain ⟨I, ⟨m0, hI0⟩, F0⟩ := F
  have key : ∀ n a0 a2 a3 κ, zW C n0 κ → zT κ a0 = 14 → I n a0 a2 a3 κ → zG C n0 0 mWe_reach 4 [some (.ref a0), none, some (.int a2), some (.int a3), none, none, none] [] κ (oV Q noX) := by
    intro n
    induction n using Nat.strongRecOn with
    | _ n ih =>
      intro a0 a2 a3 κ W Ta0 hI
      have F := F0 n a0 a2 a3 κ W Ta0 hI
      clear hI hI0
      refine y_iln dX11_reach_4 rfl ?_
      refine y_iln dX11_reach_5 rfl ?_
      refine y_ii (a2 ≤ a3) dX11_reach_6 (t := 98) rfl rfl (fun c9 => ?_) (fun c9 => ?_)
      · replace F := F.1 c9
        exact y_rv W dX11_reach_98 rfl F
      · replace F := F.2 c9
        refine y_iln dX11_reach_9 rfl ?_
        refine y_aln dX11_reach_10 rfl ?_
        refine gf_X11_70 dX11_reach_11 rfl (Or.inl Ta0) ?_
        refine y_ii ((zI κ weTotal a0) ≤ a3) dX11_reach_14 (t := 98) rfl rfl (fun c9 => ?_) (fun c9 => ?_)
        · replace F := F.1 c9
          exact y_rv W dX11_reach_98 rfl F
        · replace F := F.2 c9
          refine y_aln dX11_reach_17 rfl ?_
          refine gf_X11_52 W dX11_reach_18 rfl Ta0 ?_
          refine y_iln dX11_reach_21 rfl ?_
          refine y_ald dX11_reach_22 (ty_weHeap W Ta0) F.1 ?_
          replace F := F.2
          refine y_isb dX11_reach_23 (Nat.le_of_ble_eq_true rfl) (fun v4_1 ev4_1 => ?_)
          replace F := F v4_1 ev4_1
          refine y_aln dX11_reach_25 rfl ?_
          refine gf_X11_18 W dX11_reach_26 rfl Ta0 ?_
          refine y_il dX11_reach_29 rfl ?_
          refine y_ald dX11_reach_31 (ty_weBackFirsts W Ta0) F.1 ?_
          replace F := F.2
          refine y_isb dX11_reach_32 (Nat.le_of_ble_eq_true rfl) (fun v5_2 ev5_2 => ?_)
          replace F := F v5_2 ev5_2
          exact y_k (t_We_reach_34 (fun a0' a2' a3' τ w9 f09 hb => by obtain ⟨k, hk, hI⟩ := hb; exact ih k hk a0' a2' a3' τ w9 f09 hI) W Ta0 F) ⟨rfl, rfl, rfl, rfl, rfl, trivial⟩
  exact key m0 a0 a2 a3 κ W Ta0 hI0

def w_We_reach_0 (C : zC) (n0 : Nat) (Q : zS → Prop)  (a0 : Nat) (a1 : Int32) (κ : zS) : Prop :=
  w_We_reach_4 C n0 Q  a0 a1 (0 : Int32) κ
theorem t_We_reach_0 {C : zC} {n0 : Nat} {Q : zS → Prop}   {a0 : Nat} {a1 : Int32} {κ : zS} (W : zW C n0 κ) (Ta0 : zT κ a0 = 14) (F : w_We_reach_0 C n0 Q  a0 a1 κ) : zG C n0 0 mWe_reach 0 [some (.ref a0), some (.int a1), none, none, none, none, none] [] κ (oV Q noX) := by
  unfold w_We_reach_0 at F
  refine y_iln dX11_reach_0 rfl ?_
  refine y_isn dX11_reach_1 (Nat.le_of_ble_eq_true rfl) rfl ?_
  refine y_ic dX11_reach_2 zi_0 ?_
  refine y_isn dX11_reach_3 (Nat.le_of_ble_eq_true rfl) rfl ?_
  exact y_k (t_We_reach_4  W Ta0 F) ⟨rfl, rfl, rfl, trivial⟩

theorem We_reach_run {C : zC} {n0 : Nat} {Q : zS → Prop} {a0 : Nat} {a1 : Int32} {κ : zS} (W : zW C n0 κ) (Ta0 : zT κ a0 = 14) (F : w_We_reach_0 C (zn κ) Q a0 a1 κ) : zRun C 0 mWe_reach [.ref a0, .int a1] κ (oV Q noX) := z_run (m_ent _ 5) (t_We_reach_0 (W.lo (Nat.le_trans W.1.2.1 W.1.2.2) (Nat.le_refl _)) Ta0 F)

theorem dX11_weaveBack_0 : decode cX11_weaveBack 0 = .ok (.iconst 0, 1) := by decide +kernel
theorem dX11_weaveBack_1 : decode cX11_weaveBack 1 = .ok (.istore_n 3, 1) := by decide +kernel
theorem dX11_weaveBack_2 : decode cX11_weaveBack 2 = .ok (.iload_n 3, 1) := by decide +kernel
theorem dX11_weaveBack_3 : decode cX11_weaveBack 3 = .ok (.aload_n 0, 1) := by decide +kernel
theorem dX11_weaveBack_4 : decode cX11_weaveBack 4 = .ok (.getfield 70, 3) := by decide +kernel
theorem dX11_weaveBack_7 : decode cX11_weaveBack 7 = .ok (.if_icmp .ge 38, 3) := by decide +kernel
theorem dX11_weaveBack_10 : decode cX11_weaveBack 10 = .ok (.aload_n 0, 1) := by decide +kernel
theorem dX11_weaveBack_11 : decode cX11_weaveBack 11 = .ok (.getfield 18, 3) := by decide +kernel
theorem dX11_weaveBack_14 : decode cX11_weaveBack 14 = .ok (.iload_n 3, 1) := by decide +kernel
theorem dX11_weaveBack_15 : decode cX11_weaveBack 15 = .ok (.iconst 1, 1) := by decide +kernel
theorem dX11_weaveBack_16 : decode cX11_weaveBack 16 = .ok (.iadd, 1) := by decide +kernel
theorem dX11_weaveBack_17 : decode cX11_weaveBack 17 = .ok (.dup2, 1) := by decide +kernel
theorem dX11_weaveBack_18 : decode cX11_weaveBack 18 = .ok (.iaload, 1) := by decide +kernel
theorem dX11_weaveBack_19 : decode cX11_weaveBack 19 = .ok (.aload_n 0, 1) := by decide +kernel
theorem dX11_weaveBack_20 : decode cX11_weaveBack 20 = .ok (.getfield 18, 3) := by decide +kernel
theorem dX11_weaveBack_23 : decode cX11_weaveBack 23 = .ok (.iload_n 3, 1) := by decide +kernel
theorem dX11_weaveBack_24 : decode cX11_weaveBack 24 = .ok (.iaload, 1) := by decide +kernel
theorem dX11_weaveBack_25 : decode cX11_weaveBack 25 = .ok (.iadd, 1) := by decide +kernel
theorem dX11_weaveBack_26 : decode cX11_weaveBack 26 = .ok (.iastore, 1) := by decide +kernel
theorem dX11_weaveBack_27 : decode cX11_weaveBack 27 = .ok (.aload_n 0, 1) := by decide +kernel
theorem dX11_weaveBack_28 : decode cX11_weaveBack 28 = .ok (.getfield 46, 3) := by decide +kernel
theorem dX11_weaveBack_31 : decode cX11_weaveBack 31 = .ok (.iload_n 3, 1) := by decide +kernel
theorem dX11_weaveBack_32 : decode cX11_weaveBack 32 = .ok (.aload_n 0, 1) := by decide +kernel
theorem dX11_weaveBack_33 : decode cX11_weaveBack 33 = .ok (.getfield 18, 3) := by decide +kernel
theorem dX11_weaveBack_36 : decode cX11_weaveBack 36 = .ok (.iload_n 3, 1) := by decide +kernel
theorem dX11_weaveBack_37 : decode cX11_weaveBack 37 = .ok (.iaload, 1) := by decide +kernel
theorem dX11_weaveBack_38 : decode cX11_weaveBack 38 = .ok (.iastore, 1) := by decide +kernel
theorem dX11_weaveBack_39 : decode cX11_weaveBack 39 = .ok (.iinc 3 1, 3) := by decide +kernel
theorem dX11_weaveBack_42 : decode cX11_weaveBack 42 = .ok (.goto (-40), 3) := by decide +kernel
theorem dX11_weaveBack_45 : decode cX11_weaveBack 45 = .ok (.iconst 0, 1) := by decide +kernel
theorem dX11_weaveBack_46 : decode cX11_weaveBack 46 = .ok (.istore_n 3, 1) := by decide +kernel
theorem dX11_weaveBack_47 : decode cX11_weaveBack 47 = .ok (.iload_n 3, 1) := by decide +kernel
theorem dX11_weaveBack_48 : decode cX11_weaveBack 48 = .ok (.aload_n 0, 1) := by decide +kernel
theorem dX11_weaveBack_49 : decode cX11_weaveBack 49 = .ok (.getfield 70, 3) := by decide +kernel
theorem dX11_weaveBack_52 : decode cX11_weaveBack 52 = .ok (.if_icmp .ge 107, 3) := by decide +kernel
theorem dX11_weaveBack_55 : decode cX11_weaveBack 55 = .ok (.aload_n 1, 1) := by decide +kernel
theorem dX11_weaveBack_56 : decode cX11_weaveBack 56 = .ok (.getfield 86, 3) := by decide +kernel
theorem dX11_weaveBack_59 : decode cX11_weaveBack 59 = .ok (.iload_n 3, 1) := by decide +kernel
theorem dX11_weaveBack_60 : decode cX11_weaveBack 60 = .ok (.iaload, 1) := by decide +kernel
theorem dX11_weaveBack_61 : decode cX11_weaveBack 61 = .ok (.istore 4, 2) := by decide +kernel
theorem dX11_weaveBack_63 : decode cX11_weaveBack 63 = .ok (.iload 4, 2) := by decide +kernel
theorem dX11_weaveBack_65 : decode cX11_weaveBack 65 = .ok (.aload_n 1, 1) := by decide +kernel
theorem dX11_weaveBack_66 : decode cX11_weaveBack 66 = .ok (.getfield 86, 3) := by decide +kernel
theorem dX11_weaveBack_69 : decode cX11_weaveBack 69 = .ok (.iload_n 3, 1) := by decide +kernel
theorem dX11_weaveBack_70 : decode cX11_weaveBack 70 = .ok (.iconst 1, 1) := by decide +kernel
theorem dX11_weaveBack_71 : decode cX11_weaveBack 71 = .ok (.iadd, 1) := by decide +kernel
theorem dX11_weaveBack_72 : decode cX11_weaveBack 72 = .ok (.iaload, 1) := by decide +kernel
theorem dX11_weaveBack_73 : decode cX11_weaveBack 73 = .ok (.if_icmp .ge 80, 3) := by decide +kernel
theorem dX11_weaveBack_76 : decode cX11_weaveBack 76 = .ok (.aload_n 1, 1) := by decide +kernel
theorem dX11_weaveBack_77 : decode cX11_weaveBack 77 = .ok (.getfield 91, 3) := by decide +kernel
theorem dX11_weaveBack_80 : decode cX11_weaveBack 80 = .ok (.iload 4, 2) := by decide +kernel
theorem dX11_weaveBack_82 : decode cX11_weaveBack 82 = .ok (.iaload, 1) := by decide +kernel
theorem dX11_weaveBack_83 : decode cX11_weaveBack 83 = .ok (.ifCond .ne 64, 3) := by decide +kernel
theorem dX11_weaveBack_86 : decode cX11_weaveBack 86 = .ok (.iload_n 2, 1) := by decide +kernel
theorem dX11_weaveBack_87 : decode cX11_weaveBack 87 = .ok (.ifCond .eq 13, 3) := by decide +kernel
theorem dX11_weaveBack_90 : decode cX11_weaveBack 90 = .ok (.aload_n 1, 1) := by decide +kernel
theorem dX11_weaveBack_91 : decode cX11_weaveBack 91 = .ok (.iload_n 3, 1) := by decide +kernel
theorem dX11_weaveBack_92 : decode cX11_weaveBack 92 = .ok (.iload 4, 2) := by decide +kernel
theorem dX11_weaveBack_94 : decode cX11_weaveBack 94 = .ok (.invokevirtual 87, 3) := by decide +kernel
theorem dX11_weaveBack_97 : decode cX11_weaveBack 97 = .ok (.ifCond .eq 50, 3) := by decide +kernel
theorem dX11_weaveBack_100 : decode cX11_weaveBack 100 = .ok (.aload_n 1, 1) := by decide +kernel
theorem dX11_weaveBack_101 : decode cX11_weaveBack 101 = .ok (.getfield 94, 3) := by decide +kernel
theorem dX11_weaveBack_104 : decode cX11_weaveBack 104 = .ok (.iload 4, 2) := by decide +kernel
theorem dX11_weaveBack_106 : decode cX11_weaveBack 106 = .ok (.iaload, 1) := by decide +kernel
theorem dX11_weaveBack_107 : decode cX11_weaveBack 107 = .ok (.istore 5, 2) := by decide +kernel
theorem dX11_weaveBack_109 : decode cX11_weaveBack 109 = .ok (.aload_n 0, 1) := by decide +kernel
theorem dX11_weaveBack_110 : decode cX11_weaveBack 110 = .ok (.getfield 21, 3) := by decide +kernel
theorem dX11_weaveBack_113 : decode cX11_weaveBack 113 = .ok (.aload_n 0, 1) := by decide +kernel
theorem dX11_weaveBack_114 : decode cX11_weaveBack 114 = .ok (.getfield 46, 3) := by decide +kernel
theorem dX11_weaveBack_117 : decode cX11_weaveBack 117 = .ok (.iload 5, 2) := by decide +kernel
theorem dX11_weaveBack_119 : decode cX11_weaveBack 119 = .ok (.iaload, 1) := by decide +kernel
theorem dX11_weaveBack_120 : decode cX11_weaveBack 120 = .ok (.iload_n 3, 1) := by decide +kernel
theorem dX11_weaveBack_121 : decode cX11_weaveBack 121 = .ok (.iastore, 1) := by decide +kernel
theorem dX11_weaveBack_122 : decode cX11_weaveBack 122 = .ok (.aload_n 0, 1) := by decide +kernel
theorem dX11_weaveBack_123 : decode cX11_weaveBack 123 = .ok (.getfield 24, 3) := by decide +kernel
theorem dX11_weaveBack_126 : decode cX11_weaveBack 126 = .ok (.aload_n 0, 1) := by decide +kernel
theorem dX11_weaveBack_127 : decode cX11_weaveBack 127 = .ok (.getfield 46, 3) := by decide +kernel
theorem dX11_weaveBack_130 : decode cX11_weaveBack 130 = .ok (.iload 5, 2) := by decide +kernel
theorem dX11_weaveBack_132 : decode cX11_weaveBack 132 = .ok (.iaload, 1) := by decide +kernel
theorem dX11_weaveBack_133 : decode cX11_weaveBack 133 = .ok (.iload 4, 2) := by decide +kernel
theorem dX11_weaveBack_135 : decode cX11_weaveBack 135 = .ok (.iastore, 1) := by decide +kernel
theorem dX11_weaveBack_136 : decode cX11_weaveBack 136 = .ok (.aload_n 0, 1) := by decide +kernel
theorem dX11_weaveBack_137 : decode cX11_weaveBack 137 = .ok (.getfield 46, 3) := by decide +kernel
theorem dX11_weaveBack_140 : decode cX11_weaveBack 140 = .ok (.iload 5, 2) := by decide +kernel
theorem dX11_weaveBack_142 : decode cX11_weaveBack 142 = .ok (.dup2, 1) := by decide +kernel
theorem dX11_weaveBack_143 : decode cX11_weaveBack 143 = .ok (.iaload, 1) := by decide +kernel
theorem dX11_weaveBack_144 : decode cX11_weaveBack 144 = .ok (.iconst 1, 1) := by decide +kernel
theorem dX11_weaveBack_145 : decode cX11_weaveBack 145 = .ok (.iadd, 1) := by decide +kernel
theorem dX11_weaveBack_146 : decode cX11_weaveBack 146 = .ok (.iastore, 1) := by decide +kernel
theorem dX11_weaveBack_147 : decode cX11_weaveBack 147 = .ok (.iinc 4 1, 3) := by decide +kernel
theorem dX11_weaveBack_150 : decode cX11_weaveBack 150 = .ok (.goto (-87), 3) := by decide +kernel
theorem dX11_weaveBack_153 : decode cX11_weaveBack 153 = .ok (.iinc 3 1, 3) := by decide +kernel
theorem dX11_weaveBack_156 : decode cX11_weaveBack 156 = .ok (.goto (-109), 3) := by decide +kernel
theorem dX11_weaveBack_159 : decode cX11_weaveBack 159 = .ok (.return_, 1) := by decide +kernel
def w_We_weaveBack_100 (C : zC) (n0 : Nat) (Q : zS → Prop) (B47 : Nat → Nat → Int32 → Int32 → zS → Prop) (B63 : Nat → Nat → Int32 → Int32 → Int32 → zS → Prop) (a0 : Nat) (a1 : Nat) (a2 : Int32) (a3 : Int32) (a4 : Int32) (κ : zS) : Prop :=
  inb a4 (zN κ (zR κ atNumbers a1)) ∧
  ∀ v5_1 : Int32, v5_1 = (zA κ (zR κ atNumbers a1) (a4).toNatClampNeg) →
  inb v5_1 (zN κ (zR κ weCursor a0)) ∧
  inb (zA κ (zR κ weCursor a0) (v5_1).toNatClampNeg) (zN κ (zR κ weSources a0)) ∧
  ∀ κ2, κ2 = ua κ (zR κ weSources a0) ((zA κ (zR κ weCursor a0) (v5_1).toNatClampNeg)).toNatClampNeg a3 →
  ∀ _ : zW C n0 κ2,
  inb v5_1 (zN κ2 (zR κ2 weCursor a0)) ∧
  inb (zA κ2 (zR κ2 weCursor a0) (v5_1).toNatClampNeg) (zN κ2 (zR κ2 weEdges a0)) ∧
  ∀ κ4, κ4 = ua κ2 (zR κ2 weEdges a0) ((zA κ2 (zR κ2 weCursor a0) (v5_1).toNatClampNeg)).toNatClampNeg a4 →
  ∀ _ : zW C n0 κ4,
  inb v5_1 (zN κ4 (zR κ4 weCursor a0)) ∧
  inb v5_1 (zN κ4 (zR κ4 weCursor a0)) ∧
  ∀ κ6, κ6 = ua κ4 (zR κ4 weCursor a0) (v5_1).toNatClampNeg ((zA κ4 (zR κ4 weCursor a0) (v5_1).toNatClampNeg) + (1 : Int32)) →
  ∀ _ : zW C n0 κ6,
  ∀ v4_7 : Int32, v4_7 = a4 + (1 : Int32) →
  B63 a0 a1 a2 a3 v4_7 κ6
theorem t_We_weaveBack_100 {C : zC} {n0 : Nat} {Q : zS → Prop} {B47 : Nat → Nat → Int32 → Int32 → zS → Prop} {B63 : Nat → Nat → Int32 → Int32 → Int32 → zS → Prop} (hB47 : ∀ a0' a1' a2' a3' τ, zW C n0 τ → zT τ a0' = 14 → zT τ a1' = 3 → B47 a0' a1' a2' a3' τ → zG C n0 1 mWe_weaveBack 47 [some (.ref a0'), some (.ref a1'), some (.int a2'), some (.int a3'), none, none] [] τ (oV Q noX)) (hB63 : ∀ a0' a1' a2' a3' a4' τ, zW C n0 τ → zT τ a0' = 14 → zT τ a1' = 3 → B63 a0' a1' a2' a3' a4' τ → zG C n0 1 mWe_weaveBack 63 [some (.ref a0'), some (.ref a1'), some (.int a2'), some (.int a3'), some (.int a4'), none] [] τ (oV Q noX)) {a0 : Nat} {a1 : Nat} {a2 : Int32} {a3 : Int32} {a4 : Int32} {κ : zS} (W : zW C n0 κ) (Ta0 : zT κ a0 = 14) (Ta1 : zT κ a1 = 3) (F : w_We_weaveBack_100 C n0 Q B47 B63 a0 a1 a2 a3 a4 κ) : zG C n0 1 mWe_weaveBack 100 [some (.ref a0), some (.ref a1), some (.int a2), some (.int a3), some (.int a4), none] [] κ (oV Q noX) := by
  unfold w_We_weaveBack_100 at F
  refine y_aln dX11_weaveBack_100 rfl ?_
  refine gf_X11_94 W dX11_weaveBack_101 rfl Ta1 ?_
  refine y_il dX11_weaveBack_104 rfl ?_
  refine y_ald dX11_weaveBack_106 (ty_atNumbers W Ta1) F.1 ?_
  replace F := F.2
  refine y_isb dX11_weaveBack_107 (Nat.le_of_ble_eq_true rfl) (fun v5_1 ev5_1 => ?_)
  replace F := F v5_1 ev5_1
  refine y_aln dX11_weaveBack_109 rfl ?_
  refine gf_X11_21 W dX11_weaveBack_110 rfl Ta0 ?_
  refine y_aln dX11_weaveBack_113 rfl ?_
  refine gf_X11_46 W dX11_weaveBack_114 rfl Ta0 ?_
  refine y_il dX11_weaveBack_117 rfl ?_
  refine y_ald dX11_weaveBack_119 (ty_weCursor W Ta0) F.1 ?_
  replace F := F.2
  refine y_iln dX11_weaveBack_120 rfl ?_
  refine y_ast W dX11_weaveBack_121 (ty_weSources W Ta0) F.1 (fun κ2 eκ2 => ?_)
  replace F := F.2 κ2 eκ2
  have Wκ2 : zW C n0 κ2 := zW_ua W eκ2 (fun h => absurd (h.symm.trans (ty_weSources W Ta0)) (by decide)) (fun h => absurd (h.symm.trans (ty_weSources W Ta0)) (by decide))
  have Mκ2 : zM (zn κ) κ κ2 := by rw [eκ2]; exact zM.of rfl rfl rfl
  replace F := F Wκ2
  refine y_aln dX11_weaveBack_122 rfl ?_
  have h3 := (ztm W Mκ2 Ta0)
  refine gf_X11_24 Wκ2 dX11_weaveBack_123 rfl h3 ?_
  refine y_aln dX11_weaveBack_126 rfl ?_
  refine gf_X11_46 Wκ2 dX11_weaveBack_127 rfl h3 ?_
  refine y_il dX11_weaveBack_130 rfl ?_
  refine y_ald dX11_weaveBack_132 (ty_weCursor Wκ2 h3) F.1 ?_
  replace F := F.2
  refine y_il dX11_weaveBack_133 rfl ?_
  refine y_ast Wκ2 dX11_weaveBack_135 (ty_weEdges Wκ2 h3) F.1 (fun κ4 eκ4 => ?_)
  replace F := F.2 κ4 eκ4
  have Wκ4 : zW C n0 κ4 := zW_ua Wκ2 eκ4 (fun h => absurd (h.symm.trans (ty_weEdges Wκ2 h3)) (by decide)) (fun h => absurd (h.symm.trans (ty_weEdges Wκ2 h3)) (by decide))
  have Mκ4 : zM (zn κ2) κ2 κ4 := by rw [eκ4]; exact zM.of rfl rfl rfl
  replace F := F Wκ4
  refine y_aln dX11_weaveBack_136 rfl ?_
  have h5 := (ztm Wκ2 Mκ4 h3)
  refine gf_X11_46 Wκ4 dX11_weaveBack_137 rfl h5 ?_
  refine y_il dX11_weaveBack_140 rfl ?_
  refine y_dup2 dX11_weaveBack_142 rfl rfl ?_
  refine y_ald dX11_weaveBack_143 (ty_weCursor Wκ4 h5) F.1 ?_
  replace F := F.2
  refine y_ic dX11_weaveBack_144 zi_1 ?_
  refine y_iadd dX11_weaveBack_145 ?_
  refine y_ast Wκ4 dX11_weaveBack_146 (ty_weCursor Wκ4 h5) F.1 (fun κ6 eκ6 => ?_)
  replace F := F.2 κ6 eκ6
  have Wκ6 : zW C n0 κ6 := zW_ua Wκ4 eκ6 (fun h => absurd (h.symm.trans (ty_weCursor Wκ4 h5)) (by decide)) (fun h => absurd (h.symm.trans (ty_weCursor Wκ4 h5)) (by decide))
  have Mκ6 : zM (zn κ4) κ4 κ6 := by rw [eκ6]; exact zM.of rfl rfl rfl
  replace F := F Wκ6
  refine y_incb dX11_weaveBack_147 zi_1 rfl (Nat.le_of_ble_eq_true rfl) (fun v4_7 ev4_7 => ?_)
  replace F := F v4_7 ev4_7
  refine y_goto dX11_weaveBack_150 (t := 63) rfl ?_
  have h8 := (ztm Wκ4 Mκ6 h5)
  have h9 := (ztm Wκ4 Mκ6 (ztm Wκ2 Mκ4 (ztm W Mκ2 Ta1)))
  exact y_k (hB63 _ _ _ _ _ _ Wκ6 h8 h9 F) ⟨rfl, rfl, rfl, rfl, rfl, trivial⟩

def w_We_weaveBack_63 (C : zC) (n0 : Nat) (Q : zS → Prop) (B47 : Nat → Nat → Int32 → Int32 → zS → Prop) (a0 : Nat) (a1 : Nat) (a2 : Int32) (a3 : Int32) (a4 : Int32) (κ : zS) : Prop :=
  ∃ I : Nat → Nat → Nat → Int32 → Int32 → Int32 → zS → Prop, (∃ n, I n a0 a1 a2 a3 a4 κ) ∧ ∀ n a0 a1 a2 a3 a4 κ, zW C n0 κ → zT κ a0 = 14 → zT κ a1 = 3 → I n a0 a1 a2 a3 a4 κ →
    inb (a3 + (1 : Int32)) (zN κ (zR κ atFirsts a1)) ∧
    ((zA κ (zR κ atFirsts a1) ((a3 + (1 : Int32))).toNatClampNeg) ≤ a4 →
      ∀ v3_1 : Int32, v3_1 = a3 + (1 : Int32) →
      B47 a0 a1 a2 v3_1 κ) ∧
    (¬ (zA κ (zR κ atFirsts a1) ((a3 + (1 : Int32))).toNatClampNeg) ≤ a4 →
      inb a4 (zN κ (zR κ atSorts a1)) ∧
      (¬ (zA κ (zR κ atSorts a1) (a4).toNatClampNeg) = (0 : Int32) →
        ∀ v4_2 : Int32, v4_2 = a4 + (1 : Int32) →
        ∃ k < n, I k a0 a1 a2 a3 v4_2 κ) ∧
      ((zA κ (zR κ atSorts a1) (a4).toNatClampNeg) = (0 : Int32) →
        (a2 = (0 : Int32) →
          w_We_weaveBack_100 C n0 Q B47 (fun a0' a1' a2' a3' a4' τ => ∃ k < n, I k a0' a1' a2' a3' a4' τ) a0 a1 a2 a3 a4 κ) ∧
        (¬ a2 = (0 : Int32) →
          ∀ _ : zT κ a1 = 3,
          zRun C 0 mAt_isTaken [.ref a1, .int a3, .int a4] κ (oI (fun r4 κ3 =>
            ∀ _ : zW C n0 κ3,
            ∀ _ : zM (zn κ) κ κ3,
            (r4 = (0 : Int32) →
              ∀ v4_6 : Int32, v4_6 = a4 + (1 : Int32) →
              ∃ k < n, I k a0 a1 a2 a3 v4_6 κ3) ∧
            (¬ r4 = (0 : Int32) →
              w_We_weaveBack_100 C n0 Q B47 (fun a0' a1' a2' a3' a4' τ => ∃ k < n, I k a0' a1' a2' a3' a4' τ) a0 a1 a2 a3 a4 κ3)) noX))))
theorem t_We_weaveBack_63 {C : zC} {n0 : Nat} {Q : zS → Prop} {B47 : Nat → Nat → Int32 → Int32 → zS → Prop} (hB47 : ∀ a0' a1' a2' a3' τ, zW C n0 τ → zT τ a0' = 14 → zT τ a1' = 3 → B47 a0' a1' a2' a3' τ → zG C n0 1 mWe_weaveBack 47 [some (.ref a0'), some (.ref a1'), some (.int a2'), some (.int a3'), none, none] [] τ (oV Q noX)) {a0 : Nat} {a1 : Nat} {a2 : Int32} {a3 : Int32} {a4 : Int32} {κ : zS} (W : zW C n0 κ) (Ta0 : zT κ a0 = 14) (Ta1 : zT κ a1 = 3) (F : w_We_weaveBack_63 C n0 Q B47 a0 a1 a2 a3 a4 κ) : zG C n0 1 mWe_weaveBack 63 [some (.ref a0), some (.ref a1), some (.int a2), some (.int a3), some (.int a4), none] [] κ (oV Q noX) := by
  obtain ⟨I, ⟨m0, hI0⟩, F0⟩ := F
  have key : ∀ n a0 a1 a2 a3 a4 κ, zW C n0 κ → zT κ a0 = 14 → zT κ a1 = 3 → I n a0 a1 a2 a3 a4 κ → zG C n0 1 mWe_weaveBack 63 [some (.ref a0), some (.ref a1), some (.int a2), some (.int a3), some (.int a4), none] [] κ (oV Q noX) := by
    intro n
    induction n using Nat.strongRecOn with
    | _ n ih =>
      intro a0 a1 a2 a3 a4 κ W Ta0 Ta1 hI
      have F := F0 n a0 a1 a2 a3 a4 κ W Ta0 Ta1 hI
      clear hI hI0
      refine y_il dX11_weaveBack_63 rfl ?_
      refine y_aln dX11_weaveBack_65 rfl ?_
      refine gf_X11_86 W dX11_weaveBack_66 rfl Ta1 ?_
      refine y_iln dX11_weaveBack_69 rfl ?_
      refine y_ic dX11_weaveBack_70 zi_1 ?_
      refine y_iadd dX11_weaveBack_71 ?_
      refine y_ald dX11_weaveBack_72 (ty_atFirsts W Ta1) F.1 ?_
      replace F := F.2
      refine y_ii ((zA κ (zR κ atFirsts a1) ((a3 + (1 : Int32))).toNatClampNeg) ≤ a4) dX11_weaveBack_73 (t := 153) rfl rfl (fun c9 => ?_) (fun c9 => ?_)
      · replace F := F.1 c9
        refine y_incb dX11_weaveBack_153 zi_1 rfl (Nat.le_of_ble_eq_true rfl) (fun v3_1 ev3_1 => ?_)
        replace F := F v3_1 ev3_1
        refine y_goto dX11_weaveBack_156 (t := 47) rfl ?_
        exact y_k (hB47 _ _ _ _ _ W Ta0 Ta1 F) ⟨rfl, rfl, rfl, rfl, trivial⟩
      · replace F := F.2 c9
        refine y_aln dX11_weaveBack_76 rfl ?_
        refine gf_X11_91 W dX11_weaveBack_77 rfl Ta1 ?_
        refine y_il dX11_weaveBack_80 rfl ?_
        refine y_ald dX11_weaveBack_82 (ty_atSorts W Ta1) F.1 ?_
        replace F := F.2
        refine y_in ((zA κ (zR κ atSorts a1) (a4).toNatClampNeg) = (0 : Int32)) dX11_weaveBack_83 (t := 147) rfl rfl (fun c9 => ?_) (fun c9 => ?_)
        · replace F := F.1 c9
          refine y_incb dX11_weaveBack_147 zi_1 rfl (Nat.le_of_ble_eq_true rfl) (fun v4_2 ev4_2 => ?_)
          replace F := F v4_2 ev4_2
          refine y_goto dX11_weaveBack_150 (t := 63) rfl ?_
          obtain ⟨k, hk, hI⟩ := F
          exact y_k (ih k hk _ _ _ _ _ _ W Ta0 Ta1 hI) ⟨rfl, rfl, rfl, rfl, rfl, trivial⟩
        · replace F := F.2 c9
          refine y_iln dX11_weaveBack_86 rfl ?_
          refine y_i (a2 = (0 : Int32)) dX11_weaveBack_87 (t := 100) rfl rfl (fun c9 => ?_) (fun c9 => ?_)
          · replace F := F.1 c9
            exact y_k (t_We_weaveBack_100 hB47 (fun a0' a1' a2' a3' a4' τ w9 f09 f19 hb => by obtain ⟨k, hk, hI⟩ := hb; exact ih k hk a0' a1' a2' a3' a4' τ w9 f09 f19 hI) W Ta0 Ta1 F) ⟨rfl, rfl, rfl, rfl, rfl, trivial⟩
          · replace F := F.2 c9
            refine y_aln dX11_weaveBack_90 rfl ?_
            refine y_iln dX11_weaveBack_91 rfl ?_
            refine y_il dX11_weaveBack_92 rfl ?_
            replace F := F Ta1
            refine k_X11_87 W dX11_weaveBack_94 rfl (Nat.le_of_ble_eq_true rfl) (Nat.le_of_ble_eq_true rfl) (Or.inl Ta1) F (fun r4 κ3 Wκ3 Mκ3 F => ?_) (fun _ _ h9 => False.elim h9)
            replace F := F Wκ3 Mκ3
            refine y_i (r4 = (0 : Int32)) dX11_weaveBack_97 (t := 147) rfl rfl (fun c9 => ?_) (fun c9 => ?_)
            · replace F := F.1 c9
              refine y_incb dX11_weaveBack_147 zi_1 rfl (Nat.le_of_ble_eq_true rfl) (fun v4_6 ev4_6 => ?_)
              replace F := F v4_6 ev4_6
              refine y_goto dX11_weaveBack_150 (t := 63) rfl ?_
              have h7 := (ztm W Mκ3 Ta0)
              have h8 := (ztm W Mκ3 Ta1)
              obtain ⟨k, hk, hI⟩ := F
              exact y_k (ih k hk _ _ _ _ _ _ Wκ3 h7 h8 hI) ⟨rfl, rfl, rfl, rfl, rfl, trivial⟩
            · replace F := F.2 c9
              have h9 := (ztm W Mκ3 Ta0)
              have h10 := (ztm W Mκ3 Ta1)
              exact y_k (t_We_weaveBack_100 hB47 (fun a0' a1' a2' a3' a4' τ w9 f09 f19 hb => by obtain ⟨k, hk, hI⟩ := hb; exact ih k hk a0' a1' a2' a3' a4' τ w9 f09 f19 hI) Wκ3 h9 h10 F) ⟨rfl, rfl, rfl, rfl, rfl, trivial⟩
  exact key m0 a0 a1 a2 a3 a4 κ W Ta0 Ta1 hI0

def w_We_weaveBack_47 (C : zC) (n0 : Nat) (Q : zS → Prop)  (a0 : Nat) (a1 : Nat) (a2 : Int32) (a3 : Int32) (κ : zS) : Prop :=
  ∃ I : Nat → Nat → Nat → Int32 → Int32 → zS → Prop, (∃ n, I n a0 a1 a2 a3 κ) ∧ ∀ n a0 a1 a2 a3 κ, zW C n0 κ → zT κ a0 = 14 → zT κ a1 = 3 → I n a0 a1 a2 a3 κ →
    ((zI κ weTotal a0) ≤ a3 →
      Q κ) ∧
    (¬ (zI κ weTotal a0) ≤ a3 →
      inb a3 (zN κ (zR κ atFirsts a1)) ∧
      ∀ v4_1 : Int32, v4_1 = (zA κ (zR κ atFirsts a1) (a3).toNatClampNeg) →
      w_We_weaveBack_63 C n0 Q (fun a0' a1' a2' a3' τ => ∃ k < n, I k a0' a1' a2' a3' τ) a0 a1 a2 a3 v4_1 κ)
theorem t_We_weaveBack_47 {C : zC} {n0 : Nat} {Q : zS → Prop}   {a0 : Nat} {a1 : Nat} {a2 : Int32} {a3 : Int32} {κ : zS} (W : zW C n0 κ) (Ta0 : zT κ a0 = 14) (Ta1 : zT κ a1 = 3) (F : w_We_weaveBack_47 C n0 Q  a0 a1 a2 a3 κ) : zG C n0 1 mWe_weaveBack 47 [some (.ref a0), some (.ref a1), some (.int a2), some (.int a3), none, none] [] κ (oV Q noX) := by
  obtain ⟨I, ⟨m0, hI0⟩, F0⟩ := F
  have key : ∀ n a0 a1 a2 a3 κ, zW C n0 κ → zT κ a0 = 14 → zT κ a1 = 3 → I n a0 a1 a2 a3 κ → zG C n0 1 mWe_weaveBack 47 [some (.ref a0), some (.ref a1), some (.int a2), some (.int a3), none, none] [] κ (oV Q noX) := by
    intro n
    induction n using Nat.strongRecOn with
    | _ n ih =>
      intro a0 a1 a2 a3 κ W Ta0 Ta1 hI
      have F := F0 n a0 a1 a2 a3 κ W Ta0 Ta1 hI
      clear hI hI0
      refine y_iln dX11_weaveBack_47 rfl ?_
      refine y_aln dX11_weaveBack_48 rfl ?_
      refine gf_X11_70 dX11_weaveBack_49 rfl (Or.inl Ta0) ?_
      refine y_ii ((zI κ weTotal a0) ≤ a3) dX11_weaveBack_52 (t := 159) rfl rfl (fun c9 => ?_) (fun c9 => ?_)
      · replace F := F.1 c9
        exact y_rv W dX11_weaveBack_159 rfl F
      · replace F := F.2 c9
        refine y_aln dX11_weaveBack_55 rfl ?_
        refine gf_X11_86 W dX11_weaveBack_56 rfl Ta1 ?_
        refine y_iln dX11_weaveBack_59 rfl ?_
        refine y_ald dX11_weaveBack_60 (ty_atFirsts W Ta1) F.1 ?_
        replace F := F.2
        refine y_isb dX11_weaveBack_61 (Nat.le_of_ble_eq_true rfl) (fun v4_1 ev4_1 => ?_)
        replace F := F v4_1 ev4_1
        exact y_k (t_We_weaveBack_63 (fun a0' a1' a2' a3' τ w9 f09 f19 hb => by obtain ⟨k, hk, hI⟩ := hb; exact ih k hk a0' a1' a2' a3' τ w9 f09 f19 hI) W Ta0 Ta1 F) ⟨rfl, rfl, rfl, rfl, rfl, trivial⟩
  exact key m0 a0 a1 a2 a3 κ W Ta0 Ta1 hI0

def w_We_weaveBack_2 (C : zC) (n0 : Nat) (Q : zS → Prop)  (a0 : Nat) (a1 : Nat) (a2 : Int32) (a3 : Int32) (κ : zS) : Prop :=
  ∃ I : Nat → Nat → Nat → Int32 → Int32 → zS → Prop, (∃ n, I n a0 a1 a2 a3 κ) ∧ ∀ n a0 a1 a2 a3 κ, zW C n0 κ → zT κ a0 = 14 → zT κ a1 = 3 → I n a0 a1 a2 a3 κ →
    ((zI κ weTotal a0) ≤ a3 →
      w_We_weaveBack_47 C n0 Q  a0 a1 a2 (0 : Int32) κ) ∧
    (¬ (zI κ weTotal a0) ≤ a3 →
      inb (a3 + (1 : Int32)) (zN κ (zR κ weBackFirsts a0)) ∧
      inb a3 (zN κ (zR κ weBackFirsts a0)) ∧
      inb (a3 + (1 : Int32)) (zN κ (zR κ weBackFirsts a0)) ∧
      ∀ κ1, κ1 = ua κ (zR κ weBackFirsts a0) ((a3 + (1 : Int32))).toNatClampNeg ((zA κ (zR κ weBackFirsts a0) ((a3 + (1 : Int32))).toNatClampNeg) + (zA κ (zR κ weBackFirsts a0) (a3).toNatClampNeg)) →
      ∀ _ : zW C n0 κ1,
      inb a3 (zN κ1 (zR κ1 weBackFirsts a0)) ∧
      inb a3 (zN κ1 (zR κ1 weCursor a0)) ∧
      ∀ κ3, κ3 = ua κ1 (zR κ1 weCursor a0) (a3).toNatClampNeg (zA κ1 (zR κ1 weBackFirsts a0) (a3).toNatClampNeg) →
      ∀ _ : zW C n0 κ3,
      ∀ v3_4 : Int32, v3_4 = a3 + (1 : Int32) →
      ∃ k < n, I k a0 a1 a2 v3_4 κ3)
theorem t_We_weaveBack_2 {C : zC} {n0 : Nat} {Q : zS → Prop}   {a0 : Nat} {a1 : Nat} {a2 : Int32} {a3 : Int32} {κ : zS} (W : zW C n0 κ) (Ta0 : zT κ a0 = 14) (Ta1 : zT κ a1 = 3) (F : w_We_weaveBack_2 C n0 Q  a0 a1 a2 a3 κ) : zG C n0 1 mWe_weaveBack 2 [some (.ref a0), some (.ref a1), some (.int a2), some (.int a3), none, none] [] κ (oV Q noX) := by
  obtain ⟨I, ⟨m0, hI0⟩, F0⟩ := F
  have key : ∀ n a0 a1 a2 a3 κ, zW C n0 κ → zT κ a0 = 14 → zT κ a1 = 3 → I n a0 a1 a2 a3 κ → zG C n0 1 mWe_weaveBack 2 [some (.ref a0), some (.ref a1), some (.int a2), some (.int a3), none, none] [] κ (oV Q noX) := by
    intro n
    induction n using Nat.strongRecOn with
    | _ n ih =>
      intro a0 a1 a2 a3 κ W Ta0 Ta1 hI
      have F := F0 n a0 a1 a2 a3 κ W Ta0 Ta1 hI
      clear hI hI0
      refine y_iln dX11_weaveBack_2 rfl ?_
      refine y_aln dX11_weaveBack_3 rfl ?_
      refine gf_X11_70 dX11_weaveBack_4 rfl (Or.inl Ta0) ?_
      refine y_ii ((zI κ weTotal a0) ≤ a3) dX11_weaveBack_7 (t := 45) rfl rfl (fun c9 => ?_) (fun c9 => ?_)
      · replace F := F.1 c9
        refine y_ic dX11_weaveBack_45 zi_0 ?_
        refine y_isn dX11_weaveBack_46 (Nat.le_of_ble_eq_true rfl) rfl ?_
        exact y_k (t_We_weaveBack_47  W Ta0 Ta1 F) ⟨rfl, rfl, rfl, rfl, trivial⟩
      · replace F := F.2 c9
        refine y_aln dX11_weaveBack_10 rfl ?_
        refine gf_X11_18 W dX11_weaveBack_11 rfl Ta0 ?_
        refine y_iln dX11_weaveBack_14 rfl ?_
        refine y_ic dX11_weaveBack_15 zi_1 ?_
        refine y_iadd dX11_weaveBack_16 ?_
        refine y_dup2 dX11_weaveBack_17 rfl rfl ?_
        refine y_ald dX11_weaveBack_18 (ty_weBackFirsts W Ta0) F.1 ?_
        replace F := F.2
        refine y_aln dX11_weaveBack_19 rfl ?_
        refine gf_X11_18 W dX11_weaveBack_20 rfl Ta0 ?_
        refine y_iln dX11_weaveBack_23 rfl ?_
        refine y_ald dX11_weaveBack_24 (ty_weBackFirsts W Ta0) F.1 ?_
        replace F := F.2
        refine y_iadd dX11_weaveBack_25 ?_
        refine y_ast W dX11_weaveBack_26 (ty_weBackFirsts W Ta0) F.1 (fun κ1 eκ1 => ?_)
        replace F := F.2 κ1 eκ1
        have Wκ1 : zW C n0 κ1 := zW_ua W eκ1 (fun h => absurd (h.symm.trans (ty_weBackFirsts W Ta0)) (by decide)) (fun h => absurd (h.symm.trans (ty_weBackFirsts W Ta0)) (by decide))
        have Mκ1 : zM (zn κ) κ κ1 := by rw [eκ1]; exact zM.of rfl rfl rfl
        replace F := F Wκ1
        refine y_aln dX11_weaveBack_27 rfl ?_
        have h2 := (ztm W Mκ1 Ta0)
        refine gf_X11_46 Wκ1 dX11_weaveBack_28 rfl h2 ?_
        refine y_iln dX11_weaveBack_31 rfl ?_
        refine y_aln dX11_weaveBack_32 rfl ?_
        refine gf_X11_18 Wκ1 dX11_weaveBack_33 rfl h2 ?_
        refine y_iln dX11_weaveBack_36 rfl ?_
        refine y_ald dX11_weaveBack_37 (ty_weBackFirsts Wκ1 h2) F.1 ?_
        replace F := F.2
        refine y_ast Wκ1 dX11_weaveBack_38 (ty_weCursor Wκ1 h2) F.1 (fun κ3 eκ3 => ?_)
        replace F := F.2 κ3 eκ3
        have Wκ3 : zW C n0 κ3 := zW_ua Wκ1 eκ3 (fun h => absurd (h.symm.trans (ty_weCursor Wκ1 h2)) (by decide)) (fun h => absurd (h.symm.trans (ty_weCursor Wκ1 h2)) (by decide))
        have Mκ3 : zM (zn κ1) κ1 κ3 := by rw [eκ3]; exact zM.of rfl rfl rfl
        replace F := F Wκ3
        refine y_incb dX11_weaveBack_39 zi_1 rfl (Nat.le_of_ble_eq_true rfl) (fun v3_4 ev3_4 => ?_)
        replace F := F v3_4 ev3_4
        refine y_goto dX11_weaveBack_42 (t := 2) rfl ?_
        have h5 := (ztm Wκ1 Mκ3 h2)
        have h6 := (ztm Wκ1 Mκ3 (ztm W Mκ1 Ta1))
        obtain ⟨k, hk, hI⟩ := F
        exact y_k (ih k hk _ _ _ _ _ Wκ3 h5 h6 hI) ⟨rfl, rfl, rfl, rfl, trivial⟩
  exact key m0 a0 a1 a2 a3 κ W Ta0 Ta1 hI0

def w_We_weaveBack_0 (C : zC) (n0 : Nat) (Q : zS → Prop)  (a0 : Nat) (a1 : Nat) (a2 : Int32) (κ : zS) : Prop :=
  w_We_weaveBack_2 C n0 Q  a0 a1 a2 (0 : Int32) κ
theorem t_We_weaveBack_0 {C : zC} {n0 : Nat} {Q : zS → Prop}   {a0 : Nat} {a1 : Nat} {a2 : Int32} {κ : zS} (W : zW C n0 κ) (Ta0 : zT κ a0 = 14) (Ta1 : zT κ a1 = 3) (F : w_We_weaveBack_0 C n0 Q  a0 a1 a2 κ) : zG C n0 1 mWe_weaveBack 0 [some (.ref a0), some (.ref a1), some (.int a2), none, none, none] [] κ (oV Q noX) := by
  unfold w_We_weaveBack_0 at F
  refine y_ic dX11_weaveBack_0 zi_0 ?_
  refine y_isn dX11_weaveBack_1 (Nat.le_of_ble_eq_true rfl) rfl ?_
  exact y_k (t_We_weaveBack_2  W Ta0 Ta1 F) ⟨rfl, rfl, rfl, rfl, trivial⟩

theorem We_weaveBack_run {C : zC} {n0 : Nat} {Q : zS → Prop} {a0 : Nat} {a1 : Nat} {a2 : Int32} {κ : zS} (W : zW C n0 κ) (Ta0 : zT κ a0 = 14) (Ta1 : zT κ a1 = 3) (F : w_We_weaveBack_0 C (zn κ) Q a0 a1 a2 κ) : zRun C 1 mWe_weaveBack [.ref a0, .ref a1, .int a2] κ (oV Q noX) := z_run (m_ent _ 3) (t_We_weaveBack_0 (W.lo (Nat.le_trans W.1.2.1 W.1.2.2) (Nat.le_refl _)) Ta0 Ta1 F)

theorem dX11_weave_0 : decode cX11_weave 0 = .ok (.aload_n 0, 1) := by decide +kernel
theorem dX11_weave_1 : decode cX11_weave 1 = .ok (.invokevirtual 55, 3) := by decide +kernel
theorem dX11_weave_4 : decode cX11_weave 4 = .ok (.aload_n 0, 1) := by decide +kernel
theorem dX11_weave_5 : decode cX11_weave 5 = .ok (.aload_n 1, 1) := by decide +kernel
theorem dX11_weave_6 : decode cX11_weave 6 = .ok (.getfield 58, 3) := by decide +kernel
theorem dX11_weave_9 : decode cX11_weave 9 = .ok (.getfield 64, 3) := by decide +kernel
theorem dX11_weave_12 : decode cX11_weave 12 = .ok (.putfield 70, 3) := by decide +kernel
theorem dX11_weave_15 : decode cX11_weave 15 = .ok (.aload_n 0, 1) := by decide +kernel
theorem dX11_weave_16 : decode cX11_weave 16 = .ok (.getfield 15, 3) := by decide +kernel
theorem dX11_weave_19 : decode cX11_weave 19 = .ok (.arraylength, 1) := by decide +kernel
theorem dX11_weave_20 : decode cX11_weave 20 = .ok (.aload_n 1, 1) := by decide +kernel
theorem dX11_weave_21 : decode cX11_weave 21 = .ok (.getfield 71, 3) := by decide +kernel
theorem dX11_weave_24 : decode cX11_weave 24 = .ok (.if_icmp .ge 37, 3) := by decide +kernel
theorem dX11_weave_27 : decode cX11_weave 27 = .ok (.aload_n 1, 1) := by decide +kernel
theorem dX11_weave_28 : decode cX11_weave 28 = .ok (.getfield 71, 3) := by decide +kernel
theorem dX11_weave_31 : decode cX11_weave 31 = .ok (.iconst 2, 1) := by decide +kernel
theorem dX11_weave_32 : decode cX11_weave 32 = .ok (.imul, 1) := by decide +kernel
theorem dX11_weave_33 : decode cX11_weave 33 = .ok (.sipush 20000, 3) := by decide +kernel
theorem dX11_weave_36 : decode cX11_weave 36 = .ok (.invokestatic 74, 3) := by decide +kernel
theorem dX11_weave_39 : decode cX11_weave 39 = .ok (.istore_n 3, 1) := by decide +kernel
theorem dX11_weave_40 : decode cX11_weave 40 = .ok (.aload_n 0, 1) := by decide +kernel
theorem dX11_weave_41 : decode cX11_weave 41 = .ok (.iload_n 3, 1) := by decide +kernel
theorem dX11_weave_42 : decode cX11_weave 42 = .ok (.newarray .int, 2) := by decide +kernel
theorem dX11_weave_44 : decode cX11_weave 44 = .ok (.putfield 15, 3) := by decide +kernel
theorem dX11_weave_47 : decode cX11_weave 47 = .ok (.aload_n 0, 1) := by decide +kernel
theorem dX11_weave_48 : decode cX11_weave 48 = .ok (.iload_n 3, 1) := by decide +kernel
theorem dX11_weave_49 : decode cX11_weave 49 = .ok (.newarray .int, 2) := by decide +kernel
theorem dX11_weave_51 : decode cX11_weave 51 = .ok (.putfield 21, 3) := by decide +kernel
theorem dX11_weave_54 : decode cX11_weave 54 = .ok (.aload_n 0, 1) := by decide +kernel
theorem dX11_weave_55 : decode cX11_weave 55 = .ok (.iload_n 3, 1) := by decide +kernel
theorem dX11_weave_56 : decode cX11_weave 56 = .ok (.newarray .int, 2) := by decide +kernel
theorem dX11_weave_58 : decode cX11_weave 58 = .ok (.putfield 24, 3) := by decide +kernel
theorem dX11_weave_61 : decode cX11_weave 61 = .ok (.aload_n 0, 1) := by decide +kernel
theorem dX11_weave_62 : decode cX11_weave 62 = .ok (.getfield 18, 3) := by decide +kernel
theorem dX11_weave_65 : decode cX11_weave 65 = .ok (.iconst 0, 1) := by decide +kernel
theorem dX11_weave_66 : decode cX11_weave 66 = .ok (.invokestatic 80, 3) := by decide +kernel
theorem dX11_weave_69 : decode cX11_weave 69 = .ok (.iconst 0, 1) := by decide +kernel
theorem dX11_weave_70 : decode cX11_weave 70 = .ok (.istore_n 3, 1) := by decide +kernel
theorem dX11_weave_71 : decode cX11_weave 71 = .ok (.iconst 0, 1) := by decide +kernel
theorem dX11_weave_72 : decode cX11_weave 72 = .ok (.istore 4, 2) := by decide +kernel
theorem dX11_weave_74 : decode cX11_weave 74 = .ok (.iconst 0, 1) := by decide +kernel
theorem dX11_weave_75 : decode cX11_weave 75 = .ok (.istore 5, 2) := by decide +kernel
theorem dX11_weave_77 : decode cX11_weave 77 = .ok (.iload 5, 2) := by decide +kernel
theorem dX11_weave_79 : decode cX11_weave 79 = .ok (.aload_n 0, 1) := by decide +kernel
theorem dX11_weave_80 : decode cX11_weave 80 = .ok (.getfield 70, 3) := by decide +kernel
theorem dX11_weave_83 : decode cX11_weave 83 = .ok (.if_icmp .ge 149, 3) := by decide +kernel
theorem dX11_weave_86 : decode cX11_weave 86 = .ok (.aload_n 0, 1) := by decide +kernel
theorem dX11_weave_87 : decode cX11_weave 87 = .ok (.getfield 9, 3) := by decide +kernel
theorem dX11_weave_90 : decode cX11_weave 90 = .ok (.iload 5, 2) := by decide +kernel
theorem dX11_weave_92 : decode cX11_weave 92 = .ok (.iload_n 3, 1) := by decide +kernel
theorem dX11_weave_93 : decode cX11_weave 93 = .ok (.iastore, 1) := by decide +kernel
theorem dX11_weave_94 : decode cX11_weave 94 = .ok (.aload_n 0, 1) := by decide +kernel
theorem dX11_weave_95 : decode cX11_weave 95 = .ok (.getfield 27, 3) := by decide +kernel
theorem dX11_weave_98 : decode cX11_weave 98 = .ok (.iload 5, 2) := by decide +kernel
theorem dX11_weave_100 : decode cX11_weave 100 = .ok (.iconst 0, 1) := by decide +kernel
theorem dX11_weave_101 : decode cX11_weave 101 = .ok (.bastore, 1) := by decide +kernel
theorem dX11_weave_102 : decode cX11_weave 102 = .ok (.aload_n 1, 1) := by decide +kernel
theorem dX11_weave_103 : decode cX11_weave 103 = .ok (.getfield 86, 3) := by decide +kernel
theorem dX11_weave_106 : decode cX11_weave 106 = .ok (.iload 5, 2) := by decide +kernel
theorem dX11_weave_108 : decode cX11_weave 108 = .ok (.iaload, 1) := by decide +kernel
theorem dX11_weave_109 : decode cX11_weave 109 = .ok (.istore 6, 2) := by decide +kernel
theorem dX11_weave_111 : decode cX11_weave 111 = .ok (.iload 6, 2) := by decide +kernel
theorem dX11_weave_113 : decode cX11_weave 113 = .ok (.aload_n 1, 1) := by decide +kernel
theorem dX11_weave_114 : decode cX11_weave 114 = .ok (.getfield 86, 3) := by decide +kernel
theorem dX11_weave_117 : decode cX11_weave 117 = .ok (.iload 5, 2) := by decide +kernel
theorem dX11_weave_119 : decode cX11_weave 119 = .ok (.iconst 1, 1) := by decide +kernel
theorem dX11_weave_120 : decode cX11_weave 120 = .ok (.iadd, 1) := by decide +kernel
theorem dX11_weave_121 : decode cX11_weave 121 = .ok (.iaload, 1) := by decide +kernel
theorem dX11_weave_122 : decode cX11_weave 122 = .ok (.if_icmp .ge 104, 3) := by decide +kernel
theorem dX11_weave_125 : decode cX11_weave 125 = .ok (.iload_n 2, 1) := by decide +kernel
theorem dX11_weave_126 : decode cX11_weave 126 = .ok (.ifCond .eq 17, 3) := by decide +kernel
theorem dX11_weave_129 : decode cX11_weave 129 = .ok (.aload_n 1, 1) := by decide +kernel
theorem dX11_weave_130 : decode cX11_weave 130 = .ok (.iload 5, 2) := by decide +kernel
theorem dX11_weave_132 : decode cX11_weave 132 = .ok (.iload 6, 2) := by decide +kernel
theorem dX11_weave_134 : decode cX11_weave 134 = .ok (.invokevirtual 87, 3) := by decide +kernel
theorem dX11_weave_137 : decode cX11_weave 137 = .ok (.ifCond .ne 6, 3) := by decide +kernel
theorem dX11_weave_140 : decode cX11_weave 140 = .ok (.goto 80, 3) := by decide +kernel
theorem dX11_weave_143 : decode cX11_weave 143 = .ok (.aload_n 1, 1) := by decide +kernel
theorem dX11_weave_144 : decode cX11_weave 144 = .ok (.getfield 91, 3) := by decide +kernel
theorem dX11_weave_147 : decode cX11_weave 147 = .ok (.iload 6, 2) := by decide +kernel
theorem dX11_weave_149 : decode cX11_weave 149 = .ok (.iaload, 1) := by decide +kernel
theorem dX11_weave_150 : decode cX11_weave 150 = .ok (.ifCond .ne 40, 3) := by decide +kernel
theorem dX11_weave_153 : decode cX11_weave 153 = .ok (.aload_n 0, 1) := by decide +kernel
theorem dX11_weave_154 : decode cX11_weave 154 = .ok (.getfield 15, 3) := by decide +kernel
theorem dX11_weave_157 : decode cX11_weave 157 = .ok (.iload_n 3, 1) := by decide +kernel
theorem dX11_weave_158 : decode cX11_weave 158 = .ok (.aload_n 1, 1) := by decide +kernel
theorem dX11_weave_159 : decode cX11_weave 159 = .ok (.getfield 94, 3) := by decide +kernel
theorem dX11_weave_162 : decode cX11_weave 162 = .ok (.iload 6, 2) := by decide +kernel
theorem dX11_weave_164 : decode cX11_weave 164 = .ok (.iaload, 1) := by decide +kernel
theorem dX11_weave_165 : decode cX11_weave 165 = .ok (.iastore, 1) := by decide +kernel
theorem dX11_weave_166 : decode cX11_weave 166 = .ok (.iinc 3 1, 3) := by decide +kernel
theorem dX11_weave_169 : decode cX11_weave 169 = .ok (.aload_n 0, 1) := by decide +kernel
theorem dX11_weave_170 : decode cX11_weave 170 = .ok (.getfield 18, 3) := by decide +kernel
theorem dX11_weave_173 : decode cX11_weave 173 = .ok (.aload_n 1, 1) := by decide +kernel
theorem dX11_weave_174 : decode cX11_weave 174 = .ok (.getfield 94, 3) := by decide +kernel
theorem dX11_weave_177 : decode cX11_weave 177 = .ok (.iload 6, 2) := by decide +kernel
theorem dX11_weave_179 : decode cX11_weave 179 = .ok (.iaload, 1) := by decide +kernel
theorem dX11_weave_180 : decode cX11_weave 180 = .ok (.iconst 1, 1) := by decide +kernel
theorem dX11_weave_181 : decode cX11_weave 181 = .ok (.iadd, 1) := by decide +kernel
theorem dX11_weave_182 : decode cX11_weave 182 = .ok (.dup2, 1) := by decide +kernel
theorem dX11_weave_183 : decode cX11_weave 183 = .ok (.iaload, 1) := by decide +kernel
theorem dX11_weave_184 : decode cX11_weave 184 = .ok (.iconst 1, 1) := by decide +kernel
theorem dX11_weave_185 : decode cX11_weave 185 = .ok (.iadd, 1) := by decide +kernel
theorem dX11_weave_186 : decode cX11_weave 186 = .ok (.iastore, 1) := by decide +kernel
theorem dX11_weave_187 : decode cX11_weave 187 = .ok (.goto 33, 3) := by decide +kernel
theorem dX11_weave_190 : decode cX11_weave 190 = .ok (.aload_n 0, 1) := by decide +kernel
theorem dX11_weave_191 : decode cX11_weave 191 = .ok (.getfield 27, 3) := by decide +kernel
theorem dX11_weave_194 : decode cX11_weave 194 = .ok (.iload 5, 2) := by decide +kernel
theorem dX11_weave_196 : decode cX11_weave 196 = .ok (.baload, 1) := by decide +kernel
theorem dX11_weave_197 : decode cX11_weave 197 = .ok (.ifCond .ne 23, 3) := by decide +kernel
theorem dX11_weave_200 : decode cX11_weave 200 = .ok (.aload_n 0, 1) := by decide +kernel
theorem dX11_weave_201 : decode cX11_weave 201 = .ok (.getfield 27, 3) := by decide +kernel
theorem dX11_weave_204 : decode cX11_weave 204 = .ok (.iload 5, 2) := by decide +kernel
theorem dX11_weave_206 : decode cX11_weave 206 = .ok (.iconst 1, 1) := by decide +kernel
theorem dX11_weave_207 : decode cX11_weave 207 = .ok (.bastore, 1) := by decide +kernel
theorem dX11_weave_208 : decode cX11_weave 208 = .ok (.aload_n 0, 1) := by decide +kernel
theorem dX11_weave_209 : decode cX11_weave 209 = .ok (.getfield 52, 3) := by decide +kernel
theorem dX11_weave_212 : decode cX11_weave 212 = .ok (.iload 4, 2) := by decide +kernel
theorem dX11_weave_214 : decode cX11_weave 214 = .ok (.iload 5, 2) := by decide +kernel
theorem dX11_weave_216 : decode cX11_weave 216 = .ok (.iastore, 1) := by decide +kernel
theorem dX11_weave_217 : decode cX11_weave 217 = .ok (.iinc 4 1, 3) := by decide +kernel
theorem dX11_weave_220 : decode cX11_weave 220 = .ok (.iinc 6 1, 3) := by decide +kernel
theorem dX11_weave_223 : decode cX11_weave 223 = .ok (.goto (-112), 3) := by decide +kernel
theorem dX11_weave_226 : decode cX11_weave 226 = .ok (.iinc 5 1, 3) := by decide +kernel
theorem dX11_weave_229 : decode cX11_weave 229 = .ok (.goto (-152), 3) := by decide +kernel
theorem dX11_weave_232 : decode cX11_weave 232 = .ok (.aload_n 0, 1) := by decide +kernel
theorem dX11_weave_233 : decode cX11_weave 233 = .ok (.getfield 9, 3) := by decide +kernel
theorem dX11_weave_236 : decode cX11_weave 236 = .ok (.aload_n 0, 1) := by decide +kernel
theorem dX11_weave_237 : decode cX11_weave 237 = .ok (.getfield 70, 3) := by decide +kernel
theorem dX11_weave_240 : decode cX11_weave 240 = .ok (.iload_n 3, 1) := by decide +kernel
theorem dX11_weave_241 : decode cX11_weave 241 = .ok (.iastore, 1) := by decide +kernel
theorem dX11_weave_242 : decode cX11_weave 242 = .ok (.aload_n 0, 1) := by decide +kernel
theorem dX11_weave_243 : decode cX11_weave 243 = .ok (.aload_n 1, 1) := by decide +kernel
theorem dX11_weave_244 : decode cX11_weave 244 = .ok (.iload_n 2, 1) := by decide +kernel
theorem dX11_weave_245 : decode cX11_weave 245 = .ok (.invokevirtual 97, 3) := by decide +kernel
theorem dX11_weave_248 : decode cX11_weave 248 = .ok (.aload_n 0, 1) := by decide +kernel
theorem dX11_weave_249 : decode cX11_weave 249 = .ok (.iload 4, 2) := by decide +kernel
theorem dX11_weave_251 : decode cX11_weave 251 = .ok (.invokevirtual 101, 3) := by decide +kernel
theorem dX11_weave_254 : decode cX11_weave 254 = .ok (.return_, 1) := by decide +kernel
def w_We_weave_143 (C : zC) (n0 : Nat) (Q : zS → Prop) (B77 : Nat → Nat → Int32 → Int32 → Int32 → Int32 → zS → Prop) (B111 : Nat → Nat → Int32 → Int32 → Int32 → Int32 → Int32 → zS → Prop) (a0 : Nat) (a1 : Nat) (a2 : Int32) (a3 : Int32) (a4 : Int32) (a5 : Int32) (a6 : Int32) (κ : zS) : Prop :=
  inb a6 (zN κ (zR κ atSorts a1)) ∧
  (¬ (zA κ (zR κ atSorts a1) (a6).toNatClampNeg) = (0 : Int32) →
    inb a5 (zN κ (zR κ weOpen a0)) ∧
    (¬ (zA κ (zR κ weOpen a0) (a5).toNatClampNeg) = (0 : Int32) →
      ∀ v6_1 : Int32, v6_1 = a6 + (1 : Int32) →
      B111 a0 a1 a2 a3 a4 a5 v6_1 κ) ∧
    ((zA κ (zR κ weOpen a0) (a5).toNatClampNeg) = (0 : Int32) →
      inb a5 (zN κ (zR κ weOpen a0)) ∧
      ∀ κ2, κ2 = ua κ (zR κ weOpen a0) (a5).toNatClampNeg (vp_nar .boolean (1 : Int32)) →
      ∀ _ : zW C n0 κ2,
      inb a4 (zN κ2 (zR κ2 weHeap a0)) ∧
      ∀ κ4, κ4 = ua κ2 (zR κ2 weHeap a0) (a4).toNatClampNeg a5 →
      ∀ _ : zW C n0 κ4,
      ∀ v4_5 : Int32, v4_5 = a4 + (1 : Int32) →
      ∀ v6_6 : Int32, v6_6 = a6 + (1 : Int32) →
      B111 a0 a1 a2 a3 v4_5 a5 v6_6 κ4)) ∧
  ((zA κ (zR κ atSorts a1) (a6).toNatClampNeg) = (0 : Int32) →
    inb a6 (zN κ (zR κ atNumbers a1)) ∧
    inb a3 (zN κ (zR κ weTargets a0)) ∧
    ∀ κ9, κ9 = ua κ (zR κ weTargets a0) (a3).toNatClampNeg (zA κ (zR κ atNumbers a1) (a6).toNatClampNeg) →
    ∀ _ : zW C n0 κ9,
    ∀ v3_10 : Int32, v3_10 = a3 + (1 : Int32) →
    inb a6 (zN κ9 (zR κ9 atNumbers a1)) ∧
    inb ((zA κ9 (zR κ9 atNumbers a1) (a6).toNatClampNeg) + (1 : Int32)) (zN κ9 (zR κ9 weBackFirsts a0)) ∧
    inb ((zA κ9 (zR κ9 atNumbers a1) (a6).toNatClampNeg) + (1 : Int32)) (zN κ9 (zR κ9 weBackFirsts a0)) ∧
    ∀ κ13, κ13 = ua κ9 (zR κ9 weBackFirsts a0) (((zA κ9 (zR κ9 atNumbers a1) (a6).toNatClampNeg) + (1 : Int32))).toNatClampNeg ((zA κ9 (zR κ9 weBackFirsts a0) (((zA κ9 (zR κ9 atNumbers a1) (a6).toNatClampNeg) + (1 : Int32))).toNatClampNeg) + (1 : Int32)) →
    ∀ _ : zW C n0 κ13,
    ∀ v6_14 : Int32, v6_14 = a6 + (1 : Int32) →
    B111 a0 a1 a2 v3_10 a4 a5 v6_14 κ13)
theorem t_We_weave_143 {C : zC} {n0 : Nat} {Q : zS → Prop} {B77 : Nat → Nat → Int32 → Int32 → Int32 → Int32 → zS → Prop} {B111 : Nat → Nat → Int32 → Int32 → Int32 → Int32 → Int32 → zS → Prop} (hB77 : ∀ a0' a1' a2' a3' a4' a5' τ, zW C n0 τ → zT τ a0' = 14 → zT τ a1' = 3 → B77 a0' a1' a2' a3' a4' a5' τ → zG C n0 2 mWe_weave 77 [some (.ref a0'), some (.ref a1'), some (.int a2'), some (.int a3'), some (.int a4'), some (.int a5'), none] [] τ (oV Q noX)) (hB111 : ∀ a0' a1' a2' a3' a4' a5' a6' τ, zW C n0 τ → zT τ a0' = 14 → zT τ a1' = 3 → B111 a0' a1' a2' a3' a4' a5' a6' τ → zG C n0 2 mWe_weave 111 [some (.ref a0'), some (.ref a1'), some (.int a2'), some (.int a3'), some (.int a4'), some (.int a5'), some (.int a6')] [] τ (oV Q noX)) {a0 : Nat} {a1 : Nat} {a2 : Int32} {a3 : Int32} {a4 : Int32} {a5 : Int32} {a6 : Int32} {κ : zS} (W : zW C n0 κ) (Ta0 : zT κ a0 = 14) (Ta1 : zT κ a1 = 3) (F : w_We_weave_143 C n0 Q B77 B111 a0 a1 a2 a3 a4 a5 a6 κ) : zG C n0 2 mWe_weave 143 [some (.ref a0), some (.ref a1), some (.int a2), some (.int a3), some (.int a4), some (.int a5), some (.int a6)] [] κ (oV Q noX) := by
  unfold w_We_weave_143 at F
  refine y_aln dX11_weave_143 rfl ?_
  refine gf_X11_91 W dX11_weave_144 rfl Ta1 ?_
  refine y_il dX11_weave_147 rfl ?_
  refine y_ald dX11_weave_149 (ty_atSorts W Ta1) F.1 ?_
  replace F := F.2
  refine y_in ((zA κ (zR κ atSorts a1) (a6).toNatClampNeg) = (0 : Int32)) dX11_weave_150 (t := 190) rfl rfl (fun c9 => ?_) (fun c9 => ?_)
  · replace F := F.1 c9
    refine y_aln dX11_weave_190 rfl ?_
    refine gf_X11_27 W dX11_weave_191 rfl Ta0 ?_
    refine y_il dX11_weave_194 rfl ?_
    refine y_zld dX11_weave_196 (ty_weOpen W Ta0) F.1 ?_
    replace F := F.2
    refine y_in ((zA κ (zR κ weOpen a0) (a5).toNatClampNeg) = (0 : Int32)) dX11_weave_197 (t := 220) rfl rfl (fun c9 => ?_) (fun c9 => ?_)
    · replace F := F.1 c9
      refine y_incb dX11_weave_220 zi_1 rfl (Nat.le_of_ble_eq_true rfl) (fun v6_1 ev6_1 => ?_)
      replace F := F v6_1 ev6_1
      refine y_goto dX11_weave_223 (t := 111) rfl ?_
      exact y_k (hB111 _ _ _ _ _ _ _ _ W Ta0 Ta1 F) ⟨rfl, rfl, rfl, rfl, rfl, rfl, rfl, trivial⟩
    · replace F := F.2 c9
      refine y_aln dX11_weave_200 rfl ?_
      refine gf_X11_27 W dX11_weave_201 rfl Ta0 ?_
      refine y_il dX11_weave_204 rfl ?_
      refine y_ic dX11_weave_206 zi_1 ?_
      refine y_zst W dX11_weave_207 (ty_weOpen W Ta0) F.1 (fun κ2 eκ2 => ?_)
      replace F := F.2 κ2 eκ2
      have Wκ2 : zW C n0 κ2 := zW_ua W eκ2 (fun _ => nb_nr) (fun h => absurd (h.symm.trans (ty_weOpen W Ta0)) (by decide))
      have Mκ2 : zM (zn κ) κ κ2 := by rw [eκ2]; exact zM.of rfl rfl rfl
      replace F := F Wκ2
      refine y_aln dX11_weave_208 rfl ?_
      have h3 := (ztm W Mκ2 Ta0)
      refine gf_X11_52 Wκ2 dX11_weave_209 rfl h3 ?_
      refine y_il dX11_weave_212 rfl ?_
      refine y_il dX11_weave_214 rfl ?_
      refine y_ast Wκ2 dX11_weave_216 (ty_weHeap Wκ2 h3) F.1 (fun κ4 eκ4 => ?_)
      replace F := F.2 κ4 eκ4
      have Wκ4 : zW C n0 κ4 := zW_ua Wκ2 eκ4 (fun h => absurd (h.symm.trans (ty_weHeap Wκ2 h3)) (by decide)) (fun h => absurd (h.symm.trans (ty_weHeap Wκ2 h3)) (by decide))
      have Mκ4 : zM (zn κ2) κ2 κ4 := by rw [eκ4]; exact zM.of rfl rfl rfl
      replace F := F Wκ4
      refine y_incb dX11_weave_217 zi_1 rfl (Nat.le_of_ble_eq_true rfl) (fun v4_5 ev4_5 => ?_)
      replace F := F v4_5 ev4_5
      refine y_incb dX11_weave_220 zi_1 rfl (Nat.le_of_ble_eq_true rfl) (fun v6_6 ev6_6 => ?_)
      replace F := F v6_6 ev6_6
      refine y_goto dX11_weave_223 (t := 111) rfl ?_
      have h7 := (ztm Wκ2 Mκ4 h3)
      have h8 := (ztm Wκ2 Mκ4 (ztm W Mκ2 Ta1))
      exact y_k (hB111 _ _ _ _ _ _ _ _ Wκ4 h7 h8 F) ⟨rfl, rfl, rfl, rfl, rfl, rfl, rfl, trivial⟩
  · replace F := F.2 c9
    refine y_aln dX11_weave_153 rfl ?_
    refine gf_X11_15 W dX11_weave_154 rfl Ta0 ?_
    refine y_iln dX11_weave_157 rfl ?_
    refine y_aln dX11_weave_158 rfl ?_
    refine gf_X11_94 W dX11_weave_159 rfl Ta1 ?_
    refine y_il dX11_weave_162 rfl ?_
    refine y_ald dX11_weave_164 (ty_atNumbers W Ta1) F.1 ?_
    replace F := F.2
    refine y_ast W dX11_weave_165 (ty_weTargets W Ta0) F.1 (fun κ9 eκ9 => ?_)
    replace F := F.2 κ9 eκ9
    have Wκ9 : zW C n0 κ9 := zW_ua W eκ9 (fun h => absurd (h.symm.trans (ty_weTargets W Ta0)) (by decide)) (fun h => absurd (h.symm.trans (ty_weTargets W Ta0)) (by decide))
    have Mκ9 : zM (zn κ) κ κ9 := by rw [eκ9]; exact zM.of rfl rfl rfl
    replace F := F Wκ9
    refine y_incb dX11_weave_166 zi_1 rfl (Nat.le_of_ble_eq_true rfl) (fun v3_10 ev3_10 => ?_)
    replace F := F v3_10 ev3_10
    refine y_aln dX11_weave_169 rfl ?_
    have h11 := (ztm W Mκ9 Ta0)
    refine gf_X11_18 Wκ9 dX11_weave_170 rfl h11 ?_
    refine y_aln dX11_weave_173 rfl ?_
    have h12 := (ztm W Mκ9 Ta1)
    refine gf_X11_94 Wκ9 dX11_weave_174 rfl h12 ?_
    refine y_il dX11_weave_177 rfl ?_
    refine y_ald dX11_weave_179 (ty_atNumbers Wκ9 h12) F.1 ?_
    replace F := F.2
    refine y_ic dX11_weave_180 zi_1 ?_
    refine y_iadd dX11_weave_181 ?_
    refine y_dup2 dX11_weave_182 rfl rfl ?_
    refine y_ald dX11_weave_183 (ty_weBackFirsts Wκ9 h11) F.1 ?_
    replace F := F.2
    refine y_ic dX11_weave_184 zi_1 ?_
    refine y_iadd dX11_weave_185 ?_
    refine y_ast Wκ9 dX11_weave_186 (ty_weBackFirsts Wκ9 h11) F.1 (fun κ13 eκ13 => ?_)
    replace F := F.2 κ13 eκ13
    have Wκ13 : zW C n0 κ13 := zW_ua Wκ9 eκ13 (fun h => absurd (h.symm.trans (ty_weBackFirsts Wκ9 h11)) (by decide)) (fun h => absurd (h.symm.trans (ty_weBackFirsts Wκ9 h11)) (by decide))
    have Mκ13 : zM (zn κ9) κ9 κ13 := by rw [eκ13]; exact zM.of rfl rfl rfl
    replace F := F Wκ13
    refine y_goto dX11_weave_187 (t := 220) rfl ?_
    refine y_incb dX11_weave_220 zi_1 rfl (Nat.le_of_ble_eq_true rfl) (fun v6_14 ev6_14 => ?_)
    replace F := F v6_14 ev6_14
    refine y_goto dX11_weave_223 (t := 111) rfl ?_
    have h15 := (ztm Wκ9 Mκ13 h11)
    have h16 := (ztm Wκ9 Mκ13 h12)
    exact y_k (hB111 _ _ _ _ _ _ _ _ Wκ13 h15 h16 F) ⟨rfl, rfl, rfl, rfl, rfl, rfl, rfl, trivial⟩

def w_We_weave_111 (C : zC) (n0 : Nat) (Q : zS → Prop) (B77 : Nat → Nat → Int32 → Int32 → Int32 → Int32 → zS → Prop) (a0 : Nat) (a1 : Nat) (a2 : Int32) (a3 : Int32) (a4 : Int32) (a5 : Int32) (a6 : Int32) (κ : zS) : Prop :=
  ∃ I : Nat → Nat → Nat → Int32 → Int32 → Int32 → Int32 → Int32 → zS → Prop, (∃ n, I n a0 a1 a2 a3 a4 a5 a6 κ) ∧ ∀ n a0 a1 a2 a3 a4 a5 a6 κ, zW C n0 κ → zT κ a0 = 14 → zT κ a1 = 3 → I n a0 a1 a2 a3 a4 a5 a6 κ →
    inb (a5 + (1 : Int32)) (zN κ (zR κ atFirsts a1)) ∧
    ((zA κ (zR κ atFirsts a1) ((a5 + (1 : Int32))).toNatClampNeg) ≤ a6 →
      ∀ v5_1 : Int32, v5_1 = a5 + (1 : Int32) →
      B77 a0 a1 a2 a3 a4 v5_1 κ) ∧
    (¬ (zA κ (zR κ atFirsts a1) ((a5 + (1 : Int32))).toNatClampNeg) ≤ a6 →
      (a2 = (0 : Int32) →
        w_We_weave_143 C n0 Q B77 (fun a0' a1' a2' a3' a4' a5' a6' τ => ∃ k < n, I k a0' a1' a2' a3' a4' a5' a6' τ) a0 a1 a2 a3 a4 a5 a6 κ) ∧
      (¬ a2 = (0 : Int32) →
        ∀ _ : zT κ a1 = 3,
        zRun C 0 mAt_isTaken [.ref a1, .int a5, .int a6] κ (oI (fun r3 κ2 =>
          ∀ _ : zW C n0 κ2,
          ∀ _ : zM (zn κ) κ κ2,
          (¬ r3 = (0 : Int32) →
            w_We_weave_143 C n0 Q B77 (fun a0' a1' a2' a3' a4' a5' a6' τ => ∃ k < n, I k a0' a1' a2' a3' a4' a5' a6' τ) a0 a1 a2 a3 a4 a5 a6 κ2) ∧
          (r3 = (0 : Int32) →
            ∀ v6_7 : Int32, v6_7 = a6 + (1 : Int32) →
            ∃ k < n, I k a0 a1 a2 a3 a4 a5 v6_7 κ2)) noX)))
theorem t_We_weave_111 {C : zC} {n0 : Nat} {Q : zS → Prop} {B77 : Nat → Nat → Int32 → Int32 → Int32 → Int32 → zS → Prop} (hB77 : ∀ a0' a1' a2' a3' a4' a5' τ, zW C n0 τ → zT τ a0' = 14 → zT τ a1' = 3 → B77 a0' a1' a2' a3' a4' a5' τ → zG C n0 2 mWe_weave 77 [some (.ref a0'), some (.ref a1'), some (.int a2'), some (.int a3'), some (.int a4'), some (.int a5'), none] [] τ (oV Q noX)) {a0 : Nat} {a1 : Nat} {a2 : Int32} {a3 : Int32} {a4 : Int32} {a5 : Int32} {a6 : Int32} {κ : zS} (W : zW C n0 κ) (Ta0 : zT κ a0 = 14) (Ta1 : zT κ a1 = 3) (F : w_We_weave_111 C n0 Q B77 a0 a1 a2 a3 a4 a5 a6 κ) : zG C n0 2 mWe_weave 111 [some (.ref a0), some (.ref a1), some (.int a2), some (.int a3), some (.int a4), some (.int a5), some (.int a6)] [] κ (oV Q noX) := by
  obtain ⟨I, ⟨m0, hI0⟩, F0⟩ := F
  have key : ∀ n a0 a1 a2 a3 a4 a5 a6 κ, zW C n0 κ → zT κ a0 = 14 → zT κ a1 = 3 → I n a0 a1 a2 a3 a4 a5 a6 κ → zG C n0 2 mWe_weave 111 [some (.ref a0), some (.ref a1), some (.int a2), some (.int a3), some (.int a4), some (.int a5), some (.int a6)] [] κ (oV Q noX) := by
    intro n
    induction n using Nat.strongRecOn with
    | _ n ih =>
      intro a0 a1 a2 a3 a4 a5 a6 κ W Ta0 Ta1 hI
      have F := F0 n a0 a1 a2 a3 a4 a5 a6 κ W Ta0 Ta1 hI
      clear hI hI0
      refine y_il dX11_weave_111 rfl ?_
      refine y_aln dX11_weave_113 rfl ?_
      refine gf_X11_86 W dX11_weave_114 rfl Ta1 ?_
      refine y_il dX11_weave_117 rfl ?_
      refine y_ic dX11_weave_119 zi_1 ?_
      refine y_iadd dX11_weave_120 ?_
      refine y_ald dX11_weave_121 (ty_atFirsts W Ta1) F.1 ?_
      replace F := F.2
      refine y_ii ((zA κ (zR κ atFirsts a1) ((a5 + (1 : Int32))).toNatClampNeg) ≤ a6) dX11_weave_122 (t := 226) rfl rfl (fun c9 => ?_) (fun c9 => ?_)
      · replace F := F.1 c9
        refine y_incb dX11_weave_226 zi_1 rfl (Nat.le_of_ble_eq_true rfl) (fun v5_1 ev5_1 => ?_)
        replace F := F v5_1 ev5_1
        refine y_goto dX11_weave_229 (t := 77) rfl ?_
        exact y_k (hB77 _ _ _ _ _ _ _ W Ta0 Ta1 F) ⟨rfl, rfl, rfl, rfl, rfl, rfl, trivial⟩
      · replace F := F.2 c9
        refine y_iln dX11_weave_125 rfl ?_
        refine y_i (a2 = (0 : Int32)) dX11_weave_126 (t := 143) rfl rfl (fun c9 => ?_) (fun c9 => ?_)
        · replace F := F.1 c9
          exact y_k (t_We_weave_143 hB77 (fun a0' a1' a2' a3' a4' a5' a6' τ w9 f09 f19 hb => by obtain ⟨k, hk, hI⟩ := hb; exact ih k hk a0' a1' a2' a3' a4' a5' a6' τ w9 f09 f19 hI) W Ta0 Ta1 F) ⟨rfl, rfl, rfl, rfl, rfl, rfl, rfl, trivial⟩
        · replace F := F.2 c9
          refine y_aln dX11_weave_129 rfl ?_
          refine y_il dX11_weave_130 rfl ?_
          refine y_il dX11_weave_132 rfl ?_
          replace F := F Ta1
          refine k_X11_87 W dX11_weave_134 rfl (Nat.le_of_ble_eq_true rfl) (Nat.le_of_ble_eq_true rfl) (Or.inl Ta1) F (fun r3 κ2 Wκ2 Mκ2 F => ?_) (fun _ _ h9 => False.elim h9)
          replace F := F Wκ2 Mκ2
          refine y_in (r3 = (0 : Int32)) dX11_weave_137 (t := 143) rfl rfl (fun c9 => ?_) (fun c9 => ?_)
          · replace F := F.1 c9
            have h5 := (ztm W Mκ2 Ta0)
            have h6 := (ztm W Mκ2 Ta1)
            exact y_k (t_We_weave_143 hB77 (fun a0' a1' a2' a3' a4' a5' a6' τ w9 f09 f19 hb => by obtain ⟨k, hk, hI⟩ := hb; exact ih k hk a0' a1' a2' a3' a4' a5' a6' τ w9 f09 f19 hI) Wκ2 h5 h6 F) ⟨rfl, rfl, rfl, rfl, rfl, rfl, rfl, trivial⟩
          · replace F := F.2 c9
            refine y_goto dX11_weave_140 (t := 220) rfl ?_
            refine y_incb dX11_weave_220 zi_1 rfl (Nat.le_of_ble_eq_true rfl) (fun v6_7 ev6_7 => ?_)
            replace F := F v6_7 ev6_7
            refine y_goto dX11_weave_223 (t := 111) rfl ?_
            have h8 := (ztm W Mκ2 Ta0)
            have h9 := (ztm W Mκ2 Ta1)
            obtain ⟨k, hk, hI⟩ := F
            exact y_k (ih k hk _ _ _ _ _ _ _ _ Wκ2 h8 h9 hI) ⟨rfl, rfl, rfl, rfl, rfl, rfl, rfl, trivial⟩
  exact key m0 a0 a1 a2 a3 a4 a5 a6 κ W Ta0 Ta1 hI0

def w_We_weave_77 (C : zC) (n0 : Nat) (Q : zS → Prop)  (a0 : Nat) (a1 : Nat) (a2 : Int32) (a3 : Int32) (a4 : Int32) (a5 : Int32) (κ : zS) : Prop :=
  ∃ I : Nat → Nat → Nat → Int32 → Int32 → Int32 → Int32 → zS → Prop, (∃ n, I n a0 a1 a2 a3 a4 a5 κ) ∧ ∀ n a0 a1 a2 a3 a4 a5 κ, zW C n0 κ → zT κ a0 = 14 → zT κ a1 = 3 → I n a0 a1 a2 a3 a4 a5 κ →
    ((zI κ weTotal a0) ≤ a5 →
      inb (zI κ weTotal a0) (zN κ (zR κ weFirsts a0)) ∧
      ∀ κ1, κ1 = ua κ (zR κ weFirsts a0) ((zI κ weTotal a0)).toNatClampNeg a3 →
      ∀ _ : zW C n0 κ1,
      ∀ _ : zT κ1 a0 = 14,
      ∀ _ : zT κ1 a1 = 3,
      zRun C 1 mWe_weaveBack [.ref a0, .ref a1, .int a2] κ1 (oV (fun κ2 =>
        ∀ _ : zW C n0 κ2,
        ∀ _ : zM (zn κ1) κ1 κ2,
        ∀ _ : zT κ2 a0 = 14,
        zRun C 0 mWe_reach [.ref a0, .int a4] κ2 (oV (fun κ7 =>
          ∀ _ : zW C n0 κ7,
          ∀ _ : zM (zn κ2) κ2 κ7,
          Q κ7) noX)) noX)) ∧
    (¬ (zI κ weTotal a0) ≤ a5 →
      inb a5 (zN κ (zR κ weFirsts a0)) ∧
      ∀ κ11, κ11 = ua κ (zR κ weFirsts a0) (a5).toNatClampNeg a3 →
      ∀ _ : zW C n0 κ11,
      inb a5 (zN κ11 (zR κ11 weOpen a0)) ∧
      ∀ κ13, κ13 = ua κ11 (zR κ11 weOpen a0) (a5).toNatClampNeg (vp_nar .boolean (0 : Int32)) →
      ∀ _ : zW C n0 κ13,
      inb a5 (zN κ13 (zR κ13 atFirsts a1)) ∧
      ∀ v6_15 : Int32, v6_15 = (zA κ13 (zR κ13 atFirsts a1) (a5).toNatClampNeg) →
      w_We_weave_111 C n0 Q (fun a0' a1' a2' a3' a4' a5' τ => ∃ k < n, I k a0' a1' a2' a3' a4' a5' τ) a0 a1 a2 a3 a4 a5 v6_15 κ13)
theorem t_We_weave_77 {C : zC} {n0 : Nat} {Q : zS → Prop}   {a0 : Nat} {a1 : Nat} {a2 : Int32} {a3 : Int32} {a4 : Int32} {a5 : Int32} {κ : zS} (W : zW C n0 κ) (Ta0 : zT κ a0 = 14) (Ta1 : zT κ a1 = 3) (F : w_We_weave_77 C n0 Q  a0 a1 a2 a3 a4 a5 κ) : zG C n0 2 mWe_weave 77 [some (.ref a0), some (.ref a1), some (.int a2), some (.int a3), some (.int a4), some (.int a5), none] [] κ (oV Q noX) := by
  obtain ⟨I, ⟨m0, hI0⟩, F0⟩ := F
  have key : ∀ n a0 a1 a2 a3 a4 a5 κ, zW C n0 κ → zT κ a0 = 14 → zT κ a1 = 3 → I n a0 a1 a2 a3 a4 a5 κ → zG C n0 2 mWe_weave 77 [some (.ref a0), some (.ref a1), some (.int a2), some (.int a3), some (.int a4), some (.int a5), none] [] κ (oV Q noX) := by
    intro n
    induction n using Nat.strongRecOn with
    | _ n ih =>
      intro a0 a1 a2 a3 a4 a5 κ W Ta0 Ta1 hI
      have F := F0 n a0 a1 a2 a3 a4 a5 κ W Ta0 Ta1 hI
      clear hI hI0
      refine y_il dX11_weave_77 rfl ?_
      refine y_aln dX11_weave_79 rfl ?_
      refine gf_X11_70 dX11_weave_80 rfl (Or.inl Ta0) ?_
      refine y_ii ((zI κ weTotal a0) ≤ a5) dX11_weave_83 (t := 232) rfl rfl (fun c9 => ?_) (fun c9 => ?_)
      · replace F := F.1 c9
        refine y_aln dX11_weave_232 rfl ?_
        refine gf_X11_9 W dX11_weave_233 rfl Ta0 ?_
        refine y_aln dX11_weave_236 rfl ?_
        refine gf_X11_70 dX11_weave_237 rfl (Or.inl Ta0) ?_
        refine y_iln dX11_weave_240 rfl ?_
        refine y_ast W dX11_weave_241 (ty_weFirsts W Ta0) F.1 (fun κ1 eκ1 => ?_)
        replace F := F.2 κ1 eκ1
        have Wκ1 : zW C n0 κ1 := zW_ua W eκ1 (fun h => absurd (h.symm.trans (ty_weFirsts W Ta0)) (by decide)) (fun h => absurd (h.symm.trans (ty_weFirsts W Ta0)) (by decide))
        have Mκ1 : zM (zn κ) κ κ1 := by rw [eκ1]; exact zM.of rfl rfl rfl
        replace F := F Wκ1
        refine y_aln dX11_weave_242 rfl ?_
        refine y_aln dX11_weave_243 rfl ?_
        refine y_iln dX11_weave_244 rfl ?_
        have h4 := (ztm W Mκ1 Ta0)
        replace F := F h4
        have h5 := (ztm W Mκ1 Ta1)
        replace F := F h5
        refine k_X11_97 Wκ1 dX11_weave_245 rfl (Nat.le_of_ble_eq_true rfl) (Nat.le_of_ble_eq_true rfl) (Or.inl h4) F (fun  κ2 Wκ2 Mκ2 F => ?_) (fun _ _ h9 => False.elim h9)
        replace F := F Wκ2 Mκ2
        refine y_aln dX11_weave_248 rfl ?_
        refine y_il dX11_weave_249 rfl ?_
        have h9 := (ztm Wκ1 Mκ2 h4)
        replace F := F h9
        refine k_X11_101 Wκ2 dX11_weave_251 rfl (Nat.le_of_ble_eq_true rfl) (Nat.le_of_ble_eq_true rfl) (Or.inl h9) F (fun  κ7 Wκ7 Mκ7 F => ?_) (fun _ _ h9 => False.elim h9)
        replace F := F Wκ7 Mκ7
        exact y_rv Wκ7 dX11_weave_254 rfl F
      · replace F := F.2 c9
        refine y_aln dX11_weave_86 rfl ?_
        refine gf_X11_9 W dX11_weave_87 rfl Ta0 ?_
        refine y_il dX11_weave_90 rfl ?_
        refine y_iln dX11_weave_92 rfl ?_
        refine y_ast W dX11_weave_93 (ty_weFirsts W Ta0) F.1 (fun κ11 eκ11 => ?_)
        replace F := F.2 κ11 eκ11
        have Wκ11 : zW C n0 κ11 := zW_ua W eκ11 (fun h => absurd (h.symm.trans (ty_weFirsts W Ta0)) (by decide)) (fun h => absurd (h.symm.trans (ty_weFirsts W Ta0)) (by decide))
        have Mκ11 : zM (zn κ) κ κ11 := by rw [eκ11]; exact zM.of rfl rfl rfl
        replace F := F Wκ11
        refine y_aln dX11_weave_94 rfl ?_
        have h12 := (ztm W Mκ11 Ta0)
        refine gf_X11_27 Wκ11 dX11_weave_95 rfl h12 ?_
        refine y_il dX11_weave_98 rfl ?_
        refine y_ic dX11_weave_100 zi_0 ?_
        refine y_zst Wκ11 dX11_weave_101 (ty_weOpen Wκ11 h12) F.1 (fun κ13 eκ13 => ?_)
        replace F := F.2 κ13 eκ13
        have Wκ13 : zW C n0 κ13 := zW_ua Wκ11 eκ13 (fun _ => nb_nr) (fun h => absurd (h.symm.trans (ty_weOpen Wκ11 h12)) (by decide))
        have Mκ13 : zM (zn κ11) κ11 κ13 := by rw [eκ13]; exact zM.of rfl rfl rfl
        replace F := F Wκ13
        refine y_aln dX11_weave_102 rfl ?_
        have h14 := (ztm Wκ11 Mκ13 (ztm W Mκ11 Ta1))
        refine gf_X11_86 Wκ13 dX11_weave_103 rfl h14 ?_
        refine y_il dX11_weave_106 rfl ?_
        refine y_ald dX11_weave_108 (ty_atFirsts Wκ13 h14) F.1 ?_
        replace F := F.2
        refine y_isb dX11_weave_109 (Nat.le_of_ble_eq_true rfl) (fun v6_15 ev6_15 => ?_)
        replace F := F v6_15 ev6_15
        have h16 := (ztm Wκ11 Mκ13 h12)
        exact y_k (t_We_weave_111 (fun a0' a1' a2' a3' a4' a5' τ w9 f09 f19 hb => by obtain ⟨k, hk, hI⟩ := hb; exact ih k hk a0' a1' a2' a3' a4' a5' τ w9 f09 f19 hI) Wκ13 h16 h14 F) ⟨rfl, rfl, rfl, rfl, rfl, rfl, rfl, trivial⟩
  exact key m0 a0 a1 a2 a3 a4 a5 κ W Ta0 Ta1 hI0

def w_We_weave_61 (C : zC) (n0 : Nat) (Q : zS → Prop)  (a0 : Nat) (a1 : Nat) (a2 : Int32) (κ : zS) : Prop :=
  ∀ _ : zT κ (zR κ weBackFirsts a0) = 20,
  zRun C 0 mAr_fill [.ref (zR κ weBackFirsts a0), .int (0 : Int32)] κ (oV (fun κ1 =>
    ∀ _ : zW C n0 κ1,
    ∀ _ : zM (zn κ) κ κ1,
    w_We_weave_77 C n0 Q  a0 a1 a2 (0 : Int32) (0 : Int32) (0 : Int32) κ1) noX)
theorem t_We_weave_61 {C : zC} {n0 : Nat} {Q : zS → Prop}   {a0 : Nat} {a1 : Nat} {a2 : Int32} {κ : zS} (W : zW C n0 κ) (Ta0 : zT κ a0 = 14) (Ta1 : zT κ a1 = 3) (F : w_We_weave_61 C n0 Q  a0 a1 a2 κ) : zG C n0 2 mWe_weave 61 [some (.ref a0), some (.ref a1), some (.int a2), none, none, none, none] [] κ (oV Q noX) := by
  unfold w_We_weave_61 at F
  refine y_aln dX11_weave_61 rfl ?_
  refine gf_X11_18 W dX11_weave_62 rfl Ta0 ?_
  refine y_ic dX11_weave_65 zi_0 ?_
  replace F := F (ty_weBackFirsts W Ta0)
  refine k_X11_80 W dX11_weave_66 rfl (Nat.le_of_ble_eq_true rfl) (Nat.le_of_ble_eq_true rfl)  F (fun  κ1 Wκ1 Mκ1 F => ?_) (fun _ _ h9 => False.elim h9)
  replace F := F Wκ1 Mκ1
  refine y_ic dX11_weave_69 zi_0 ?_
  refine y_isn dX11_weave_70 (Nat.le_of_ble_eq_true rfl) rfl ?_
  refine y_ic dX11_weave_71 zi_0 ?_
  refine y_is dX11_weave_72 (Nat.le_of_ble_eq_true rfl) rfl ?_
  refine y_ic dX11_weave_74 zi_0 ?_
  refine y_is dX11_weave_75 (Nat.le_of_ble_eq_true rfl) rfl ?_
  have h4 := (ztm W Mκ1 Ta0)
  have h5 := (ztm W Mκ1 Ta1)
  exact y_k (t_We_weave_77  Wκ1 h4 h5 F) ⟨rfl, rfl, rfl, rfl, rfl, rfl, trivial⟩

def w_We_weave_0 (C : zC) (n0 : Nat) (Q : zS → Prop)  (a0 : Nat) (a1 : Nat) (a2 : Int32) (κ : zS) : Prop :=
  ∀ _ : zT κ a0 = 14,
  zRun C 0 mWe_makeRows [.ref a0] κ (oV (fun κ1 =>
    ∀ _ : zW C n0 κ1,
    ∀ _ : zM (zn κ) κ κ1,
    ∀ κ5, κ5 = ui κ1 weTotal a0 (zI κ1 hoTotal (zR κ1 atStates a1)) →
    ∀ _ : zW C n0 κ5,
    ((zI κ5 atNexts a1) ≤ (Int32.ofNat (zN κ5 (zR κ5 weTargets a0))) →
      w_We_weave_61 C n0 Q  a0 a1 a2 κ5) ∧
    (¬ (zI κ5 atNexts a1) ≤ (Int32.ofNat (zN κ5 (zR κ5 weTargets a0))) →
      ∀ v3_9 : Int32, v3_9 = (if (20000 : Int32) < ((zI κ5 atNexts a1) * (2 : Int32)) then (20000 : Int32) else ((zI κ5 atNexts a1) * (2 : Int32))) →
      nsz v3_9 ∧
      ∀ κ10, κ10 = na κ5 20 (v3_9).toNatClampNeg →
      ∀ _ : zW C n0 κ10,
      zO κ10 (zn κ5) = (0, 0) ∧
      ∀ κ13, κ13 = uo κ10 weTargets a0 (zn κ5) →
      ∀ _ : zW C n0 κ13,
      nsz v3_9 ∧
      ∀ κ16, κ16 = na κ13 20 (v3_9).toNatClampNeg →
      ∀ _ : zW C n0 κ16,
      zO κ16 (zn κ13) = (0, 0) ∧
      ∀ κ19, κ19 = uo κ16 weSources a0 (zn κ13) →
      ∀ _ : zW C n0 κ19,
      nsz v3_9 ∧
      ∀ κ22, κ22 = na κ19 20 (v3_9).toNatClampNeg →
      ∀ _ : zW C n0 κ22,
      zO κ22 (zn κ19) = (0, 0) ∧
      ∀ κ25, κ25 = uo κ22 weEdges a0 (zn κ19) →
      ∀ _ : zW C n0 κ25,
      w_We_weave_61 C n0 Q  a0 a1 a2 κ25)) noX)
theorem t_We_weave_0 {C : zC} {n0 : Nat} {Q : zS → Prop}   {a0 : Nat} {a1 : Nat} {a2 : Int32} {κ : zS} (W : zW C n0 κ) (Ta0 : zT κ a0 = 14) (Ta1 : zT κ a1 = 3) (F : w_We_weave_0 C n0 Q  a0 a1 a2 κ) : zG C n0 2 mWe_weave 0 [some (.ref a0), some (.ref a1), some (.int a2), none, none, none, none] [] κ (oV Q noX) := by
  unfold w_We_weave_0 at F
  refine y_aln dX11_weave_0 rfl ?_
  replace F := F Ta0
  refine k_X11_55 W dX11_weave_1 rfl (Nat.le_of_ble_eq_true rfl) (Nat.le_of_ble_eq_true rfl) (Or.inl Ta0) F (fun  κ1 Wκ1 Mκ1 F => ?_) (fun _ _ h9 => False.elim h9)
  replace F := F Wκ1 Mκ1
  refine y_aln dX11_weave_4 rfl ?_
  refine y_aln dX11_weave_5 rfl ?_
  have h4 := (ztm W Mκ1 Ta1)
  refine gf_X11_58 Wκ1 dX11_weave_6 rfl h4 ?_
  refine gf_X11_64 dX11_weave_9 rfl (Or.inl (ty_atStates Wκ1 h4)) ?_
  have h6 := (ztm W Mκ1 Ta0)
  refine pf_X11_70 Wκ1 dX11_weave_12 rfl (Or.inl h6) (fun κ5 eκ5 => ?_)
  replace F := F κ5 eκ5
  have Wκ5 : zW C n0 κ5 := zW_ui Wκ1 eκ5 (fun h => absurd h (by decide))
  have Mκ5 : zM (zn κ1) κ1 κ5 := by rw [eκ5]; exact zM.of rfl rfl rfl
  replace F := F Wκ5
  refine y_aln dX11_weave_15 rfl ?_
  have h7 := (ztm Wκ1 Mκ5 h6)
  refine gf_X11_15 Wκ5 dX11_weave_16 rfl h7 ?_
  refine y_alen (t := 0) dX11_weave_19 (ty_weTargets Wκ5 h7) (by decide) ?_
  refine y_aln dX11_weave_20 rfl ?_
  have h8 := (ztm Wκ1 Mκ5 h4)
  refine gf_X11_71 dX11_weave_21 rfl (Or.inl h8) ?_
  refine y_ii ((zI κ5 atNexts a1) ≤ (Int32.ofNat (zN κ5 (zR κ5 weTargets a0)))) dX11_weave_24 (t := 61) rfl rfl (fun c9 => ?_) (fun c9 => ?_)
  · replace F := F.1 c9
    exact y_k (t_We_weave_61  Wκ5 h7 h8 F) ⟨rfl, rfl, rfl, trivial⟩
  · replace F := F.2 c9
    refine y_aln dX11_weave_27 rfl ?_
    refine gf_X11_71 dX11_weave_28 rfl (Or.inl h8) ?_
    refine y_ic dX11_weave_31 zi_2 ?_
    refine y_imul dX11_weave_32 ?_
    refine y_si dX11_weave_33 zs_20000 ?_
    refine y_min dX11_weave_36 rfl zbi_X11_74 (Nat.le_of_ble_eq_true rfl) (Nat.le_of_ble_eq_true rfl) ?_
    refine y_isnb dX11_weave_39 (Nat.le_of_ble_eq_true rfl) (fun v3_9 ev3_9 => ?_)
    replace F := F v3_9 ev3_9
    refine y_aln dX11_weave_40 rfl ?_
    refine y_iln dX11_weave_41 rfl ?_
    have b11 := F.1
    refine y_newa (t := 0) Wκ5 dX11_weave_42 (by decide) b11 (fun κ10 eκ10 => ?_)
    replace F := F.2 κ10 eκ10
    have Wκ10 : zW C n0 κ10 := zW_na Wκ5 eκ10 (by decide) (by decide) b11.2
    have Mκ10 : zM (zn κ5) κ5 κ10 := zM_na (Wκ5.lo (Nat.le_trans Wκ5.1.2.1 Wκ5.1.2.2) (Nat.le_refl _)) eκ10
    replace F := F Wκ10
    have g12 : zT κ10 (zn κ5) = 20 := by rw [eκ10]; exact if_pos rfl
    have b14 := F.1
    replace F := F.2
    have h15 := (ztm Wκ5 Mκ10 h7)
    refine pf_X11_15 Wκ10 dX11_weave_44 rfl (Or.inl h15) g12 (fun κ13 eκ13 => ?_)
    replace F := F κ13 eκ13
    have Wκ13 : zW C n0 κ13 := zW_uo Wκ10 eκ13 (fun t ht => by cases ht; exact g12) b14
    have Mκ13 : zM (zn κ10) κ10 κ13 := by rw [eκ13]; exact zM.of rfl rfl rfl
    replace F := F Wκ13
    refine y_aln dX11_weave_47 rfl ?_
    refine y_iln dX11_weave_48 rfl ?_
    have b17 := F.1
    refine y_newa (t := 0) Wκ13 dX11_weave_49 (by decide) b17 (fun κ16 eκ16 => ?_)
    replace F := F.2 κ16 eκ16
    have Wκ16 : zW C n0 κ16 := zW_na Wκ13 eκ16 (by decide) (by decide) b17.2
    have Mκ16 : zM (zn κ13) κ13 κ16 := zM_na (Wκ13.lo (Nat.le_trans Wκ13.1.2.1 Wκ13.1.2.2) (Nat.le_refl _)) eκ16
    replace F := F Wκ16
    have g18 : zT κ16 (zn κ13) = 20 := by rw [eκ16]; exact if_pos rfl
    have b20 := F.1
    replace F := F.2
    have h21 := (ztm Wκ13 Mκ16 (ztm Wκ10 Mκ13 h15))
    refine pf_X11_21 Wκ16 dX11_weave_51 rfl (Or.inl h21) g18 (fun κ19 eκ19 => ?_)
    replace F := F κ19 eκ19
    have Wκ19 : zW C n0 κ19 := zW_uo Wκ16 eκ19 (fun t ht => by cases ht; exact g18) b20
    have Mκ19 : zM (zn κ16) κ16 κ19 := by rw [eκ19]; exact zM.of rfl rfl rfl
    replace F := F Wκ19
    refine y_aln dX11_weave_54 rfl ?_
    refine y_iln dX11_weave_55 rfl ?_
    have b23 := F.1
    refine y_newa (t := 0) Wκ19 dX11_weave_56 (by decide) b23 (fun κ22 eκ22 => ?_)
    replace F := F.2 κ22 eκ22
    have Wκ22 : zW C n0 κ22 := zW_na Wκ19 eκ22 (by decide) (by decide) b23.2
    have Mκ22 : zM (zn κ19) κ19 κ22 := zM_na (Wκ19.lo (Nat.le_trans Wκ19.1.2.1 Wκ19.1.2.2) (Nat.le_refl _)) eκ22
    replace F := F Wκ22
    have g24 : zT κ22 (zn κ19) = 20 := by rw [eκ22]; exact if_pos rfl
    have b26 := F.1
    replace F := F.2
    have h27 := (ztm Wκ19 Mκ22 (ztm Wκ16 Mκ19 h21))
    refine pf_X11_24 Wκ22 dX11_weave_58 rfl (Or.inl h27) g24 (fun κ25 eκ25 => ?_)
    replace F := F κ25 eκ25
    have Wκ25 : zW C n0 κ25 := zW_uo Wκ22 eκ25 (fun t ht => by cases ht; exact g24) b26
    have Mκ25 : zM (zn κ22) κ22 κ25 := by rw [eκ25]; exact zM.of rfl rfl rfl
    replace F := F Wκ25
    have h28 := (ztm Wκ22 Mκ25 h27)
    have h29 := (ztm Wκ22 Mκ25 (ztm Wκ19 Mκ22 (ztm Wκ16 Mκ19 (ztm Wκ13 Mκ16 (ztm Wκ10 Mκ13 (ztm Wκ5 Mκ10 h8))))))
    exact y_k (t_We_weave_61  Wκ25 h28 h29 F) ⟨rfl, rfl, rfl, trivial⟩

theorem We_weave_run {C : zC} {n0 : Nat} {Q : zS → Prop} {a0 : Nat} {a1 : Nat} {a2 : Int32} {κ : zS} (W : zW C n0 κ) (Ta0 : zT κ a0 = 14) (Ta1 : zT κ a1 = 3) (F : w_We_weave_0 C (zn κ) Q a0 a1 a2 κ) : zRun C 2 mWe_weave [.ref a0, .ref a1, .int a2] κ (oV Q noX) := z_run (m_ent _ 4) (t_We_weave_0 (W.lo (Nat.le_trans W.1.2.1 W.1.2.2) (Nat.le_refl _)) Ta0 Ta1 F)

