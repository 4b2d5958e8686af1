/-! methods of the class: Od_makeRows, Od_comesToEnd, Od_markEndings, Od_group, Od_tableOf, Od_rankOf, Od_placeTables, Od_linkCells, Od_arrange -/
theorem dX6_makeRows_0 : decode cX6_makeRows 0 = .ok (.aload_n 0, 1) := by decide +kernel
theorem dX6_makeRows_1 : decode cX6_makeRows 1 = .ok (.getfield 45, 3) := by decide +kernel
theorem dX6_makeRows_4 : decode cX6_makeRows 4 = .ok (.arraylength, 1) := by decide +kernel
theorem dX6_makeRows_5 : decode cX6_makeRows 5 = .ok (.ifCond .ne 66, 3) := by decide +kernel
theorem dX6_makeRows_8 : decode cX6_makeRows 8 = .ok (.aload_n 0, 1) := by decide +kernel
theorem dX6_makeRows_9 : decode cX6_makeRows 9 = .ok (.sipush 3000, 3) := by decide +kernel
theorem dX6_makeRows_12 : decode cX6_makeRows 12 = .ok (.newarray .int, 2) := by decide +kernel
theorem dX6_makeRows_14 : decode cX6_makeRows 14 = .ok (.putfield 45, 3) := by decide +kernel
theorem dX6_makeRows_17 : decode cX6_makeRows 17 = .ok (.aload_n 0, 1) := by decide +kernel
theorem dX6_makeRows_18 : decode cX6_makeRows 18 = .ok (.sipush 3000, 3) := by decide +kernel
theorem dX6_makeRows_21 : decode cX6_makeRows 21 = .ok (.newarray .int, 2) := by decide +kernel
theorem dX6_makeRows_23 : decode cX6_makeRows 23 = .ok (.putfield 48, 3) := by decide +kernel
theorem dX6_makeRows_26 : decode cX6_makeRows 26 = .ok (.aload_n 0, 1) := by decide +kernel
theorem dX6_makeRows_27 : decode cX6_makeRows 27 = .ok (.sipush 3000, 3) := by decide +kernel
theorem dX6_makeRows_30 : decode cX6_makeRows 30 = .ok (.newarray .int, 2) := by decide +kernel
theorem dX6_makeRows_32 : decode cX6_makeRows 32 = .ok (.putfield 51, 3) := by decide +kernel
theorem dX6_makeRows_35 : decode cX6_makeRows 35 = .ok (.aload_n 0, 1) := by decide +kernel
theorem dX6_makeRows_36 : decode cX6_makeRows 36 = .ok (.sipush 3000, 3) := by decide +kernel
theorem dX6_makeRows_39 : decode cX6_makeRows 39 = .ok (.newarray .int, 2) := by decide +kernel
theorem dX6_makeRows_41 : decode cX6_makeRows 41 = .ok (.putfield 54, 3) := by decide +kernel
theorem dX6_makeRows_44 : decode cX6_makeRows 44 = .ok (.aload_n 0, 1) := by decide +kernel
theorem dX6_makeRows_45 : decode cX6_makeRows 45 = .ok (.sipush 1000, 3) := by decide +kernel
theorem dX6_makeRows_48 : decode cX6_makeRows 48 = .ok (.newarray .int, 2) := by decide +kernel
theorem dX6_makeRows_50 : decode cX6_makeRows 50 = .ok (.putfield 57, 3) := by decide +kernel
theorem dX6_makeRows_53 : decode cX6_makeRows 53 = .ok (.aload_n 0, 1) := by decide +kernel
theorem dX6_makeRows_54 : decode cX6_makeRows 54 = .ok (.sipush 1000, 3) := by decide +kernel
theorem dX6_makeRows_57 : decode cX6_makeRows 57 = .ok (.newarray .int, 2) := by decide +kernel
theorem dX6_makeRows_59 : decode cX6_makeRows 59 = .ok (.putfield 60, 3) := by decide +kernel
theorem dX6_makeRows_62 : decode cX6_makeRows 62 = .ok (.aload_n 0, 1) := by decide +kernel
theorem dX6_makeRows_63 : decode cX6_makeRows 63 = .ok (.bipush 31, 2) := by decide +kernel
theorem dX6_makeRows_65 : decode cX6_makeRows 65 = .ok (.anewarray 23, 3) := by decide +kernel
theorem dX6_makeRows_68 : decode cX6_makeRows 68 = .ok (.putfield 66, 3) := by decide +kernel
theorem dX6_makeRows_71 : decode cX6_makeRows 71 = .ok (.aload_n 0, 1) := by decide +kernel
theorem dX6_makeRows_72 : decode cX6_makeRows 72 = .ok (.getfield 63, 3) := by decide +kernel
theorem dX6_makeRows_75 : decode cX6_makeRows 75 = .ok (.arraylength, 1) := by decide +kernel
theorem dX6_makeRows_76 : decode cX6_makeRows 76 = .ok (.aload_n 0, 1) := by decide +kernel
theorem dX6_makeRows_77 : decode cX6_makeRows 77 = .ok (.getfield 9, 3) := by decide +kernel
theorem dX6_makeRows_80 : decode cX6_makeRows 80 = .ok (.getfield 180, 3) := by decide +kernel
theorem dX6_makeRows_83 : decode cX6_makeRows 83 = .ok (.if_icmp .ge 24, 3) := by decide +kernel
theorem dX6_makeRows_86 : decode cX6_makeRows 86 = .ok (.aload_n 0, 1) := by decide +kernel
theorem dX6_makeRows_87 : decode cX6_makeRows 87 = .ok (.iconst 2, 1) := by decide +kernel
theorem dX6_makeRows_88 : decode cX6_makeRows 88 = .ok (.aload_n 0, 1) := by decide +kernel
theorem dX6_makeRows_89 : decode cX6_makeRows 89 = .ok (.getfield 9, 3) := by decide +kernel
theorem dX6_makeRows_92 : decode cX6_makeRows 92 = .ok (.getfield 180, 3) := by decide +kernel
theorem dX6_makeRows_95 : decode cX6_makeRows 95 = .ok (.imul, 1) := by decide +kernel
theorem dX6_makeRows_96 : decode cX6_makeRows 96 = .ok (.sipush 20000, 3) := by decide +kernel
theorem dX6_makeRows_99 : decode cX6_makeRows 99 = .ok (.invokestatic 183, 3) := by decide +kernel
theorem dX6_makeRows_102 : decode cX6_makeRows 102 = .ok (.newarray .int, 2) := by decide +kernel
theorem dX6_makeRows_104 : decode cX6_makeRows 104 = .ok (.putfield 63, 3) := by decide +kernel
theorem dX6_makeRows_107 : decode cX6_makeRows 107 = .ok (.return_, 1) := by decide +kernel
def w_Od_makeRows_71 (C : zC) (n0 : Nat) (Q : zS → Prop)  (a0 : Nat) (κ : zS) : Prop :=
  ((zI κ atNexts (zR κ odAtlas a0)) ≤ (Int32.ofNat (zN κ (zR κ odLinks a0))) →
    Q κ) ∧
  (¬ (zI κ atNexts (zR κ odAtlas a0)) ≤ (Int32.ofNat (zN κ (zR κ odLinks a0))) →
    nsz (if (20000 : Int32) < ((2 : Int32) * (zI κ atNexts (zR κ odAtlas a0))) then (20000 : Int32) else ((2 : Int32) * (zI κ atNexts (zR κ odAtlas a0)))) ∧
    ∀ κ1, κ1 = na κ 20 ((if (20000 : Int32) < ((2 : Int32) * (zI κ atNexts (zR κ odAtlas a0))) then (20000 : Int32) else ((2 : Int32) * (zI κ atNexts (zR κ odAtlas a0))))).toNatClampNeg →
    ∀ _ : zW C n0 κ1,
    zO κ1 (zn κ) = (0, 0) ∧
    ∀ κ4, κ4 = uo κ1 odLinks a0 (zn κ) →
    ∀ _ : zW C n0 κ4,
    Q κ4)
theorem t_Od_makeRows_71 {C : zC} {n0 : Nat} {Q : zS → Prop}   {a0 : Nat} {κ : zS} (W : zW C n0 κ) (Ta0 : zT κ a0 = 9) (F : w_Od_makeRows_71 C n0 Q  a0 κ) : zG C n0 1 mOd_makeRows 71 [some (.ref a0)] [] κ (oV Q noX) := by
  unfold w_Od_makeRows_71 at F
  refine y_aln dX6_makeRows_71 rfl ?_
  refine gf_X6_63 W dX6_makeRows_72 rfl Ta0 ?_
  refine y_alen (t := 0) dX6_makeRows_75 (ty_odLinks W Ta0) (by decide) ?_
  refine y_aln dX6_makeRows_76 rfl ?_
  refine gf_X6_9 W dX6_makeRows_77 rfl Ta0 ?_
  refine gf_X6_180 dX6_makeRows_80 rfl (Or.inl (ty_odAtlas W Ta0)) ?_
  refine y_ii ((zI κ atNexts (zR κ odAtlas a0)) ≤ (Int32.ofNat (zN κ (zR κ odLinks a0)))) dX6_makeRows_83 (t := 107) rfl rfl (fun c9 => ?_) (fun c9 => ?_)
  · replace F := F.1 c9
    exact y_rv W dX6_makeRows_107 rfl F
  · replace F := F.2 c9
    refine y_aln dX6_makeRows_86 rfl ?_
    refine y_ic dX6_makeRows_87 zi_2 ?_
    refine y_aln dX6_makeRows_88 rfl ?_
    refine gf_X6_9 W dX6_makeRows_89 rfl Ta0 ?_
    refine gf_X6_180 dX6_makeRows_92 rfl (Or.inl (ty_odAtlas W Ta0)) ?_
    refine y_imul dX6_makeRows_95 ?_
    refine y_si dX6_makeRows_96 zs_20000 ?_
    refine y_min dX6_makeRows_99 rfl zbi_X6_183 (Nat.le_of_ble_eq_true rfl) (Nat.le_of_ble_eq_true rfl) ?_
    have b2 := F.1
    refine y_newa (t := 0) W dX6_makeRows_102 (by decide) b2 (fun κ1 eκ1 => ?_)
    replace F := F.2 κ1 eκ1
    have Wκ1 : zW C n0 κ1 := zW_na W eκ1 (by decide) (by decide) b2.2
    have Mκ1 : zM (zn κ) κ κ1 := zM_na (W.lo (Nat.le_trans W.1.2.1 W.1.2.2) (Nat.le_refl _)) eκ1
    replace F := F Wκ1
    have g3 : zT κ1 (zn κ) = 20 := by rw [eκ1]; exact if_pos rfl
    have b5 := F.1
    replace F := F.2
    have h6 := (ztm W Mκ1 Ta0)
    refine pf_X6_63 Wκ1 dX6_makeRows_104 rfl (Or.inl h6) g3 (fun κ4 eκ4 => ?_)
    replace F := F κ4 eκ4
    have Wκ4 : zW C n0 κ4 := zW_uo Wκ1 eκ4 (fun t ht => by cases ht; exact g3) b5
    have Mκ4 : zM (zn κ1) κ1 κ4 := by rw [eκ4]; exact zM.of rfl rfl rfl
    replace F := F Wκ4
    exact y_rv Wκ4 dX6_makeRows_107 rfl F

def w_Od_makeRows_0 (C : zC) (n0 : Nat) (Q : zS → Prop)  (a0 : Nat) (κ : zS) : Prop :=
  (¬ (Int32.ofNat (zN κ (zR κ odLefts a0))) = (0 : Int32) →
    w_Od_makeRows_71 C n0 Q  a0 κ) ∧
  ((Int32.ofNat (zN κ (zR κ odLefts a0))) = (0 : Int32) →
    nsz (3000 : Int32) ∧
    ∀ κ1, κ1 = na κ 20 ((3000 : Int32)).toNatClampNeg →
    ∀ _ : zW C n0 κ1,
    zO κ1 (zn κ) = (0, 0) ∧
    ∀ κ4, κ4 = uo κ1 odLefts a0 (zn κ) →
    ∀ _ : zW C n0 κ4,
    nsz (3000 : Int32) ∧
    ∀ κ7, κ7 = na κ4 20 ((3000 : Int32)).toNatClampNeg →
    ∀ _ : zW C n0 κ7,
    zO κ7 (zn κ4) = (0, 0) ∧
    ∀ κ10, κ10 = uo κ7 odRights a0 (zn κ4) →
    ∀ _ : zW C n0 κ10,
    nsz (3000 : Int32) ∧
    ∀ κ13, κ13 = na κ10 20 ((3000 : Int32)).toNatClampNeg →
    ∀ _ : zW C n0 κ13,
    zO κ13 (zn κ10) = (0, 0) ∧
    ∀ κ16, κ16 = uo κ13 odBases a0 (zn κ10) →
    ∀ _ : zW C n0 κ16,
    nsz (3000 : Int32) ∧
    ∀ κ19, κ19 = na κ16 20 ((3000 : Int32)).toNatClampNeg →
    ∀ _ : zW C n0 κ19,
    zO κ19 (zn κ16) = (0, 0) ∧
    ∀ κ22, κ22 = uo κ19 odRanks a0 (zn κ16) →
    ∀ _ : zW C n0 κ22,
    nsz (1000 : Int32) ∧
    ∀ κ25, κ25 = na κ22 20 ((1000 : Int32)).toNatClampNeg →
    ∀ _ : zW C n0 κ25,
    zO κ25 (zn κ22) = (0, 0) ∧
    ∀ κ28, κ28 = uo κ25 odCellOf a0 (zn κ22) →
    ∀ _ : zW C n0 κ28,
    nsz (1000 : Int32) ∧
    ∀ κ31, κ31 = na κ28 20 ((1000 : Int32)).toNatClampNeg →
    ∀ _ : zW C n0 κ31,
    zO κ31 (zn κ28) = (0, 0) ∧
    ∀ κ34, κ34 = uo κ31 odHeads a0 (zn κ28) →
    ∀ _ : zW C n0 κ34,
    nsz (31 : Int32) ∧
    ∀ κ37, κ37 = na κ34 24 ((31 : Int32)).toNatClampNeg →
    ∀ _ : zW C n0 κ37,
    zO κ37 (zn κ34) = (0, 0) ∧
    ∀ κ40, κ40 = uo κ37 odEdges a0 (zn κ34) →
    ∀ _ : zW C n0 κ40,
    w_Od_makeRows_71 C n0 Q  a0 κ40)
theorem t_Od_makeRows_0 {C : zC} {n0 : Nat} {Q : zS → Prop}   {a0 : Nat} {κ : zS} (W : zW C n0 κ) (Ta0 : zT κ a0 = 9) (F : w_Od_makeRows_0 C n0 Q  a0 κ) : zG C n0 1 mOd_makeRows 0 [some (.ref a0)] [] κ (oV Q noX) := by
  unfold w_Od_makeRows_0 at F
  refine y_aln dX6_makeRows_0 rfl ?_
  refine gf_X6_45 W dX6_makeRows_1 rfl Ta0 ?_
  refine y_alen (t := 0) dX6_makeRows_4 (ty_odLefts W Ta0) (by decide) ?_
  refine y_in ((Int32.ofNat (zN κ (zR κ odLefts a0))) = (0 : Int32)) dX6_makeRows_5 (t := 71) rfl rfl (fun c9 => ?_) (fun c9 => ?_)
  · replace F := F.1 c9
    exact y_k (t_Od_makeRows_71  W Ta0 F) ⟨rfl, trivial⟩
  · replace F := F.2 c9
    refine y_aln dX6_makeRows_8 rfl ?_
    refine y_si dX6_makeRows_9 zs_3000 ?_
    have b2 := F.1
    refine y_newa (t := 0) W dX6_makeRows_12 (by decide) b2 (fun κ1 eκ1 => ?_)
    replace F := F.2 κ1 eκ1
    have Wκ1 : zW C n0 κ1 := zW_na W eκ1 (by decide) (by decide) b2.2
    have Mκ1 : zM (zn κ) κ κ1 := zM_na (W.lo (Nat.le_trans W.1.2.1 W.1.2.2) (Nat.le_refl _)) eκ1
    replace F := F Wκ1
    have g3 : zT κ1 (zn κ) = 20 := by rw [eκ1]; exact if_pos rfl
    have b5 := F.1
    replace F := F.2
    have h6 := (ztm W Mκ1 Ta0)
    refine pf_X6_45 Wκ1 dX6_makeRows_14 rfl (Or.inl h6) g3 (fun κ4 eκ4 => ?_)
    replace F := F κ4 eκ4
    have Wκ4 : zW C n0 κ4 := zW_uo Wκ1 eκ4 (fun t ht => by cases ht; exact g3) b5
    have Mκ4 : zM (zn κ1) κ1 κ4 := by rw [eκ4]; exact zM.of rfl rfl rfl
    replace F := F Wκ4
    refine y_aln dX6_makeRows_17 rfl ?_
    refine y_si dX6_makeRows_18 zs_3000 ?_
    have b8 := F.1
    refine y_newa (t := 0) Wκ4 dX6_makeRows_21 (by decide) b8 (fun κ7 eκ7 => ?_)
    replace F := F.2 κ7 eκ7
    have Wκ7 : zW C n0 κ7 := zW_na Wκ4 eκ7 (by decide) (by decide) b8.2
    have Mκ7 : zM (zn κ4) κ4 κ7 := zM_na (Wκ4.lo (Nat.le_trans Wκ4.1.2.1 Wκ4.1.2.2) (Nat.le_refl _)) eκ7
    replace F := F Wκ7
    have g9 : zT κ7 (zn κ4) = 20 := by rw [eκ7]; exact if_pos rfl
    have b11 := F.1
    replace F := F.2
    have h12 := (ztm Wκ4 Mκ7 (ztm Wκ1 Mκ4 h6))
    refine pf_X6_48 Wκ7 dX6_makeRows_23 rfl (Or.inl h12) g9 (fun κ10 eκ10 => ?_)
    replace F := F κ10 eκ10
    have Wκ10 : zW C n0 κ10 := zW_uo Wκ7 eκ10 (fun t ht => by cases ht; exact g9) b11
    have Mκ10 : zM (zn κ7) κ7 κ10 := by rw [eκ10]; exact zM.of rfl rfl rfl
    replace F := F Wκ10
    refine y_aln dX6_makeRows_26 rfl ?_
    refine y_si dX6_makeRows_27 zs_3000 ?_
    have b14 := F.1
    refine y_newa (t := 0) Wκ10 dX6_makeRows_30 (by decide) b14 (fun κ13 eκ13 => ?_)
    replace F := F.2 κ13 eκ13
    have Wκ13 : zW C n0 κ13 := zW_na Wκ10 eκ13 (by decide) (by decide) b14.2
    have Mκ13 : zM (zn κ10) κ10 κ13 := zM_na (Wκ10.lo (Nat.le_trans Wκ10.1.2.1 Wκ10.1.2.2) (Nat.le_refl _)) eκ13
    replace F := F Wκ13
    have g15 : zT κ13 (zn κ10) = 20 := by rw [eκ13]; exact if_pos rfl
    have b17 := F.1
    replace F := F.2
    have h18 := (ztm Wκ10 Mκ13 (ztm Wκ7 Mκ10 h12))
    refine pf_X6_51 Wκ13 dX6_makeRows_32 rfl (Or.inl h18) g15 (fun κ16 eκ16 => ?_)
    replace F := F κ16 eκ16
    have Wκ16 : zW C n0 κ16 := zW_uo Wκ13 eκ16 (fun t ht => by cases ht; exact g15) b17
    have Mκ16 : zM (zn κ13) κ13 κ16 := by rw [eκ16]; exact zM.of rfl rfl rfl
    replace F := F Wκ16
    refine y_aln dX6_makeRows_35 rfl ?_
    refine y_si dX6_makeRows_36 zs_3000 ?_
    have b20 := F.1
    refine y_newa (t := 0) Wκ16 dX6_makeRows_39 (by decide) b20 (fun κ19 eκ19 => ?_)
    replace F := F.2 κ19 eκ19
    have Wκ19 : zW C n0 κ19 := zW_na Wκ16 eκ19 (by decide) (by decide) b20.2
    have Mκ19 : zM (zn κ16) κ16 κ19 := zM_na (Wκ16.lo (Nat.le_trans Wκ16.1.2.1 Wκ16.1.2.2) (Nat.le_refl _)) eκ19
    replace F := F Wκ19
    have g21 : zT κ19 (zn κ16) = 20 := by rw [eκ19]; exact if_pos rfl
    have b23 := F.1
    replace F := F.2
    have h24 := (ztm Wκ16 Mκ19 (ztm Wκ13 Mκ16 h18))
    refine pf_X6_54 Wκ19 dX6_makeRows_41 rfl (Or.inl h24) g21 (fun κ22 eκ22 => ?_)
    replace F := F κ22 eκ22
    have Wκ22 : zW C n0 κ22 := zW_uo Wκ19 eκ22 (fun t ht => by cases ht; exact g21) b23
    have Mκ22 : zM (zn κ19) κ19 κ22 := by rw [eκ22]; exact zM.of rfl rfl rfl
    replace F := F Wκ22
    refine y_aln dX6_makeRows_44 rfl ?_
    refine y_si dX6_makeRows_45 zs_1000 ?_
    have b26 := F.1
    refine y_newa (t := 0) Wκ22 dX6_makeRows_48 (by decide) b26 (fun κ25 eκ25 => ?_)
    replace F := F.2 κ25 eκ25
    have Wκ25 : zW C n0 κ25 := zW_na Wκ22 eκ25 (by decide) (by decide) b26.2
    have Mκ25 : zM (zn κ22) κ22 κ25 := zM_na (Wκ22.lo (Nat.le_trans Wκ22.1.2.1 Wκ22.1.2.2) (Nat.le_refl _)) eκ25
    replace F := F Wκ25
    have g27 : zT κ25 (zn κ22) = 20 := by rw [eκ25]; exact if_pos rfl
    have b29 := F.1
    replace F := F.2
    have h30 := (ztm Wκ22 Mκ25 (ztm Wκ19 Mκ22 h24))
    refine pf_X6_57 Wκ25 dX6_makeRows_50 rfl (Or.inl h30) g27 (fun κ28 eκ28 => ?_)
    replace F := F κ28 eκ28
    have Wκ28 : zW C n0 κ28 := zW_uo Wκ25 eκ28 (fun t ht => by cases ht; exact g27) b29
    have Mκ28 : zM (zn κ25) κ25 κ28 := by rw [eκ28]; exact zM.of rfl rfl rfl
    replace F := F Wκ28
    refine y_aln dX6_makeRows_53 rfl ?_
    refine y_si dX6_makeRows_54 zs_1000 ?_
    have b32 := F.1
    refine y_newa (t := 0) Wκ28 dX6_makeRows_57 (by decide) b32 (fun κ31 eκ31 => ?_)
    replace F := F.2 κ31 eκ31
    have Wκ31 : zW C n0 κ31 := zW_na Wκ28 eκ31 (by decide) (by decide) b32.2
    have Mκ31 : zM (zn κ28) κ28 κ31 := zM_na (Wκ28.lo (Nat.le_trans Wκ28.1.2.1 Wκ28.1.2.2) (Nat.le_refl _)) eκ31
    replace F := F Wκ31
    have g33 : zT κ31 (zn κ28) = 20 := by rw [eκ31]; exact if_pos rfl
    have b35 := F.1
    replace F := F.2
    have h36 := (ztm Wκ28 Mκ31 (ztm Wκ25 Mκ28 h30))
    refine pf_X6_60 Wκ31 dX6_makeRows_59 rfl (Or.inl h36) g33 (fun κ34 eκ34 => ?_)
    replace F := F κ34 eκ34
    have Wκ34 : zW C n0 κ34 := zW_uo Wκ31 eκ34 (fun t ht => by cases ht; exact g33) b35
    have Mκ34 : zM (zn κ31) κ31 κ34 := by rw [eκ34]; exact zM.of rfl rfl rfl
    replace F := F Wκ34
    refine y_aln dX6_makeRows_62 rfl ?_
    refine y_bi1 dX6_makeRows_63 zb_31 ?_
    have b38 := F.1
    refine y_newq (t := 4) Wκ34 dX6_makeRows_65 rfl zan_X6_23 (by decide) b38 (fun κ37 eκ37 => ?_)
    replace F := F.2 κ37 eκ37
    have Wκ37 : zW C n0 κ37 := zW_na Wκ34 eκ37 (by decide) (by decide) b38.2
    have Mκ37 : zM (zn κ34) κ34 κ37 := zM_na (Wκ34.lo (Nat.le_trans Wκ34.1.2.1 Wκ34.1.2.2) (Nat.le_refl _)) eκ37
    replace F := F Wκ37
    have g39 : zT κ37 (zn κ34) = 24 := by rw [eκ37]; exact if_pos rfl
    have b41 := F.1
    replace F := F.2
    have h42 := (ztm Wκ34 Mκ37 (ztm Wκ31 Mκ34 h36))
    refine pf_X6_66 Wκ37 dX6_makeRows_68 rfl (Or.inl h42) g39 (fun κ40 eκ40 => ?_)
    replace F := F κ40 eκ40
    have Wκ40 : zW C n0 κ40 := zW_uo Wκ37 eκ40 (fun t ht => by cases ht; exact g39) b41
    have Mκ40 : zM (zn κ37) κ37 κ40 := by rw [eκ40]; exact zM.of rfl rfl rfl
    replace F := F Wκ40
    have h43 := (ztm Wκ37 Mκ40 h42)
    exact y_k (t_Od_makeRows_71  Wκ40 h43 F) ⟨rfl, trivial⟩

theorem Od_makeRows_run {C : zC} {n0 : Nat} {Q : zS → Prop} {a0 : Nat} {κ : zS} (W : zW C n0 κ) (Ta0 : zT κ a0 = 9) (F : w_Od_makeRows_0 C (zn κ) Q a0 κ) : zRun C 1 mOd_makeRows [.ref a0] κ (oV Q noX) := z_run (m_ent _ 0) (t_Od_makeRows_0 (W.lo (Nat.le_trans W.1.2.1 W.1.2.2) (Nat.le_refl _)) Ta0 F)

theorem dX6_comesToEnd_0 : decode cX6_comesToEnd 0 = .ok (.aload_n 0, 1) := by decide +kernel
theorem dX6_comesToEnd_1 : decode cX6_comesToEnd 1 = .ok (.getfield 9, 3) := by decide +kernel
theorem dX6_comesToEnd_4 : decode cX6_comesToEnd 4 = .ok (.getfield 112, 3) := by decide +kernel
theorem dX6_comesToEnd_7 : decode cX6_comesToEnd 7 = .ok (.iload_n 2, 1) := by decide +kernel
theorem dX6_comesToEnd_8 : decode cX6_comesToEnd 8 = .ok (.iaload, 1) := by decide +kernel
theorem dX6_comesToEnd_9 : decode cX6_comesToEnd 9 = .ok (.iconst 1, 1) := by decide +kernel
theorem dX6_comesToEnd_10 : decode cX6_comesToEnd 10 = .ok (.if_icmp .ne 34, 3) := by decide +kernel
theorem dX6_comesToEnd_13 : decode cX6_comesToEnd 13 = .ok (.aload_n 0, 1) := by decide +kernel
theorem dX6_comesToEnd_14 : decode cX6_comesToEnd 14 = .ok (.getfield 9, 3) := by decide +kernel
theorem dX6_comesToEnd_17 : decode cX6_comesToEnd 17 = .ok (.iload_n 1, 1) := by decide +kernel
theorem dX6_comesToEnd_18 : decode cX6_comesToEnd 18 = .ok (.iload_n 2, 1) := by decide +kernel
theorem dX6_comesToEnd_19 : decode cX6_comesToEnd 19 = .ok (.invokevirtual 108, 3) := by decide +kernel
theorem dX6_comesToEnd_22 : decode cX6_comesToEnd 22 = .ok (.ifCond .eq 22, 3) := by decide +kernel
theorem dX6_comesToEnd_25 : decode cX6_comesToEnd 25 = .ok (.aload_n 0, 1) := by decide +kernel
theorem dX6_comesToEnd_26 : decode cX6_comesToEnd 26 = .ok (.getfield 15, 3) := by decide +kernel
theorem dX6_comesToEnd_29 : decode cX6_comesToEnd 29 = .ok (.getfield 93, 3) := by decide +kernel
theorem dX6_comesToEnd_32 : decode cX6_comesToEnd 32 = .ok (.iload_n 1, 1) := by decide +kernel
theorem dX6_comesToEnd_33 : decode cX6_comesToEnd 33 = .ok (.aaload, 1) := by decide +kernel
theorem dX6_comesToEnd_34 : decode cX6_comesToEnd 34 = .ok (.getfield 99, 3) := by decide +kernel
theorem dX6_comesToEnd_37 : decode cX6_comesToEnd 37 = .ok (.ifCond .eq 7, 3) := by decide +kernel
theorem dX6_comesToEnd_40 : decode cX6_comesToEnd 40 = .ok (.iconst 1, 1) := by decide +kernel
theorem dX6_comesToEnd_41 : decode cX6_comesToEnd 41 = .ok (.goto 4, 3) := by decide +kernel
theorem dX6_comesToEnd_44 : decode cX6_comesToEnd 44 = .ok (.iconst 0, 1) := by decide +kernel
theorem dX6_comesToEnd_45 : decode cX6_comesToEnd 45 = .ok (.ireturn, 1) := by decide +kernel
def w_Od_comesToEnd_0 (C : zC) (n0 : Nat) (Q : Int32 → zS → Prop)  (a0 : Nat) (a1 : Int32) (a2 : Int32) (κ : zS) : Prop :=
  inb a2 (zN κ (zR κ atSorts (zR κ odAtlas a0))) ∧
  (¬ (zA κ (zR κ atSorts (zR κ odAtlas a0)) (a2).toNatClampNeg) = (1 : Int32) →
    Q (0 : Int32) κ) ∧
  ((zA κ (zR κ atSorts (zR κ odAtlas a0)) (a2).toNatClampNeg) = (1 : Int32) →
    ∀ _ : zT κ (zR κ odAtlas a0) = 3,
    zRun C 0 mAt_isTaken [.ref (zR κ odAtlas a0), .int a1, .int a2] κ (oI (fun r2 κ1 =>
      ∀ _ : zW C n0 κ1,
      ∀ _ : zM (zn κ) κ κ1,
      (r2 = (0 : Int32) →
        Q (0 : Int32) κ1) ∧
      (¬ r2 = (0 : Int32) →
        inb a1 (zN κ1 (zR κ1 soVisits (zR κ1 odSolver a0))) ∧
        ∃ u5, (zQ κ1 (zR κ1 soVisits (zR κ1 odSolver a0)) (a1).toNatClampNeg) = some u5 ∧
        ((zI κ1 raSign u5) = (0 : Int32) →
          Q (0 : Int32) κ1) ∧
        (¬ (zI κ1 raSign u5) = (0 : Int32) →
          Q (1 : Int32) κ1))) noX))
theorem t_Od_comesToEnd_0 {C : zC} {n0 : Nat} {Q : Int32 → zS → Prop}   {a0 : Nat} {a1 : Int32} {a2 : Int32} {κ : zS} (W : zW C n0 κ) (Ta0 : zT κ a0 = 9) (F : w_Od_comesToEnd_0 C n0 Q  a0 a1 a2 κ) : zG C n0 1 mOd_comesToEnd 0 [some (.ref a0), some (.int a1), some (.int a2)] [] κ (oI Q noX) := by
  unfold w_Od_comesToEnd_0 at F
  refine y_aln dX6_comesToEnd_0 rfl ?_
  refine gf_X6_9 W dX6_comesToEnd_1 rfl Ta0 ?_
  refine gf_X6_112 W dX6_comesToEnd_4 rfl (ty_odAtlas W Ta0) ?_
  refine y_iln dX6_comesToEnd_7 rfl ?_
  refine y_ald dX6_comesToEnd_8 (ty_atSorts W (ty_odAtlas W Ta0)) F.1 ?_
  replace F := F.2
  refine y_ic dX6_comesToEnd_9 zi_1 ?_
  refine y_iin ((zA κ (zR κ atSorts (zR κ odAtlas a0)) (a2).toNatClampNeg) = (1 : Int32)) dX6_comesToEnd_10 (t := 44) rfl rfl (fun c9 => ?_) (fun c9 => ?_)
  · replace F := F.1 c9
    refine y_ic dX6_comesToEnd_44 zi_0 ?_
    exact y_ri W dX6_comesToEnd_45 rfl (nb_nar nb_0) F
  · replace F := F.2 c9
    refine y_aln dX6_comesToEnd_13 rfl ?_
    refine gf_X6_9 W dX6_comesToEnd_14 rfl Ta0 ?_
    refine y_iln dX6_comesToEnd_17 rfl ?_
    refine y_iln dX6_comesToEnd_18 rfl ?_
    replace F := F (ty_odAtlas W Ta0)
    refine k_X6_108 W dX6_comesToEnd_19 rfl (Nat.le_of_ble_eq_true rfl) (Nat.le_of_ble_eq_true rfl) (Or.inl (ty_odAtlas W Ta0)) F (fun r2 κ1 Wκ1 Mκ1 F => ?_) (fun _ _ h9 => False.elim h9)
    replace F := F Wκ1 Mκ1
    refine y_i (r2 = (0 : Int32)) dX6_comesToEnd_22 (t := 44) rfl rfl (fun c9 => ?_) (fun c9 => ?_)
    · replace F := F.1 c9
      refine y_ic dX6_comesToEnd_44 zi_0 ?_
      exact y_ri Wκ1 dX6_comesToEnd_45 rfl (nb_nar nb_0) F
    · replace F := F.2 c9
      refine y_aln dX6_comesToEnd_25 rfl ?_
      have h4 := (ztm W Mκ1 Ta0)
      refine gf_X6_15 Wκ1 dX6_comesToEnd_26 rfl h4 ?_
      refine gf_X6_93 Wκ1 dX6_comesToEnd_29 rfl (ty_odSolver Wκ1 h4) ?_
      refine y_iln dX6_comesToEnd_32 rfl ?_
      refine y_qld (t := 5) dX6_comesToEnd_33 (ty_soVisits Wκ1 (ty_odSolver Wκ1 h4)) (by decide) F.1 ?_
      replace F := F.2
      obtain ⟨u5, Eu5, F⟩ := F
      have Tu5 : zT κ1 u5 = 11 := (fun v hv => Wκ1.2.2.2.2.1 _ _ v (ty_soVisits Wκ1 (ty_odSolver Wκ1 h4)) hv) u5 Eu5
      refine y_uq0 Eu5 ?_
      refine gf_X6_99 dX6_comesToEnd_34 rfl (Or.inl Tu5) ?_
      refine y_i ((zI κ1 raSign u5) = (0 : Int32)) dX6_comesToEnd_37 (t := 44) rfl rfl (fun c9 => ?_) (fun c9 => ?_)
      · replace F := F.1 c9
        refine y_ic dX6_comesToEnd_44 zi_0 ?_
        exact y_ri Wκ1 dX6_comesToEnd_45 rfl (nb_nar nb_0) F
      · replace F := F.2 c9
        refine y_ic dX6_comesToEnd_40 zi_1 ?_
        refine y_goto dX6_comesToEnd_41 (t := 45) rfl ?_
        exact y_ri Wκ1 dX6_comesToEnd_45 rfl (nb_nar nb_1) F

theorem Od_comesToEnd_run {C : zC} {n0 : Nat} {Q : Int32 → zS → Prop} {a0 : Nat} {a1 : Int32} {a2 : Int32} {κ : zS} (W : zW C n0 κ) (Ta0 : zT κ a0 = 9) (F : w_Od_comesToEnd_0 C (zn κ) Q a0 a1 a2 κ) : zRun C 1 mOd_comesToEnd [.ref a0, .int a1, .int a2] κ (oI Q noX) := z_run (m_ent _ 0) (t_Od_comesToEnd_0 (W.lo (Nat.le_trans W.1.2.1 W.1.2.2) (Nat.le_refl _)) Ta0 F)

theorem dX6_markEndings_0 : decode cX6_markEndings 0 = .ok (.aload_n 0, 1) := by decide +kernel
theorem dX6_markEndings_1 : decode cX6_markEndings 1 = .ok (.getfield 57, 3) := by decide +kernel
theorem dX6_markEndings_4 : decode cX6_markEndings 4 = .ok (.iconst (-1), 1) := by decide +kernel
theorem dX6_markEndings_5 : decode cX6_markEndings 5 = .ok (.invokestatic 211, 3) := by decide +kernel
theorem dX6_markEndings_8 : decode cX6_markEndings 8 = .ok (.iconst 0, 1) := by decide +kernel
theorem dX6_markEndings_9 : decode cX6_markEndings 9 = .ok (.istore_n 1, 1) := by decide +kernel
theorem dX6_markEndings_10 : decode cX6_markEndings 10 = .ok (.iconst 0, 1) := by decide +kernel
theorem dX6_markEndings_11 : decode cX6_markEndings 11 = .ok (.istore_n 2, 1) := by decide +kernel
theorem dX6_markEndings_12 : decode cX6_markEndings 12 = .ok (.iload_n 2, 1) := by decide +kernel
theorem dX6_markEndings_13 : decode cX6_markEndings 13 = .ok (.aload_n 0, 1) := by decide +kernel
theorem dX6_markEndings_14 : decode cX6_markEndings 14 = .ok (.getfield 9, 3) := by decide +kernel
theorem dX6_markEndings_17 : decode cX6_markEndings 17 = .ok (.getfield 125, 3) := by decide +kernel
theorem dX6_markEndings_20 : decode cX6_markEndings 20 = .ok (.getfield 128, 3) := by decide +kernel
theorem dX6_markEndings_23 : decode cX6_markEndings 23 = .ok (.if_icmp .ge 85, 3) := by decide +kernel
theorem dX6_markEndings_26 : decode cX6_markEndings 26 = .ok (.aload_n 0, 1) := by decide +kernel
theorem dX6_markEndings_27 : decode cX6_markEndings 27 = .ok (.getfield 9, 3) := by decide +kernel
theorem dX6_markEndings_30 : decode cX6_markEndings 30 = .ok (.getfield 105, 3) := by decide +kernel
theorem dX6_markEndings_33 : decode cX6_markEndings 33 = .ok (.iload_n 2, 1) := by decide +kernel
theorem dX6_markEndings_34 : decode cX6_markEndings 34 = .ok (.iaload, 1) := by decide +kernel
theorem dX6_markEndings_35 : decode cX6_markEndings 35 = .ok (.istore_n 3, 1) := by decide +kernel
theorem dX6_markEndings_36 : decode cX6_markEndings 36 = .ok (.iload_n 3, 1) := by decide +kernel
theorem dX6_markEndings_37 : decode cX6_markEndings 37 = .ok (.aload_n 0, 1) := by decide +kernel
theorem dX6_markEndings_38 : decode cX6_markEndings 38 = .ok (.getfield 9, 3) := by decide +kernel
theorem dX6_markEndings_41 : decode cX6_markEndings 41 = .ok (.getfield 105, 3) := by decide +kernel
theorem dX6_markEndings_44 : decode cX6_markEndings 44 = .ok (.iload_n 2, 1) := by decide +kernel
theorem dX6_markEndings_45 : decode cX6_markEndings 45 = .ok (.iconst 1, 1) := by decide +kernel
theorem dX6_markEndings_46 : decode cX6_markEndings 46 = .ok (.iadd, 1) := by decide +kernel
theorem dX6_markEndings_47 : decode cX6_markEndings 47 = .ok (.iaload, 1) := by decide +kernel
theorem dX6_markEndings_48 : decode cX6_markEndings 48 = .ok (.if_icmp .ge 54, 3) := by decide +kernel
theorem dX6_markEndings_51 : decode cX6_markEndings 51 = .ok (.aload_n 0, 1) := by decide +kernel
theorem dX6_markEndings_52 : decode cX6_markEndings 52 = .ok (.iload_n 2, 1) := by decide +kernel
theorem dX6_markEndings_53 : decode cX6_markEndings 53 = .ok (.iload_n 3, 1) := by decide +kernel
theorem dX6_markEndings_54 : decode cX6_markEndings 54 = .ok (.invokevirtual 217, 3) := by decide +kernel
theorem dX6_markEndings_57 : decode cX6_markEndings 57 = .ok (.ifCond .eq 39, 3) := by decide +kernel
theorem dX6_markEndings_60 : decode cX6_markEndings 60 = .ok (.aload_n 0, 1) := by decide +kernel
theorem dX6_markEndings_61 : decode cX6_markEndings 61 = .ok (.getfield 57, 3) := by decide +kernel
theorem dX6_markEndings_64 : decode cX6_markEndings 64 = .ok (.aload_n 0, 1) := by decide +kernel
theorem dX6_markEndings_65 : decode cX6_markEndings 65 = .ok (.getfield 9, 3) := by decide +kernel
theorem dX6_markEndings_68 : decode cX6_markEndings 68 = .ok (.getfield 115, 3) := by decide +kernel
theorem dX6_markEndings_71 : decode cX6_markEndings 71 = .ok (.iload_n 3, 1) := by decide +kernel
theorem dX6_markEndings_72 : decode cX6_markEndings 72 = .ok (.iaload, 1) := by decide +kernel
theorem dX6_markEndings_73 : decode cX6_markEndings 73 = .ok (.iaload, 1) := by decide +kernel
theorem dX6_markEndings_74 : decode cX6_markEndings 74 = .ok (.iconst (-1), 1) := by decide +kernel
theorem dX6_markEndings_75 : decode cX6_markEndings 75 = .ok (.if_icmp .ne 21, 3) := by decide +kernel
theorem dX6_markEndings_78 : decode cX6_markEndings 78 = .ok (.aload_n 0, 1) := by decide +kernel
theorem dX6_markEndings_79 : decode cX6_markEndings 79 = .ok (.getfield 57, 3) := by decide +kernel
theorem dX6_markEndings_82 : decode cX6_markEndings 82 = .ok (.aload_n 0, 1) := by decide +kernel
theorem dX6_markEndings_83 : decode cX6_markEndings 83 = .ok (.getfield 9, 3) := by decide +kernel
theorem dX6_markEndings_86 : decode cX6_markEndings 86 = .ok (.getfield 115, 3) := by decide +kernel
theorem dX6_markEndings_89 : decode cX6_markEndings 89 = .ok (.iload_n 3, 1) := by decide +kernel
theorem dX6_markEndings_90 : decode cX6_markEndings 90 = .ok (.iaload, 1) := by decide +kernel
theorem dX6_markEndings_91 : decode cX6_markEndings 91 = .ok (.iconst 0, 1) := by decide +kernel
theorem dX6_markEndings_92 : decode cX6_markEndings 92 = .ok (.iastore, 1) := by decide +kernel
theorem dX6_markEndings_93 : decode cX6_markEndings 93 = .ok (.iinc 1 1, 3) := by decide +kernel
theorem dX6_markEndings_96 : decode cX6_markEndings 96 = .ok (.iinc 3 1, 3) := by decide +kernel
theorem dX6_markEndings_99 : decode cX6_markEndings 99 = .ok (.goto (-63), 3) := by decide +kernel
theorem dX6_markEndings_102 : decode cX6_markEndings 102 = .ok (.iinc 2 1, 3) := by decide +kernel
theorem dX6_markEndings_105 : decode cX6_markEndings 105 = .ok (.goto (-93), 3) := by decide +kernel
theorem dX6_markEndings_108 : decode cX6_markEndings 108 = .ok (.iload_n 1, 1) := by decide +kernel
theorem dX6_markEndings_109 : decode cX6_markEndings 109 = .ok (.ireturn, 1) := by decide +kernel
def w_Od_markEndings_36 (C : zC) (n0 : Nat) (Q : Int32 → zS → Prop) (B12 : Nat → Int32 → Int32 → zS → Prop) (a0 : Nat) (a1 : Int32) (a2 : Int32) (a3 : Int32) (κ : zS) : Prop :=
  ∃ I : Nat → Nat → Int32 → Int32 → Int32 → zS → Prop, (∃ n, I n a0 a1 a2 a3 κ) ∧ ∀ n a0 a1 a2 a3 κ, zW C n0 κ → zT κ a0 = 9 → I n a0 a1 a2 a3 κ →
    inb (a2 + (1 : Int32)) (zN κ (zR κ atFirsts (zR κ odAtlas a0))) ∧
    ((zA κ (zR κ atFirsts (zR κ odAtlas a0)) ((a2 + (1 : Int32))).toNatClampNeg) ≤ a3 →
      ∀ v2_1 : Int32, v2_1 = a2 + (1 : Int32) →
      B12 a0 a1 v2_1 κ) ∧
    (¬ (zA κ (zR κ atFirsts (zR κ odAtlas a0)) ((a2 + (1 : Int32))).toNatClampNeg) ≤ a3 →
      ∀ _ : zT κ a0 = 9,
      zRun C 1 mOd_comesToEnd [.ref a0, .int a2, .int a3] κ (oI (fun r3 κ2 =>
        ∀ _ : zW C n0 κ2,
        ∀ _ : zM (zn κ) κ κ2,
        (r3 = (0 : Int32) →
          ∀ v3_5 : Int32, v3_5 = a3 + (1 : Int32) →
          ∃ k < n, I k a0 a1 a2 v3_5 κ2) ∧
        (¬ r3 = (0 : Int32) →
          inb a3 (zN κ2 (zR κ2 atNumbers (zR κ2 odAtlas a0))) ∧
          inb (zA κ2 (zR κ2 atNumbers (zR κ2 odAtlas a0)) (a3).toNatClampNeg) (zN κ2 (zR κ2 odCellOf a0)) ∧
          (¬ (zA κ2 (zR κ2 odCellOf a0) ((zA κ2 (zR κ2 atNumbers (zR κ2 odAtlas a0)) (a3).toNatClampNeg)).toNatClampNeg) = (-1 : Int32) →
            ∀ v3_8 : Int32, v3_8 = a3 + (1 : Int32) →
            ∃ k < n, I k a0 a1 a2 v3_8 κ2) ∧
          ((zA κ2 (zR κ2 odCellOf a0) ((zA κ2 (zR κ2 atNumbers (zR κ2 odAtlas a0)) (a3).toNatClampNeg)).toNatClampNeg) = (-1 : Int32) →
            inb a3 (zN κ2 (zR κ2 atNumbers (zR κ2 odAtlas a0))) ∧
            inb (zA κ2 (zR κ2 atNumbers (zR κ2 odAtlas a0)) (a3).toNatClampNeg) (zN κ2 (zR κ2 odCellOf a0)) ∧
            ∀ κ9, κ9 = ua κ2 (zR κ2 odCellOf a0) ((zA κ2 (zR κ2 atNumbers (zR κ2 odAtlas a0)) (a3).toNatClampNeg)).toNatClampNeg (0 : Int32) →
            ∀ _ : zW C n0 κ9,
            ∀ v1_10 : Int32, v1_10 = a1 + (1 : Int32) →
            ∀ v3_11 : Int32, v3_11 = a3 + (1 : Int32) →
            ∃ k < n, I k a0 v1_10 a2 v3_11 κ9))) noX))
theorem t_Od_markEndings_36 {C : zC} {n0 : Nat} {Q : Int32 → zS → Prop} {B12 : Nat → Int32 → Int32 → zS → Prop} (hB12 : ∀ a0' a1' a2' τ, zW C n0 τ → zT τ a0' = 9 → B12 a0' a1' a2' τ → zG C n0 2 mOd_markEndings 12 [some (.ref a0'), some (.int a1'), some (.int a2'), none] [] τ (oI Q noX)) {a0 : Nat} {a1 : Int32} {a2 : Int32} {a3 : Int32} {κ : zS} (W : zW C n0 κ) (Ta0 : zT κ a0 = 9) (F : w_Od_markEndings_36 C n0 Q B12 a0 a1 a2 a3 κ) : zG C n0 2 mOd_markEndings 36 [some (.ref a0), some (.int a1), some (.int a2), some (.int a3)] [] κ (oI Q noX) := by
  obtain ⟨I, ⟨m0, hI0⟩, F0⟩ := F
  have key : ∀ n a0 a1 a2 a3 κ, zW C n0 κ → zT κ a0 = 9 → I n a0 a1 a2 a3 κ → zG C n0 2 mOd_markEndings 36 [some (.ref a0), some (.int a1), some (.int a2), some (.int a3)] [] κ (oI Q noX) := by
    intro n
    induction n using Nat.strongRecOn with
    | _ n ih =>
      intro a0 a1 a2 a3 κ W Ta0 hI
      have F := F0 n a0 a1 a2 a3 κ W Ta0 hI
      clear hI hI0
      refine y_iln dX6_markEndings_36 rfl ?_
      refine y_aln dX6_markEndings_37 rfl ?_
      refine gf_X6_9 W dX6_markEndings_38 rfl Ta0 ?_
      refine gf_X6_105 W dX6_markEndings_41 rfl (ty_odAtlas W Ta0) ?_
      refine y_iln dX6_markEndings_44 rfl ?_
      refine y_ic dX6_markEndings_45 zi_1 ?_
      refine y_iadd dX6_markEndings_46 ?_
      refine y_ald dX6_markEndings_47 (ty_atFirsts W (ty_odAtlas W Ta0)) F.1 ?_
      replace F := F.2
      refine y_ii ((zA κ (zR κ atFirsts (zR κ odAtlas a0)) ((a2 + (1 : Int32))).toNatClampNeg) ≤ a3) dX6_markEndings_48 (t := 102) rfl rfl (fun c9 => ?_) (fun c9 => ?_)
      · replace F := F.1 c9
        refine y_incb dX6_markEndings_102 zi_1 rfl (Nat.le_of_ble_eq_true rfl) (fun v2_1 ev2_1 => ?_)
        replace F := F v2_1 ev2_1
        show zG _ _ _ _ _ [some (.ref a0), some (.int a1), some (.int v2_1), some (.int a3)] _ _ _
        refine y_goto dX6_markEndings_105 (t := 12) rfl ?_
        exact y_k (hB12 _ _ _ _ W Ta0 F) ⟨rfl, rfl, rfl, trivial⟩
      · replace F := F.2 c9
        refine y_aln dX6_markEndings_51 rfl ?_
        refine y_iln dX6_markEndings_52 rfl ?_
        refine y_iln dX6_markEndings_53 rfl ?_
        replace F := F Ta0
        refine k_X6_217 W dX6_markEndings_54 rfl (Nat.le_of_ble_eq_true rfl) (Nat.le_of_ble_eq_true rfl) (Or.inl Ta0) F (fun r3 κ2 Wκ2 Mκ2 F => ?_) (fun _ _ h9 => False.elim h9)
        replace F := F Wκ2 Mκ2
        refine y_i (r3 = (0 : Int32)) dX6_markEndings_57 (t := 96) rfl rfl (fun c9 => ?_) (fun c9 => ?_)
        · replace F := F.1 c9
          refine y_incb dX6_markEndings_96 zi_1 rfl (Nat.le_of_ble_eq_true rfl) (fun v3_5 ev3_5 => ?_)
          replace F := F v3_5 ev3_5
          show zG _ _ _ _ _ [some (.ref a0), some (.int a1), some (.int a2), some (.int v3_5)] _ _ _
          refine y_goto dX6_markEndings_99 (t := 36) rfl ?_
          have h6 := (ztm W Mκ2 Ta0)
          obtain ⟨k, hk, hI⟩ := F
          exact y_k (ih k hk _ _ _ _ _ Wκ2 h6 hI) ⟨rfl, rfl, rfl, rfl, trivial⟩
        · replace F := F.2 c9
          refine y_aln dX6_markEndings_60 rfl ?_
          have h7 := (ztm W Mκ2 Ta0)
          refine gf_X6_57 Wκ2 dX6_markEndings_61 rfl h7 ?_
          refine y_aln dX6_markEndings_64 rfl ?_
          refine gf_X6_9 Wκ2 dX6_markEndings_65 rfl h7 ?_
          refine gf_X6_115 Wκ2 dX6_markEndings_68 rfl (ty_odAtlas Wκ2 h7) ?_
          refine y_iln dX6_markEndings_71 rfl ?_
          refine y_ald dX6_markEndings_72 (ty_atNumbers Wκ2 (ty_odAtlas Wκ2 h7)) F.1 ?_
          replace F := F.2
          refine y_ald dX6_markEndings_73 (ty_odCellOf Wκ2 h7) F.1 ?_
          replace F := F.2
          refine y_ic dX6_markEndings_74 zi_m1 ?_
          refine y_iin ((zA κ2 (zR κ2 odCellOf a0) ((zA κ2 (zR κ2 atNumbers (zR κ2 odAtlas a0)) (a3).toNatClampNeg)).toNatClampNeg) = (-1 : Int32)) dX6_markEndings_75 (t := 96) rfl rfl (fun c9 => ?_) (fun c9 => ?_)
          · replace F := F.1 c9
            refine y_incb dX6_markEndings_96 zi_1 rfl (Nat.le_of_ble_eq_true rfl) (fun v3_8 ev3_8 => ?_)
            replace F := F v3_8 ev3_8
            show zG _ _ _ _ _ [some (.ref a0), some (.int a1), some (.int a2), some (.int v3_8)] _ _ _
            refine y_goto dX6_markEndings_99 (t := 36) rfl ?_
            obtain ⟨k, hk, hI⟩ := F
            exact y_k (ih k hk _ _ _ _ _ Wκ2 h7 hI) ⟨rfl, rfl, rfl, rfl, trivial⟩
          · replace F := F.2 c9
            refine y_aln dX6_markEndings_78 rfl ?_
            refine gf_X6_57 Wκ2 dX6_markEndings_79 rfl h7 ?_
            refine y_aln dX6_markEndings_82 rfl ?_
            refine gf_X6_9 Wκ2 dX6_markEndings_83 rfl h7 ?_
            refine gf_X6_115 Wκ2 dX6_markEndings_86 rfl (ty_odAtlas Wκ2 h7) ?_
            refine y_iln dX6_markEndings_89 rfl ?_
            refine y_ald dX6_markEndings_90 (ty_atNumbers Wκ2 (ty_odAtlas Wκ2 h7)) F.1 ?_
            replace F := F.2
            refine y_ic dX6_markEndings_91 zi_0 ?_
            refine y_ast Wκ2 dX6_markEndings_92 (ty_odCellOf Wκ2 h7) F.1 (fun κ9 eκ9 => ?_)
            replace F := F.2 κ9 eκ9
            have Wκ9 : zW C n0 κ9 := zW_ua Wκ2 eκ9 (fun h => absurd (h.symm.trans (ty_odCellOf Wκ2 h7)) (by decide)) (fun h => absurd (h.symm.trans (ty_odCellOf Wκ2 h7)) (by decide))
            have Mκ9 : zM (zn κ2) κ2 κ9 := by rw [eκ9]; exact zM.of rfl rfl rfl
            replace F := F Wκ9
            refine y_incb dX6_markEndings_93 zi_1 rfl (Nat.le_of_ble_eq_true rfl) (fun v1_10 ev1_10 => ?_)
            replace F := F v1_10 ev1_10
            show zG _ _ _ _ _ [some (.ref a0), some (.int v1_10), some (.int a2), some (.int a3)] _ _ _
            refine y_incb dX6_markEndings_96 zi_1 rfl (Nat.le_of_ble_eq_true rfl) (fun v3_11 ev3_11 => ?_)
            replace F := F v3_11 ev3_11
            show zG _ _ _ _ _ [some (.ref a0), some (.int v1_10), some (.int a2), some (.int v3_11)] _ _ _
            refine y_goto dX6_markEndings_99 (t := 36) rfl ?_
            have h12 := (ztm Wκ2 Mκ9 h7)
            obtain ⟨k, hk, hI⟩ := F
            exact y_k (ih k hk _ _ _ _ _ Wκ9 h12 hI) ⟨rfl, rfl, rfl, rfl, trivial⟩
  exact key m0 a0 a1 a2 a3 κ W Ta0 hI0

def w_Od_markEndings_12 (C : zC) (n0 : Nat) (Q : Int32 → zS → Prop)  (a0 : Nat) (a1 : Int32) (a2 : Int32) (κ : zS) : Prop :=
  ∃ I : Nat → Nat → Int32 → Int32 → zS → Prop, (∃ n, I n a0 a1 a2 κ) ∧ ∀ n a0 a1 a2 κ, zW C n0 κ → zT κ a0 = 9 → I n a0 a1 a2 κ →
    ((zI κ hoTotal (zR κ atStates (zR κ odAtlas a0))) ≤ a2 →
      Q a1 κ) ∧
    (¬ (zI κ hoTotal (zR κ atStates (zR κ odAtlas a0))) ≤ a2 →
      inb a2 (zN κ (zR κ atFirsts (zR κ odAtlas a0))) ∧
      ∀ v3_1 : Int32, v3_1 = (zA κ (zR κ atFirsts (zR κ odAtlas a0)) (a2).toNatClampNeg) →
      w_Od_markEndings_36 C n0 Q (fun a0' a1' a2' τ => ∃ k < n, I k a0' a1' a2' τ) a0 a1 a2 v3_1 κ)
theorem t_Od_markEndings_12 {C : zC} {n0 : Nat} {Q : Int32 → zS → Prop}   {a0 : Nat} {a1 : Int32} {a2 : Int32} {κ : zS} (W : zW C n0 κ) (Ta0 : zT κ a0 = 9) (F : w_Od_markEndings_12 C n0 Q  a0 a1 a2 κ) : zG C n0 2 mOd_markEndings 12 [some (.ref a0), some (.int a1), some (.int a2), none] [] κ (oI Q noX) := by
  obtain ⟨I, ⟨m0, hI0⟩, F0⟩ := F
  have key : ∀ n a0 a1 a2 κ, zW C n0 κ → zT κ a0 = 9 → I n a0 a1 a2 κ → zG C n0 2 mOd_markEndings 12 [some (.ref a0), some (.int a1), some (.int a2), none] [] κ (oI Q noX) := by
    intro n
    induction n using Nat.strongRecOn with
    | _ n ih =>
      intro a0 a1 a2 κ W Ta0 hI
      have F := F0 n a0 a1 a2 κ W Ta0 hI
      clear hI hI0
      refine y_iln dX6_markEndings_12 rfl ?_
      refine y_aln dX6_markEndings_13 rfl ?_
      refine gf_X6_9 W dX6_markEndings_14 rfl Ta0 ?_
      refine gf_X6_125 W dX6_markEndings_17 rfl (ty_odAtlas W Ta0) ?_
      refine gf_X6_128 dX6_markEndings_20 rfl (Or.inl (ty_atStates W (ty_odAtlas W Ta0))) ?_
      refine y_ii ((zI κ hoTotal (zR κ atStates (zR κ odAtlas a0))) ≤ a2) dX6_markEndings_23 (t := 108) rfl rfl (fun c9 => ?_) (fun c9 => ?_)
      · replace F := F.1 c9
        refine y_iln dX6_markEndings_108 rfl ?_
        exact y_ri W dX6_markEndings_109 rfl in_nar F
      · replace F := F.2 c9
        refine y_aln dX6_markEndings_26 rfl ?_
        refine gf_X6_9 W dX6_markEndings_27 rfl Ta0 ?_
        refine gf_X6_105 W dX6_markEndings_30 rfl (ty_odAtlas W Ta0) ?_
        refine y_iln dX6_markEndings_33 rfl ?_
        refine y_ald dX6_markEndings_34 (ty_atFirsts W (ty_odAtlas W Ta0)) F.1 ?_
        replace F := F.2
        refine y_isnb dX6_markEndings_35 (Nat.le_of_ble_eq_true rfl) (fun v3_1 ev3_1 => ?_)
        replace F := F v3_1 ev3_1
        show zG _ _ _ _ _ [some (.ref a0), some (.int a1), some (.int a2), some (.int v3_1)] _ _ _
        exact y_k (t_Od_markEndings_36 (fun a0' a1' a2' τ w9 f09 hb => by obtain ⟨k, hk, hI⟩ := hb; exact ih k hk a0' a1' a2' τ w9 f09 hI) W Ta0 F) ⟨rfl, rfl, rfl, rfl, trivial⟩
  exact key m0 a0 a1 a2 κ W Ta0 hI0

def w_Od_markEndings_0 (C : zC) (n0 : Nat) (Q : Int32 → zS → Prop)  (a0 : Nat) (κ : zS) : Prop :=
  ∀ _ : zT κ (zR κ odCellOf a0) = 20,
  zRun C 0 mAr_fill [.ref (zR κ odCellOf a0), .int (-1 : Int32)] κ (oV (fun κ1 =>
    ∀ _ : zW C n0 κ1,
    ∀ _ : zM (zn κ) κ κ1,
    w_Od_markEndings_12 C n0 Q  a0 (0 : Int32) (0 : Int32) κ1) noX)
theorem t_Od_markEndings_0 {C : zC} {n0 : Nat} {Q : Int32 → zS → Prop}   {a0 : Nat} {κ : zS} (W : zW C n0 κ) (Ta0 : zT κ a0 = 9) (F : w_Od_markEndings_0 C n0 Q  a0 κ) : zG C n0 2 mOd_markEndings 0 [some (.ref a0), none, none, none] [] κ (oI Q noX) := by
  unfold w_Od_markEndings_0 at F
  refine y_aln dX6_markEndings_0 rfl ?_
  refine gf_X6_57 W dX6_markEndings_1 rfl Ta0 ?_
  refine y_ic dX6_markEndings_4 zi_m1 ?_
  replace F := F (ty_odCellOf W Ta0)
  refine k_X6_211 W dX6_markEndings_5 rfl (Nat.le_of_ble_eq_true rfl) (Nat.le_of_ble_eq_true rfl)  F (fun  κ1 Wκ1 Mκ1 F => ?_) (fun _ _ h9 => False.elim h9)
  replace F := F Wκ1 Mκ1
  refine y_ic dX6_markEndings_8 zi_0 ?_
  refine y_isn dX6_markEndings_9 (Nat.le_of_ble_eq_true rfl) rfl ?_
  show zG _ _ _ _ _ [some (.ref a0), some (.int (0 : Int32)), none, none] _ _ _
  refine y_ic dX6_markEndings_10 zi_0 ?_
  refine y_isn dX6_markEndings_11 (Nat.le_of_ble_eq_true rfl) rfl ?_
  show zG _ _ _ _ _ [some (.ref a0), some (.int (0 : Int32)), some (.int (0 : Int32)), none] _ _ _
  have h4 := (ztm W Mκ1 Ta0)
  exact y_k (t_Od_markEndings_12  Wκ1 h4 F) ⟨rfl, rfl, rfl, trivial⟩

theorem Od_markEndings_run {C : zC} {n0 : Nat} {Q : Int32 → zS → Prop} {a0 : Nat} {κ : zS} (W : zW C n0 κ) (Ta0 : zT κ a0 = 9) (F : w_Od_markEndings_0 C (zn κ) Q a0 κ) : zRun C 2 mOd_markEndings [.ref a0] κ (oI Q noX) := z_run (m_ent _ 3) (t_Od_markEndings_0 (W.lo (Nat.le_trans W.1.2.1 W.1.2.2) (Nat.le_refl _)) Ta0 F)

theorem dX6_group_0 : decode cX6_group 0 = .ok (.aload_n 0, 1) := by decide +kernel
theorem dX6_group_1 : decode cX6_group 1 = .ok (.getfield 41, 3) := by decide +kernel
theorem dX6_group_4 : decode cX6_group 4 = .ok (.iconst 0, 1) := by decide +kernel
theorem dX6_group_5 : decode cX6_group 5 = .ok (.iload_n 1, 1) := by decide +kernel
theorem dX6_group_6 : decode cX6_group 6 = .ok (.iastore, 1) := by decide +kernel
theorem dX6_group_7 : decode cX6_group 7 = .ok (.aload_n 0, 1) := by decide +kernel
theorem dX6_group_8 : decode cX6_group 8 = .ok (.getfield 41, 3) := by decide +kernel
theorem dX6_group_11 : decode cX6_group 11 = .ok (.iconst 1, 1) := by decide +kernel
theorem dX6_group_12 : decode cX6_group 12 = .ok (.iload_n 2, 1) := by decide +kernel
theorem dX6_group_13 : decode cX6_group 13 = .ok (.iastore, 1) := by decide +kernel
theorem dX6_group_14 : decode cX6_group 14 = .ok (.aload_n 0, 1) := by decide +kernel
theorem dX6_group_15 : decode cX6_group 15 = .ok (.getfield 41, 3) := by decide +kernel
theorem dX6_group_18 : decode cX6_group 18 = .ok (.iconst 2, 1) := by decide +kernel
theorem dX6_group_19 : decode cX6_group 19 = .ok (.iload_n 3, 1) := by decide +kernel
theorem dX6_group_20 : decode cX6_group 20 = .ok (.iastore, 1) := by decide +kernel
theorem dX6_group_21 : decode cX6_group 21 = .ok (.aload_n 0, 1) := by decide +kernel
theorem dX6_group_22 : decode cX6_group 22 = .ok (.getfield 37, 3) := by decide +kernel
theorem dX6_group_25 : decode cX6_group 25 = .ok (.aload_n 0, 1) := by decide +kernel
theorem dX6_group_26 : decode cX6_group 26 = .ok (.getfield 41, 3) := by decide +kernel
theorem dX6_group_29 : decode cX6_group 29 = .ok (.iconst 3, 1) := by decide +kernel
theorem dX6_group_30 : decode cX6_group 30 = .ok (.sipush 3000, 3) := by decide +kernel
theorem dX6_group_33 : decode cX6_group 33 = .ok (.invokevirtual 220, 3) := by decide +kernel
theorem dX6_group_36 : decode cX6_group 36 = .ok (.iconst 0, 1) := by decide +kernel
theorem dX6_group_37 : decode cX6_group 37 = .ok (.invokestatic 224, 3) := by decide +kernel
theorem dX6_group_40 : decode cX6_group 40 = .ok (.ireturn, 1) := by decide +kernel
def w_Od_group_0 (C : zC) (n0 : Nat) (Q : Int32 → zS → Prop)  (a0 : Nat) (a1 : Int32) (a2 : Int32) (a3 : Int32) (κ : zS) : Prop :=
  inb (0 : Int32) (zN κ (zR κ odKey a0)) ∧
  ∀ κ1, κ1 = ua κ (zR κ odKey a0) ((0 : Int32)).toNatClampNeg a1 →
  ∀ _ : zW C n0 κ1,
  inb (1 : Int32) (zN κ1 (zR κ1 odKey a0)) ∧
  ∀ κ3, κ3 = ua κ1 (zR κ1 odKey a0) ((1 : Int32)).toNatClampNeg a2 →
  ∀ _ : zW C n0 κ3,
  inb (2 : Int32) (zN κ3 (zR κ3 odKey a0)) ∧
  ∀ κ5, κ5 = ua κ3 (zR κ3 odKey a0) ((2 : Int32)).toNatClampNeg a3 →
  ∀ _ : zW C n0 κ5,
  ∀ _ : zT κ5 (zR κ5 odGroups a0) = 6,
  ∀ _ : zT κ5 (zR κ5 odKey a0) = 20,
  zRun C 2 mHo_enter [.ref (zR κ5 odGroups a0), .ref (zR κ5 odKey a0), .int (3 : Int32), .int (3000 : Int32)] κ5 (oI (fun r8 κ7 =>
    ∀ _ : zW C n0 κ7,
    ∀ _ : zM (zn κ5) κ5 κ7,
    Q (if r8 < (0 : Int32) then (0 : Int32) else r8) κ7) noX)
theorem t_Od_group_0 {C : zC} {n0 : Nat} {Q : Int32 → zS → Prop}   {a0 : Nat} {a1 : Int32} {a2 : Int32} {a3 : Int32} {κ : zS} (W : zW C n0 κ) (Ta0 : zT κ a0 = 9) (F : w_Od_group_0 C n0 Q  a0 a1 a2 a3 κ) : zG C n0 3 mOd_group 0 [some (.ref a0), some (.int a1), some (.int a2), some (.int a3)] [] κ (oI Q noX) := by
  unfold w_Od_group_0 at F
  refine y_aln dX6_group_0 rfl ?_
  refine gf_X6_41 W dX6_group_1 rfl Ta0 ?_
  refine y_ic dX6_group_4 zi_0 ?_
  refine y_iln dX6_group_5 rfl ?_
  refine y_ast W dX6_group_6 (ty_odKey W Ta0) F.1 (fun κ1 eκ1 => ?_)
  replace F := F.2 κ1 eκ1
  have Wκ1 : zW C n0 κ1 := zW_ua W eκ1 (fun h => absurd (h.symm.trans (ty_odKey W Ta0)) (by decide)) (fun h => absurd (h.symm.trans (ty_odKey W Ta0)) (by decide))
  have Mκ1 : zM (zn κ) κ κ1 := by rw [eκ1]; exact zM.of rfl rfl rfl
  replace F := F Wκ1
  refine y_aln dX6_group_7 rfl ?_
  have h2 := (ztm W Mκ1 Ta0)
  refine gf_X6_41 Wκ1 dX6_group_8 rfl h2 ?_
  refine y_ic dX6_group_11 zi_1 ?_
  refine y_iln dX6_group_12 rfl ?_
  refine y_ast Wκ1 dX6_group_13 (ty_odKey Wκ1 h2) F.1 (fun κ3 eκ3 => ?_)
  replace F := F.2 κ3 eκ3
  have Wκ3 : zW C n0 κ3 := zW_ua Wκ1 eκ3 (fun h => absurd (h.symm.trans (ty_odKey Wκ1 h2)) (by decide)) (fun h => absurd (h.symm.trans (ty_odKey Wκ1 h2)) (by decide))
  have Mκ3 : zM (zn κ1) κ1 κ3 := by rw [eκ3]; exact zM.of rfl rfl rfl
  replace F := F Wκ3
  refine y_aln dX6_group_14 rfl ?_
  have h4 := (ztm Wκ1 Mκ3 h2)
  refine gf_X6_41 Wκ3 dX6_group_15 rfl h4 ?_
  refine y_ic dX6_group_18 zi_2 ?_
  refine y_iln dX6_group_19 rfl ?_
  refine y_ast Wκ3 dX6_group_20 (ty_odKey Wκ3 h4) F.1 (fun κ5 eκ5 => ?_)
  replace F := F.2 κ5 eκ5
  have Wκ5 : zW C n0 κ5 := zW_ua Wκ3 eκ5 (fun h => absurd (h.symm.trans (ty_odKey Wκ3 h4)) (by decide)) (fun h => absurd (h.symm.trans (ty_odKey Wκ3 h4)) (by decide))
  have Mκ5 : zM (zn κ3) κ3 κ5 := by rw [eκ5]; exact zM.of rfl rfl rfl
  replace F := F Wκ5
  refine y_aln dX6_group_21 rfl ?_
  have h6 := (ztm Wκ3 Mκ5 h4)
  refine gf_X6_37 Wκ5 dX6_group_22 rfl h6 ?_
  refine y_aln dX6_group_25 rfl ?_
  refine gf_X6_41 Wκ5 dX6_group_26 rfl h6 ?_
  refine y_ic dX6_group_29 zi_3 ?_
  refine y_si dX6_group_30 zs_3000 ?_
  replace F := F (ty_odGroups Wκ5 h6)
  replace F := F (ty_odKey Wκ5 h6)
  refine k_X6_220 Wκ5 dX6_group_33 rfl (Nat.le_of_ble_eq_true rfl) (Nat.le_of_ble_eq_true rfl) (Or.inl (ty_odGroups Wκ5 h6)) F (fun r8 κ7 Wκ7 Mκ7 F => ?_) (fun _ _ h9 => False.elim h9)
  replace F := F Wκ7 Mκ7
  refine y_ic dX6_group_36 zi_0 ?_
  refine y_max dX6_group_37 rfl zbi_X6_224 (Nat.le_of_ble_eq_true rfl) (Nat.le_of_ble_eq_true rfl) ?_
  exact y_ri Wκ7 dX6_group_40 rfl in_nar F

theorem Od_group_run {C : zC} {n0 : Nat} {Q : Int32 → zS → Prop} {a0 : Nat} {a1 : Int32} {a2 : Int32} {a3 : Int32} {κ : zS} (W : zW C n0 κ) (Ta0 : zT κ a0 = 9) (F : w_Od_group_0 C (zn κ) Q a0 a1 a2 a3 κ) : zRun C 3 mOd_group [.ref a0, .int a1, .int a2, .int a3] κ (oI Q noX) := z_run (m_ent _ 0) (t_Od_group_0 (W.lo (Nat.le_trans W.1.2.1 W.1.2.2) (Nat.le_refl _)) Ta0 F)

theorem dX6_tableOf_0 : decode cX6_tableOf 0 = .ok (.aload_n 0, 1) := by decide +kernel
theorem dX6_tableOf_1 : decode cX6_tableOf 1 = .ok (.getfield 37, 3) := by decide +kernel
theorem dX6_tableOf_4 : decode cX6_tableOf 4 = .ok (.getfield 128, 3) := by decide +kernel
theorem dX6_tableOf_7 : decode cX6_tableOf 7 = .ok (.istore_n 3, 1) := by decide +kernel
theorem dX6_tableOf_8 : decode cX6_tableOf 8 = .ok (.aload_n 0, 1) := by decide +kernel
theorem dX6_tableOf_9 : decode cX6_tableOf 9 = .ok (.iconst 0, 1) := by decide +kernel
theorem dX6_tableOf_10 : decode cX6_tableOf 10 = .ok (.iload_n 2, 1) := by decide +kernel
theorem dX6_tableOf_11 : decode cX6_tableOf 11 = .ok (.iconst (-1), 1) := by decide +kernel
theorem dX6_tableOf_12 : decode cX6_tableOf 12 = .ok (.if_icmp .ne 7, 3) := by decide +kernel
theorem dX6_tableOf_15 : decode cX6_tableOf 15 = .ok (.iconst 0, 1) := by decide +kernel
theorem dX6_tableOf_16 : decode cX6_tableOf 16 = .ok (.goto 15, 3) := by decide +kernel
theorem dX6_tableOf_19 : decode cX6_tableOf 19 = .ok (.aload_n 0, 1) := by decide +kernel
theorem dX6_tableOf_20 : decode cX6_tableOf 20 = .ok (.getfield 9, 3) := by decide +kernel
theorem dX6_tableOf_23 : decode cX6_tableOf 23 = .ok (.getfield 74, 3) := by decide +kernel
theorem dX6_tableOf_26 : decode cX6_tableOf 26 = .ok (.iload_n 1, 1) := by decide +kernel
theorem dX6_tableOf_27 : decode cX6_tableOf 27 = .ok (.iload_n 2, 1) := by decide +kernel
theorem dX6_tableOf_28 : decode cX6_tableOf 28 = .ok (.invokevirtual 89, 3) := by decide +kernel
theorem dX6_tableOf_31 : decode cX6_tableOf 31 = .ok (.iconst 0, 1) := by decide +kernel
theorem dX6_tableOf_32 : decode cX6_tableOf 32 = .ok (.invokevirtual 227, 3) := by decide +kernel
theorem dX6_tableOf_35 : decode cX6_tableOf 35 = .ok (.istore 4, 2) := by decide +kernel
theorem dX6_tableOf_37 : decode cX6_tableOf 37 = .ok (.iload 4, 2) := by decide +kernel
theorem dX6_tableOf_39 : decode cX6_tableOf 39 = .ok (.iload_n 3, 1) := by decide +kernel
theorem dX6_tableOf_40 : decode cX6_tableOf 40 = .ok (.if_icmp .ne 19, 3) := by decide +kernel
theorem dX6_tableOf_43 : decode cX6_tableOf 43 = .ok (.aload_n 0, 1) := by decide +kernel
theorem dX6_tableOf_44 : decode cX6_tableOf 44 = .ok (.getfield 45, 3) := by decide +kernel
theorem dX6_tableOf_47 : decode cX6_tableOf 47 = .ok (.iload 4, 2) := by decide +kernel
theorem dX6_tableOf_49 : decode cX6_tableOf 49 = .ok (.iconst 0, 1) := by decide +kernel
theorem dX6_tableOf_50 : decode cX6_tableOf 50 = .ok (.iastore, 1) := by decide +kernel
theorem dX6_tableOf_51 : decode cX6_tableOf 51 = .ok (.aload_n 0, 1) := by decide +kernel
theorem dX6_tableOf_52 : decode cX6_tableOf 52 = .ok (.getfield 48, 3) := by decide +kernel
theorem dX6_tableOf_55 : decode cX6_tableOf 55 = .ok (.iload 4, 2) := by decide +kernel
theorem dX6_tableOf_57 : decode cX6_tableOf 57 = .ok (.iconst 0, 1) := by decide +kernel
theorem dX6_tableOf_58 : decode cX6_tableOf 58 = .ok (.iastore, 1) := by decide +kernel
theorem dX6_tableOf_59 : decode cX6_tableOf 59 = .ok (.iload 4, 2) := by decide +kernel
theorem dX6_tableOf_61 : decode cX6_tableOf 61 = .ok (.ireturn, 1) := by decide +kernel
def w_Od_tableOf_31 (C : zC) (n0 : Nat) (Q : Int32 → zS → Prop)  (a0 : Nat) (a3 : Int32) (s0 : Nat) (s1 : Int32) (s2 : Int32) (κ : zS) : Prop :=
  ∀ _ : zT κ s0 = 9,
  zRun C 3 mOd_group [.ref s0, .int s1, .int s2, .int (0 : Int32)] κ (oI (fun r2 κ1 =>
    ∀ _ : zW C n0 κ1,
    ∀ _ : zM (zn κ) κ κ1,
    (¬ r2 = a3 →
      Q r2 κ1) ∧
    (r2 = a3 →
      inb r2 (zN κ1 (zR κ1 odLefts a0)) ∧
      ∀ κ5, κ5 = ua κ1 (zR κ1 odLefts a0) (r2).toNatClampNeg (0 : Int32) →
      ∀ _ : zW C n0 κ5,
      inb r2 (zN κ5 (zR κ5 odRights a0)) ∧
      ∀ κ7, κ7 = ua κ5 (zR κ5 odRights a0) (r2).toNatClampNeg (0 : Int32) →
      ∀ _ : zW C n0 κ7,
      Q r2 κ7)) noX)
theorem t_Od_tableOf_31 {C : zC} {n0 : Nat} {Q : Int32 → zS → Prop}   {a0 : Nat} {a3 : Int32} {s0 : Nat} {s1 : Int32} {s2 : Int32} {κ : zS} (W : zW C n0 κ) (Ta0 : zT κ a0 = 9) (Ts0 : zT κ s0 = 9) (F : w_Od_tableOf_31 C n0 Q  a0 a3 s0 s1 s2 κ) : zG C n0 4 mOd_tableOf 31 [some (.ref a0), none, none, some (.int a3), none] [.int s2, .int s1, .ref s0] κ (oI Q noX) := by
  unfold w_Od_tableOf_31 at F
  refine y_ic dX6_tableOf_31 zi_0 ?_
  replace F := F Ts0
  refine k_X6_227 W dX6_tableOf_32 rfl (Nat.le_of_ble_eq_true rfl) (Nat.le_of_ble_eq_true rfl) (Or.inl Ts0) F (fun r2 κ1 Wκ1 Mκ1 F => ?_) (fun _ _ h9 => False.elim h9)
  replace F := F Wκ1 Mκ1
  refine y_is dX6_tableOf_35 (Nat.le_of_ble_eq_true rfl) rfl ?_
  show zG _ _ _ _ _ [some (.ref a0), none, none, some (.int a3), some (.int r2)] _ _ _
  refine y_il dX6_tableOf_37 rfl ?_
  refine y_iln dX6_tableOf_39 rfl ?_
  refine y_iin (r2 = a3) dX6_tableOf_40 (t := 59) rfl rfl (fun c9 => ?_) (fun c9 => ?_)
  · replace F := F.1 c9
    refine y_il dX6_tableOf_59 rfl ?_
    exact y_ri Wκ1 dX6_tableOf_61 rfl in_nar F
  · replace F := F.2 c9
    refine y_aln dX6_tableOf_43 rfl ?_
    have h4 := (ztm W Mκ1 Ta0)
    refine gf_X6_45 Wκ1 dX6_tableOf_44 rfl h4 ?_
    refine y_il dX6_tableOf_47 rfl ?_
    refine y_ic dX6_tableOf_49 zi_0 ?_
    refine y_ast Wκ1 dX6_tableOf_50 (ty_odLefts Wκ1 h4) F.1 (fun κ5 eκ5 => ?_)
    replace F := F.2 κ5 eκ5
    have Wκ5 : zW C n0 κ5 := zW_ua Wκ1 eκ5 (fun h => absurd (h.symm.trans (ty_odLefts Wκ1 h4)) (by decide)) (fun h => absurd (h.symm.trans (ty_odLefts Wκ1 h4)) (by decide))
    have Mκ5 : zM (zn κ1) κ1 κ5 := by rw [eκ5]; exact zM.of rfl rfl rfl
    replace F := F Wκ5
    refine y_aln dX6_tableOf_51 rfl ?_
    have h6 := (ztm Wκ1 Mκ5 h4)
    refine gf_X6_48 Wκ5 dX6_tableOf_52 rfl h6 ?_
    refine y_il dX6_tableOf_55 rfl ?_
    refine y_ic dX6_tableOf_57 zi_0 ?_
    refine y_ast Wκ5 dX6_tableOf_58 (ty_odRights Wκ5 h6) F.1 (fun κ7 eκ7 => ?_)
    replace F := F.2 κ7 eκ7
    have Wκ7 : zW C n0 κ7 := zW_ua Wκ5 eκ7 (fun h => absurd (h.symm.trans (ty_odRights Wκ5 h6)) (by decide)) (fun h => absurd (h.symm.trans (ty_odRights Wκ5 h6)) (by decide))
    have Mκ7 : zM (zn κ5) κ5 κ7 := by rw [eκ7]; exact zM.of rfl rfl rfl
    replace F := F Wκ7
    refine y_il dX6_tableOf_59 rfl ?_
    exact y_ri Wκ7 dX6_tableOf_61 rfl in_nar F

def w_Od_tableOf_0 (C : zC) (n0 : Nat) (Q : Int32 → zS → Prop)  (a0 : Nat) (a1 : Int32) (a2 : Int32) (κ : zS) : Prop :=
  ∀ v3_1 : Int32, v3_1 = (zI κ hoTotal (zR κ odGroups a0)) →
  (¬ a2 = (-1 : Int32) →
    ∀ _ : zT κ (zR κ atEndings (zR κ odAtlas a0)) = 6,
    zRun C 1 mHo_part [.ref (zR κ atEndings (zR κ odAtlas a0)), .int a1, .int a2] κ (oI (fun r3 κ2 =>
      ∀ _ : zW C n0 κ2,
      ∀ _ : zM (zn κ) κ κ2,
      w_Od_tableOf_31 C n0 Q  a0 v3_1 a0 (0 : Int32) r3 κ2) noX)) ∧
  (a2 = (-1 : Int32) →
    w_Od_tableOf_31 C n0 Q  a0 v3_1 a0 (0 : Int32) (0 : Int32) κ)
theorem t_Od_tableOf_0 {C : zC} {n0 : Nat} {Q : Int32 → zS → Prop}   {a0 : Nat} {a1 : Int32} {a2 : Int32} {κ : zS} (W : zW C n0 κ) (Ta0 : zT κ a0 = 9) (F : w_Od_tableOf_0 C n0 Q  a0 a1 a2 κ) : zG C n0 4 mOd_tableOf 0 [some (.ref a0), some (.int a1), some (.int a2), none, none] [] κ (oI Q noX) := by
  unfold w_Od_tableOf_0 at F
  refine y_aln dX6_tableOf_0 rfl ?_
  refine gf_X6_37 W dX6_tableOf_1 rfl Ta0 ?_
  refine gf_X6_128 dX6_tableOf_4 rfl (Or.inl (ty_odGroups W Ta0)) ?_
  refine y_isnb dX6_tableOf_7 (Nat.le_of_ble_eq_true rfl) (fun v3_1 ev3_1 => ?_)
  replace F := F v3_1 ev3_1
  show zG _ _ _ _ _ [some (.ref a0), some (.int a1), some (.int a2), some (.int v3_1), none] _ _ _
  refine y_aln dX6_tableOf_8 rfl ?_
  refine y_ic dX6_tableOf_9 zi_0 ?_
  refine y_iln dX6_tableOf_10 rfl ?_
  refine y_ic dX6_tableOf_11 zi_m1 ?_
  refine y_iin (a2 = (-1 : Int32)) dX6_tableOf_12 (t := 19) rfl rfl (fun c9 => ?_) (fun c9 => ?_)
  · replace F := F.1 c9
    refine y_aln dX6_tableOf_19 rfl ?_
    refine gf_X6_9 W dX6_tableOf_20 rfl Ta0 ?_
    refine gf_X6_74 W dX6_tableOf_23 rfl (ty_odAtlas W Ta0) ?_
    refine y_iln dX6_tableOf_26 rfl ?_
    refine y_iln dX6_tableOf_27 rfl ?_
    replace F := F (ty_atEndings W (ty_odAtlas W Ta0))
    refine k_X6_89 W dX6_tableOf_28 rfl (Nat.le_of_ble_eq_true rfl) (Nat.le_of_ble_eq_true rfl) (Or.inl (ty_atEndings W (ty_odAtlas W Ta0))) F (fun r3 κ2 Wκ2 Mκ2 F => ?_) (fun _ _ h9 => False.elim h9)
    replace F := F Wκ2 Mκ2
    have h5 := (ztm W Mκ2 Ta0)
    exact y_k (t_Od_tableOf_31  Wκ2 h5 h5 F) ⟨rfl, rfl, trivial⟩
  · replace F := F.2 c9
    refine y_ic dX6_tableOf_15 zi_0 ?_
    refine y_goto dX6_tableOf_16 (t := 31) rfl ?_
    exact y_k (t_Od_tableOf_31  W Ta0 Ta0 F) ⟨rfl, rfl, trivial⟩

theorem Od_tableOf_run {C : zC} {n0 : Nat} {Q : Int32 → zS → Prop} {a0 : Nat} {a1 : Int32} {a2 : Int32} {κ : zS} (W : zW C n0 κ) (Ta0 : zT κ a0 = 9) (F : w_Od_tableOf_0 C (zn κ) Q a0 a1 a2 κ) : zRun C 4 mOd_tableOf [.ref a0, .int a1, .int a2] κ (oI Q noX) := z_run (m_ent _ 2) (t_Od_tableOf_0 (W.lo (Nat.le_trans W.1.2.1 W.1.2.2) (Nat.le_refl _)) Ta0 F)

theorem dX6_rankOf_0 : decode cX6_rankOf 0 = .ok (.aload_n 0, 1) := by decide +kernel
theorem dX6_rankOf_1 : decode cX6_rankOf 1 = .ok (.getfield 37, 3) := by decide +kernel
theorem dX6_rankOf_4 : decode cX6_rankOf 4 = .ok (.getfield 128, 3) := by decide +kernel
theorem dX6_rankOf_7 : decode cX6_rankOf 7 = .ok (.istore 5, 2) := by decide +kernel
theorem dX6_rankOf_9 : decode cX6_rankOf 9 = .ok (.aload_n 0, 1) := by decide +kernel
theorem dX6_rankOf_10 : decode cX6_rankOf 10 = .ok (.iload_n 1, 1) := by decide +kernel
theorem dX6_rankOf_11 : decode cX6_rankOf 11 = .ok (.iload_n 2, 1) := by decide +kernel
theorem dX6_rankOf_12 : decode cX6_rankOf 12 = .ok (.iload_n 3, 1) := by decide +kernel
theorem dX6_rankOf_13 : decode cX6_rankOf 13 = .ok (.invokevirtual 227, 3) := by decide +kernel
theorem dX6_rankOf_16 : decode cX6_rankOf 16 = .ok (.istore 6, 2) := by decide +kernel
theorem dX6_rankOf_18 : decode cX6_rankOf 18 = .ok (.iload 6, 2) := by decide +kernel
theorem dX6_rankOf_20 : decode cX6_rankOf 20 = .ok (.iload 5, 2) := by decide +kernel
theorem dX6_rankOf_22 : decode cX6_rankOf 22 = .ok (.if_icmp .ne 22, 3) := by decide +kernel
theorem dX6_rankOf_25 : decode cX6_rankOf 25 = .ok (.aload_n 0, 1) := by decide +kernel
theorem dX6_rankOf_26 : decode cX6_rankOf 26 = .ok (.getfield 54, 3) := by decide +kernel
theorem dX6_rankOf_29 : decode cX6_rankOf 29 = .ok (.iload 6, 2) := by decide +kernel
theorem dX6_rankOf_31 : decode cX6_rankOf 31 = .ok (.aload 4, 2) := by decide +kernel
theorem dX6_rankOf_33 : decode cX6_rankOf 33 = .ok (.iload_n 2, 1) := by decide +kernel
theorem dX6_rankOf_34 : decode cX6_rankOf 34 = .ok (.iaload, 1) := by decide +kernel
theorem dX6_rankOf_35 : decode cX6_rankOf 35 = .ok (.iastore, 1) := by decide +kernel
theorem dX6_rankOf_36 : decode cX6_rankOf 36 = .ok (.aload 4, 2) := by decide +kernel
theorem dX6_rankOf_38 : decode cX6_rankOf 38 = .ok (.iload_n 2, 1) := by decide +kernel
theorem dX6_rankOf_39 : decode cX6_rankOf 39 = .ok (.dup2, 1) := by decide +kernel
theorem dX6_rankOf_40 : decode cX6_rankOf 40 = .ok (.iaload, 1) := by decide +kernel
theorem dX6_rankOf_41 : decode cX6_rankOf 41 = .ok (.iconst 1, 1) := by decide +kernel
theorem dX6_rankOf_42 : decode cX6_rankOf 42 = .ok (.iadd, 1) := by decide +kernel
theorem dX6_rankOf_43 : decode cX6_rankOf 43 = .ok (.iastore, 1) := by decide +kernel
theorem dX6_rankOf_44 : decode cX6_rankOf 44 = .ok (.aload_n 0, 1) := by decide +kernel
theorem dX6_rankOf_45 : decode cX6_rankOf 45 = .ok (.getfield 54, 3) := by decide +kernel
theorem dX6_rankOf_48 : decode cX6_rankOf 48 = .ok (.iload 6, 2) := by decide +kernel
theorem dX6_rankOf_50 : decode cX6_rankOf 50 = .ok (.iaload, 1) := by decide +kernel
theorem dX6_rankOf_51 : decode cX6_rankOf 51 = .ok (.ireturn, 1) := by decide +kernel
def w_Od_rankOf_44 (C : zC) (n0 : Nat) (Q : Int32 → zS → Prop)  (a0 : Nat) (a6 : Int32) (κ : zS) : Prop :=
  inb a6 (zN κ (zR κ odRanks a0)) ∧
  Q (zA κ (zR κ odRanks a0) (a6).toNatClampNeg) κ
theorem t_Od_rankOf_44 {C : zC} {n0 : Nat} {Q : Int32 → zS → Prop}   {a0 : Nat} {a6 : Int32} {κ : zS} (W : zW C n0 κ) (Ta0 : zT κ a0 = 9) (F : w_Od_rankOf_44 C n0 Q  a0 a6 κ) : zG C n0 4 mOd_rankOf 44 [some (.ref a0), none, none, none, none, none, some (.int a6)] [] κ (oI Q noX) := by
  unfold w_Od_rankOf_44 at F
  refine y_aln dX6_rankOf_44 rfl ?_
  refine gf_X6_54 W dX6_rankOf_45 rfl Ta0 ?_
  refine y_il dX6_rankOf_48 rfl ?_
  refine y_ald dX6_rankOf_50 (ty_odRanks W Ta0) F.1 ?_
  replace F := F.2
  exact y_ri W dX6_rankOf_51 rfl in_nar F

def w_Od_rankOf_0 (C : zC) (n0 : Nat) (Q : Int32 → zS → Prop)  (a0 : Nat) (a1 : Int32) (a2 : Int32) (a3 : Int32) (a4 : Nat) (κ : zS) : Prop :=
  ∀ v5_1 : Int32, v5_1 = (zI κ hoTotal (zR κ odGroups a0)) →
  ∀ _ : zT κ a0 = 9,
  zRun C 3 mOd_group [.ref a0, .int a1, .int a2, .int a3] κ (oI (fun r3 κ2 =>
    ∀ _ : zW C n0 κ2,
    ∀ _ : zM (zn κ) κ κ2,
    (¬ r3 = v5_1 →
      w_Od_rankOf_44 C n0 Q  a0 r3 κ2) ∧
    (r3 = v5_1 →
      inb a2 (zN κ2 a4) ∧
      inb r3 (zN κ2 (zR κ2 odRanks a0)) ∧
      ∀ κ8, κ8 = ua κ2 (zR κ2 odRanks a0) (r3).toNatClampNeg (zA κ2 a4 (a2).toNatClampNeg) →
      ∀ _ : zW C n0 κ8,
      inb a2 (zN κ8 a4) ∧
      inb a2 (zN κ8 a4) ∧
      ∀ κ10, κ10 = ua κ8 a4 (a2).toNatClampNeg ((zA κ8 a4 (a2).toNatClampNeg) + (1 : Int32)) →
      ∀ _ : zW C n0 κ10,
      w_Od_rankOf_44 C n0 Q  a0 r3 κ10)) noX)
theorem t_Od_rankOf_0 {C : zC} {n0 : Nat} {Q : Int32 → zS → Prop}   {a0 : Nat} {a1 : Int32} {a2 : Int32} {a3 : Int32} {a4 : Nat} {κ : zS} (W : zW C n0 κ) (Ta0 : zT κ a0 = 9) (Ta4 : zT κ a4 = 20) (F : w_Od_rankOf_0 C n0 Q  a0 a1 a2 a3 a4 κ) : zG C n0 4 mOd_rankOf 0 [some (.ref a0), some (.int a1), some (.int a2), some (.int a3), some (.ref a4), none, none] [] κ (oI Q noX) := by
  unfold w_Od_rankOf_0 at F
  refine y_aln dX6_rankOf_0 rfl ?_
  refine gf_X6_37 W dX6_rankOf_1 rfl Ta0 ?_
  refine gf_X6_128 dX6_rankOf_4 rfl (Or.inl (ty_odGroups W Ta0)) ?_
  refine y_isb dX6_rankOf_7 (Nat.le_of_ble_eq_true rfl) (fun v5_1 ev5_1 => ?_)
  replace F := F v5_1 ev5_1
  show zG _ _ _ _ _ [some (.ref a0), some (.int a1), some (.int a2), some (.int a3), some (.ref a4), some (.int v5_1), none] _ _ _
  refine y_aln dX6_rankOf_9 rfl ?_
  refine y_iln dX6_rankOf_10 rfl ?_
  refine y_iln dX6_rankOf_11 rfl ?_
  refine y_iln dX6_rankOf_12 rfl ?_
  replace F := F Ta0
  refine k_X6_227 W dX6_rankOf_13 rfl (Nat.le_of_ble_eq_true rfl) (Nat.le_of_ble_eq_true rfl) (Or.inl Ta0) F (fun r3 κ2 Wκ2 Mκ2 F => ?_) (fun _ _ h9 => False.elim h9)
  replace F := F Wκ2 Mκ2
  refine y_is dX6_rankOf_16 (Nat.le_of_ble_eq_true rfl) rfl ?_
  show zG _ _ _ _ _ [some (.ref a0), some (.int a1), some (.int a2), some (.int a3), some (.ref a4), some (.int v5_1), some (.int r3)] _ _ _
  refine y_il dX6_rankOf_18 rfl ?_
  refine y_il dX6_rankOf_20 rfl ?_
  refine y_iin (r3 = v5_1) dX6_rankOf_22 (t := 44) rfl rfl (fun c9 => ?_) (fun c9 => ?_)
  · replace F := F.1 c9
    have h5 := (ztm W Mκ2 Ta0)
    exact y_k (t_Od_rankOf_44  Wκ2 h5 F) ⟨rfl, rfl, trivial⟩
  · replace F := F.2 c9
    refine y_aln dX6_rankOf_25 rfl ?_
    have h6 := (ztm W Mκ2 Ta0)
    refine gf_X6_54 Wκ2 dX6_rankOf_26 rfl h6 ?_
    refine y_il dX6_rankOf_29 rfl ?_
    refine y_al dX6_rankOf_31 rfl ?_
    refine y_iln dX6_rankOf_33 rfl ?_
    have h7 := (ztm W Mκ2 Ta4)
    refine y_ald dX6_rankOf_34 h7 F.1 ?_
    replace F := F.2
    refine y_ast Wκ2 dX6_rankOf_35 (ty_odRanks Wκ2 h6) F.1 (fun κ8 eκ8 => ?_)
    replace F := F.2 κ8 eκ8
    have Wκ8 : zW C n0 κ8 := zW_ua Wκ2 eκ8 (fun h => absurd (h.symm.trans (ty_odRanks Wκ2 h6)) (by decide)) (fun h => absurd (h.symm.trans (ty_odRanks Wκ2 h6)) (by decide))
    have Mκ8 : zM (zn κ2) κ2 κ8 := by rw [eκ8]; exact zM.of rfl rfl rfl
    replace F := F Wκ8
    refine y_al dX6_rankOf_36 rfl ?_
    refine y_iln dX6_rankOf_38 rfl ?_
    refine y_dup2 dX6_rankOf_39 rfl rfl ?_
    have h9 := (ztm Wκ2 Mκ8 h7)
    refine y_ald dX6_rankOf_40 h9 F.1 ?_
    replace F := F.2
    refine y_ic dX6_rankOf_41 zi_1 ?_
    refine y_iadd dX6_rankOf_42 ?_
    refine y_ast Wκ8 dX6_rankOf_43 h9 F.1 (fun κ10 eκ10 => ?_)
    replace F := F.2 κ10 eκ10
    have Wκ10 : zW C n0 κ10 := zW_ua Wκ8 eκ10 (fun h => absurd (h.symm.trans h9) (by decide)) (fun h => absurd (h.symm.trans h9) (by decide))
    have Mκ10 : zM (zn κ8) κ8 κ10 := by rw [eκ10]; exact zM.of rfl rfl rfl
    replace F := F Wκ10
    have h11 := (ztm Wκ8 Mκ10 (ztm Wκ2 Mκ8 h6))
    exact y_k (t_Od_rankOf_44  Wκ10 h11 F) ⟨rfl, rfl, trivial⟩

theorem Od_rankOf_run {C : zC} {n0 : Nat} {Q : Int32 → zS → Prop} {a0 : Nat} {a1 : Int32} {a2 : Int32} {a3 : Int32} {a4 : Nat} {κ : zS} (W : zW C n0 κ) (Ta0 : zT κ a0 = 9) (Ta4 : zT κ a4 = 20) (F : w_Od_rankOf_0 C (zn κ) Q a0 a1 a2 a3 a4 κ) : zRun C 4 mOd_rankOf [.ref a0, .int a1, .int a2, .int a3, .ref a4] κ (oI Q noX) := z_run (m_ent _ 2) (t_Od_rankOf_0 (W.lo (Nat.le_trans W.1.2.1 W.1.2.2) (Nat.le_refl _)) Ta0 Ta4 F)

theorem dX6_placeTables_0 : decode cX6_placeTables 0 = .ok (.iconst 0, 1) := by decide +kernel
theorem dX6_placeTables_1 : decode cX6_placeTables 1 = .ok (.istore_n 2, 1) := by decide +kernel
theorem dX6_placeTables_2 : decode cX6_placeTables 2 = .ok (.iconst 0, 1) := by decide +kernel
theorem dX6_placeTables_3 : decode cX6_placeTables 3 = .ok (.istore_n 3, 1) := by decide +kernel
theorem dX6_placeTables_4 : decode cX6_placeTables 4 = .ok (.iload_n 3, 1) := by decide +kernel
theorem dX6_placeTables_5 : decode cX6_placeTables 5 = .ok (.aload_n 0, 1) := by decide +kernel
theorem dX6_placeTables_6 : decode cX6_placeTables 6 = .ok (.getfield 37, 3) := by decide +kernel
theorem dX6_placeTables_9 : decode cX6_placeTables 9 = .ok (.getfield 128, 3) := by decide +kernel
theorem dX6_placeTables_12 : decode cX6_placeTables 12 = .ok (.if_icmp .ge 49, 3) := by decide +kernel
theorem dX6_placeTables_15 : decode cX6_placeTables 15 = .ok (.iload_n 2, 1) := by decide +kernel
theorem dX6_placeTables_16 : decode cX6_placeTables 16 = .ok (.iload_n 1, 1) := by decide +kernel
theorem dX6_placeTables_17 : decode cX6_placeTables 17 = .ok (.if_icmp .gt 44, 3) := by decide +kernel
theorem dX6_placeTables_20 : decode cX6_placeTables 20 = .ok (.aload_n 0, 1) := by decide +kernel
theorem dX6_placeTables_21 : decode cX6_placeTables 21 = .ok (.getfield 37, 3) := by decide +kernel
theorem dX6_placeTables_24 : decode cX6_placeTables 24 = .ok (.iload_n 3, 1) := by decide +kernel
theorem dX6_placeTables_25 : decode cX6_placeTables 25 = .ok (.iconst 0, 1) := by decide +kernel
theorem dX6_placeTables_26 : decode cX6_placeTables 26 = .ok (.invokevirtual 89, 3) := by decide +kernel
theorem dX6_placeTables_29 : decode cX6_placeTables 29 = .ok (.ifCond .ne 26, 3) := by decide +kernel
theorem dX6_placeTables_32 : decode cX6_placeTables 32 = .ok (.aload_n 0, 1) := by decide +kernel
theorem dX6_placeTables_33 : decode cX6_placeTables 33 = .ok (.getfield 51, 3) := by decide +kernel
theorem dX6_placeTables_36 : decode cX6_placeTables 36 = .ok (.iload_n 3, 1) := by decide +kernel
theorem dX6_placeTables_37 : decode cX6_placeTables 37 = .ok (.iload_n 2, 1) := by decide +kernel
theorem dX6_placeTables_38 : decode cX6_placeTables 38 = .ok (.iastore, 1) := by decide +kernel
theorem dX6_placeTables_39 : decode cX6_placeTables 39 = .ok (.iload_n 2, 1) := by decide +kernel
theorem dX6_placeTables_40 : decode cX6_placeTables 40 = .ok (.aload_n 0, 1) := by decide +kernel
theorem dX6_placeTables_41 : decode cX6_placeTables 41 = .ok (.getfield 45, 3) := by decide +kernel
theorem dX6_placeTables_44 : decode cX6_placeTables 44 = .ok (.iload_n 3, 1) := by decide +kernel
theorem dX6_placeTables_45 : decode cX6_placeTables 45 = .ok (.iaload, 1) := by decide +kernel
theorem dX6_placeTables_46 : decode cX6_placeTables 46 = .ok (.aload_n 0, 1) := by decide +kernel
theorem dX6_placeTables_47 : decode cX6_placeTables 47 = .ok (.getfield 48, 3) := by decide +kernel
theorem dX6_placeTables_50 : decode cX6_placeTables 50 = .ok (.iload_n 3, 1) := by decide +kernel
theorem dX6_placeTables_51 : decode cX6_placeTables 51 = .ok (.iaload, 1) := by decide +kernel
theorem dX6_placeTables_52 : decode cX6_placeTables 52 = .ok (.imul, 1) := by decide +kernel
theorem dX6_placeTables_53 : decode cX6_placeTables 53 = .ok (.iadd, 1) := by decide +kernel
theorem dX6_placeTables_54 : decode cX6_placeTables 54 = .ok (.istore_n 2, 1) := by decide +kernel
theorem dX6_placeTables_55 : decode cX6_placeTables 55 = .ok (.iinc 3 1, 3) := by decide +kernel
theorem dX6_placeTables_58 : decode cX6_placeTables 58 = .ok (.goto (-54), 3) := by decide +kernel
theorem dX6_placeTables_61 : decode cX6_placeTables 61 = .ok (.iload_n 2, 1) := by decide +kernel
theorem dX6_placeTables_62 : decode cX6_placeTables 62 = .ok (.ireturn, 1) := by decide +kernel
def w_Od_placeTables_4 (C : zC) (n0 : Nat) (Q : Int32 → zS → Prop)  (a0 : Nat) (a1 : Int32) (a2 : Int32) (a3 : Int32) (κ : zS) : Prop :=
  ∃ I : Nat → Nat → Int32 → Int32 → Int32 → zS → Prop, (∃ n, I n a0 a1 a2 a3 κ) ∧ ∀ n a0 a1 a2 a3 κ, zW C n0 κ → zT κ a0 = 9 → I n a0 a1 a2 a3 κ →
    ((zI κ hoTotal (zR κ odGroups a0)) ≤ a3 →
      Q a2 κ) ∧
    (¬ (zI κ hoTotal (zR κ odGroups a0)) ≤ a3 →
      (a1 < a2 →
        Q a2 κ) ∧
      (¬ a1 < a2 →
        ∀ _ : zT κ (zR κ odGroups a0) = 6,
        zRun C 1 mHo_part [.ref (zR κ odGroups a0), .int a3, .int (0 : Int32)] κ (oI (fun r2 κ1 =>
          ∀ _ : zW C n0 κ1,
          ∀ _ : zM (zn κ) κ κ1,
          (¬ r2 = (0 : Int32) →
            ∀ v3_4 : Int32, v3_4 = a3 + (1 : Int32) →
            ∃ k < n, I k a0 a1 a2 v3_4 κ1) ∧
          (r2 = (0 : Int32) →
            inb a3 (zN κ1 (zR κ1 odBases a0)) ∧
            ∀ κ7, κ7 = ua κ1 (zR κ1 odBases a0) (a3).toNatClampNeg a2 →
            ∀ _ : zW C n0 κ7,
            inb a3 (zN κ7 (zR κ7 odLefts a0)) ∧
            inb a3 (zN κ7 (zR κ7 odRights a0)) ∧
            ∀ v2_9 : Int32, v2_9 = (a2 + ((zA κ7 (zR κ7 odLefts a0) (a3).toNatClampNeg) * (zA κ7 (zR κ7 odRights a0) (a3).toNatClampNeg))) →
            ∀ v3_10 : Int32, v3_10 = a3 + (1 : Int32) →
            ∃ k < n, I k a0 a1 v2_9 v3_10 κ7)) noX)))
theorem t_Od_placeTables_4 {C : zC} {n0 : Nat} {Q : Int32 → zS → Prop}   {a0 : Nat} {a1 : Int32} {a2 : Int32} {a3 : Int32} {κ : zS} (W : zW C n0 κ) (Ta0 : zT κ a0 = 9) (F : w_Od_placeTables_4 C n0 Q  a0 a1 a2 a3 κ) : zG C n0 2 mOd_placeTables 4 [some (.ref a0), some (.int a1), some (.int a2), some (.int a3)] [] κ (oI Q noX) := by
  obtain ⟨I, ⟨m0, hI0⟩, F0⟩ := F
  have key : ∀ n a0 a1 a2 a3 κ, zW C n0 κ → zT κ a0 = 9 → I n a0 a1 a2 a3 κ → zG C n0 2 mOd_placeTables 4 [some (.ref a0), some (.int a1), some (.int a2), some (.int a3)] [] κ (oI Q noX) := by
    intro n
    induction n using Nat.strongRecOn with
    | _ n ih =>
      intro a0 a1 a2 a3 κ W Ta0 hI
      have F := F0 n a0 a1 a2 a3 κ W Ta0 hI
      clear hI hI0
      refine y_iln dX6_placeTables_4 rfl ?_
      refine y_aln dX6_placeTables_5 rfl ?_
      refine gf_X6_37 W dX6_placeTables_6 rfl Ta0 ?_
      refine gf_X6_128 dX6_placeTables_9 rfl (Or.inl (ty_odGroups W Ta0)) ?_
      refine y_ii ((zI κ hoTotal (zR κ odGroups a0)) ≤ a3) dX6_placeTables_12 (t := 61) rfl rfl (fun c9 => ?_) (fun c9 => ?_)
      · replace F := F.1 c9
        refine y_iln dX6_placeTables_61 rfl ?_
        exact y_ri W dX6_placeTables_62 rfl in_nar F
      · replace F := F.2 c9
        refine y_iln dX6_placeTables_15 rfl ?_
        refine y_iln dX6_placeTables_16 rfl ?_
        refine y_ii (a1 < a2) dX6_placeTables_17 (t := 61) rfl rfl (fun c9 => ?_) (fun c9 => ?_)
        · replace F := F.1 c9
          refine y_iln dX6_placeTables_61 rfl ?_
          exact y_ri W dX6_placeTables_62 rfl in_nar F
        · replace F := F.2 c9
          refine y_aln dX6_placeTables_20 rfl ?_
          refine gf_X6_37 W dX6_placeTables_21 rfl Ta0 ?_
          refine y_iln dX6_placeTables_24 rfl ?_
          refine y_ic dX6_placeTables_25 zi_0 ?_
          replace F := F (ty_odGroups W Ta0)
          refine k_X6_89 W dX6_placeTables_26 rfl (Nat.le_of_ble_eq_true rfl) (Nat.le_of_ble_eq_true rfl) (Or.inl (ty_odGroups W Ta0)) F (fun r2 κ1 Wκ1 Mκ1 F => ?_) (fun _ _ h9 => False.elim h9)
          replace F := F Wκ1 Mκ1
          refine y_in (r2 = (0 : Int32)) dX6_placeTables_29 (t := 55) rfl rfl (fun c9 => ?_) (fun c9 => ?_)
          · replace F := F.1 c9
            refine y_incb dX6_placeTables_55 zi_1 rfl (Nat.le_of_ble_eq_true rfl) (fun v3_4 ev3_4 => ?_)
            replace F := F v3_4 ev3_4
            show zG _ _ _ _ _ [some (.ref a0), some (.int a1), some (.int a2), some (.int v3_4)] _ _ _
            refine y_goto dX6_placeTables_58 (t := 4) rfl ?_
            have h5 := (ztm W Mκ1 Ta0)
            obtain ⟨k, hk, hI⟩ := F
            exact y_k (ih k hk _ _ _ _ _ Wκ1 h5 hI) ⟨rfl, rfl, rfl, rfl, trivial⟩
          · replace F := F.2 c9
            refine y_aln dX6_placeTables_32 rfl ?_
            have h6 := (ztm W Mκ1 Ta0)
            refine gf_X6_51 Wκ1 dX6_placeTables_33 rfl h6 ?_
            refine y_iln dX6_placeTables_36 rfl ?_
            refine y_iln dX6_placeTables_37 rfl ?_
            refine y_ast Wκ1 dX6_placeTables_38 (ty_odBases Wκ1 h6) F.1 (fun κ7 eκ7 => ?_)
            replace F := F.2 κ7 eκ7
            have Wκ7 : zW C n0 κ7 := zW_ua Wκ1 eκ7 (fun h => absurd (h.symm.trans (ty_odBases Wκ1 h6)) (by decide)) (fun h => absurd (h.symm.trans (ty_odBases Wκ1 h6)) (by decide))
            have Mκ7 : zM (zn κ1) κ1 κ7 := by rw [eκ7]; exact zM.of rfl rfl rfl
            replace F := F Wκ7
            refine y_iln dX6_placeTables_39 rfl ?_
            refine y_aln dX6_placeTables_40 rfl ?_
            have h8 := (ztm Wκ1 Mκ7 h6)
            refine gf_X6_45 Wκ7 dX6_placeTables_41 rfl h8 ?_
            refine y_iln dX6_placeTables_44 rfl ?_
            refine y_ald dX6_placeTables_45 (ty_odLefts Wκ7 h8) F.1 ?_
            replace F := F.2
            refine y_aln dX6_placeTables_46 rfl ?_
            refine gf_X6_48 Wκ7 dX6_placeTables_47 rfl h8 ?_
            refine y_iln dX6_placeTables_50 rfl ?_
            refine y_ald dX6_placeTables_51 (ty_odRights Wκ7 h8) F.1 ?_
            replace F := F.2
            refine y_imul dX6_placeTables_52 ?_
            refine y_iadd dX6_placeTables_53 ?_
            refine y_isnb dX6_placeTables_54 (Nat.le_of_ble_eq_true rfl) (fun v2_9 ev2_9 => ?_)
            replace F := F v2_9 ev2_9
            show zG _ _ _ _ _ [some (.ref a0), some (.int a1), some (.int v2_9), some (.int a3)] _ _ _
            refine y_incb dX6_placeTables_55 zi_1 rfl (Nat.le_of_ble_eq_true rfl) (fun v3_10 ev3_10 => ?_)
            replace F := F v3_10 ev3_10
            show zG _ _ _ _ _ [some (.ref a0), some (.int a1), some (.int v2_9), some (.int v3_10)] _ _ _
            refine y_goto dX6_placeTables_58 (t := 4) rfl ?_
            obtain ⟨k, hk, hI⟩ := F
            exact y_k (ih k hk _ _ _ _ _ Wκ7 h8 hI) ⟨rfl, rfl, rfl, rfl, trivial⟩
  exact key m0 a0 a1 a2 a3 κ W Ta0 hI0

def w_Od_placeTables_0 (C : zC) (n0 : Nat) (Q : Int32 → zS → Prop)  (a0 : Nat) (a1 : Int32) (κ : zS) : Prop :=
  w_Od_placeTables_4 C n0 Q  a0 a1 (0 : Int32) (0 : Int32) κ
theorem t_Od_placeTables_0 {C : zC} {n0 : Nat} {Q : Int32 → zS → Prop}   {a0 : Nat} {a1 : Int32} {κ : zS} (W : zW C n0 κ) (Ta0 : zT κ a0 = 9) (F : w_Od_placeTables_0 C n0 Q  a0 a1 κ) : zG C n0 2 mOd_placeTables 0 [some (.ref a0), some (.int a1), none, none] [] κ (oI Q noX) := by
  unfold w_Od_placeTables_0 at F
  refine y_ic dX6_placeTables_0 zi_0 ?_
  refine y_isn dX6_placeTables_1 (Nat.le_of_ble_eq_true rfl) rfl ?_
  show zG _ _ _ _ _ [some (.ref a0), some (.int a1), some (.int (0 : Int32)), none] _ _ _
  refine y_ic dX6_placeTables_2 zi_0 ?_
  refine y_isn dX6_placeTables_3 (Nat.le_of_ble_eq_true rfl) rfl ?_
  show zG _ _ _ _ _ [some (.ref a0), some (.int a1), some (.int (0 : Int32)), some (.int (0 : Int32))] _ _ _
  exact y_k (t_Od_placeTables_4  W Ta0 F) ⟨rfl, rfl, rfl, rfl, trivial⟩

theorem Od_placeTables_run {C : zC} {n0 : Nat} {Q : Int32 → zS → Prop} {a0 : Nat} {a1 : Int32} {κ : zS} (W : zW C n0 κ) (Ta0 : zT κ a0 = 9) (F : w_Od_placeTables_0 C (zn κ) Q a0 a1 κ) : zRun C 2 mOd_placeTables [.ref a0, .int a1] κ (oI Q noX) := z_run (m_ent _ 2) (t_Od_placeTables_0 (W.lo (Nat.le_trans W.1.2.1 W.1.2.2) (Nat.le_refl _)) Ta0 F)

theorem dX6_linkCells_0 : decode cX6_linkCells 0 = .ok (.aload_n 0, 1) := by decide +kernel
theorem dX6_linkCells_1 : decode cX6_linkCells 1 = .ok (.getfield 60, 3) := by decide +kernel
theorem dX6_linkCells_4 : decode cX6_linkCells 4 = .ok (.iconst (-1), 1) := by decide +kernel
theorem dX6_linkCells_5 : decode cX6_linkCells 5 = .ok (.invokestatic 211, 3) := by decide +kernel
theorem dX6_linkCells_8 : decode cX6_linkCells 8 = .ok (.aload_n 0, 1) := by decide +kernel
theorem dX6_linkCells_9 : decode cX6_linkCells 9 = .ok (.getfield 9, 3) := by decide +kernel
theorem dX6_linkCells_12 : decode cX6_linkCells 12 = .ok (.getfield 125, 3) := by decide +kernel
theorem dX6_linkCells_15 : decode cX6_linkCells 15 = .ok (.getfield 128, 3) := by decide +kernel
theorem dX6_linkCells_18 : decode cX6_linkCells 18 = .ok (.iconst 1, 1) := by decide +kernel
theorem dX6_linkCells_19 : decode cX6_linkCells 19 = .ok (.isub, 1) := by decide +kernel
theorem dX6_linkCells_20 : decode cX6_linkCells 20 = .ok (.istore_n 2, 1) := by decide +kernel
theorem dX6_linkCells_21 : decode cX6_linkCells 21 = .ok (.iload_n 2, 1) := by decide +kernel
theorem dX6_linkCells_22 : decode cX6_linkCells 22 = .ok (.ifCond .lt 88, 3) := by decide +kernel
theorem dX6_linkCells_25 : decode cX6_linkCells 25 = .ok (.aload_n 0, 1) := by decide +kernel
theorem dX6_linkCells_26 : decode cX6_linkCells 26 = .ok (.getfield 9, 3) := by decide +kernel
theorem dX6_linkCells_29 : decode cX6_linkCells 29 = .ok (.getfield 105, 3) := by decide +kernel
theorem dX6_linkCells_32 : decode cX6_linkCells 32 = .ok (.iload_n 2, 1) := by decide +kernel
theorem dX6_linkCells_33 : decode cX6_linkCells 33 = .ok (.iconst 1, 1) := by decide +kernel
theorem dX6_linkCells_34 : decode cX6_linkCells 34 = .ok (.iadd, 1) := by decide +kernel
theorem dX6_linkCells_35 : decode cX6_linkCells 35 = .ok (.iaload, 1) := by decide +kernel
theorem dX6_linkCells_36 : decode cX6_linkCells 36 = .ok (.iconst 1, 1) := by decide +kernel
theorem dX6_linkCells_37 : decode cX6_linkCells 37 = .ok (.isub, 1) := by decide +kernel
theorem dX6_linkCells_38 : decode cX6_linkCells 38 = .ok (.istore_n 3, 1) := by decide +kernel
theorem dX6_linkCells_39 : decode cX6_linkCells 39 = .ok (.iload_n 3, 1) := by decide +kernel
theorem dX6_linkCells_40 : decode cX6_linkCells 40 = .ok (.aload_n 0, 1) := by decide +kernel
theorem dX6_linkCells_41 : decode cX6_linkCells 41 = .ok (.getfield 9, 3) := by decide +kernel
theorem dX6_linkCells_44 : decode cX6_linkCells 44 = .ok (.getfield 105, 3) := by decide +kernel
theorem dX6_linkCells_47 : decode cX6_linkCells 47 = .ok (.iload_n 2, 1) := by decide +kernel
theorem dX6_linkCells_48 : decode cX6_linkCells 48 = .ok (.iaload, 1) := by decide +kernel
theorem dX6_linkCells_49 : decode cX6_linkCells 49 = .ok (.if_icmp .lt 55, 3) := by decide +kernel
theorem dX6_linkCells_52 : decode cX6_linkCells 52 = .ok (.aload_n 0, 1) := by decide +kernel
theorem dX6_linkCells_53 : decode cX6_linkCells 53 = .ok (.iload_n 2, 1) := by decide +kernel
theorem dX6_linkCells_54 : decode cX6_linkCells 54 = .ok (.iload_n 3, 1) := by decide +kernel
theorem dX6_linkCells_55 : decode cX6_linkCells 55 = .ok (.invokevirtual 217, 3) := by decide +kernel
theorem dX6_linkCells_58 : decode cX6_linkCells 58 = .ok (.ifCond .eq 40, 3) := by decide +kernel
theorem dX6_linkCells_61 : decode cX6_linkCells 61 = .ok (.aload_n 0, 1) := by decide +kernel
theorem dX6_linkCells_62 : decode cX6_linkCells 62 = .ok (.getfield 57, 3) := by decide +kernel
theorem dX6_linkCells_65 : decode cX6_linkCells 65 = .ok (.aload_n 0, 1) := by decide +kernel
theorem dX6_linkCells_66 : decode cX6_linkCells 66 = .ok (.getfield 9, 3) := by decide +kernel
theorem dX6_linkCells_69 : decode cX6_linkCells 69 = .ok (.getfield 115, 3) := by decide +kernel
theorem dX6_linkCells_72 : decode cX6_linkCells 72 = .ok (.iload_n 3, 1) := by decide +kernel
theorem dX6_linkCells_73 : decode cX6_linkCells 73 = .ok (.iaload, 1) := by decide +kernel
theorem dX6_linkCells_74 : decode cX6_linkCells 74 = .ok (.iaload, 1) := by decide +kernel
theorem dX6_linkCells_75 : decode cX6_linkCells 75 = .ok (.istore 4, 2) := by decide +kernel
theorem dX6_linkCells_77 : decode cX6_linkCells 77 = .ok (.aload_n 0, 1) := by decide +kernel
theorem dX6_linkCells_78 : decode cX6_linkCells 78 = .ok (.getfield 63, 3) := by decide +kernel
theorem dX6_linkCells_81 : decode cX6_linkCells 81 = .ok (.iload_n 3, 1) := by decide +kernel
theorem dX6_linkCells_82 : decode cX6_linkCells 82 = .ok (.aload_n 0, 1) := by decide +kernel
theorem dX6_linkCells_83 : decode cX6_linkCells 83 = .ok (.getfield 60, 3) := by decide +kernel
theorem dX6_linkCells_86 : decode cX6_linkCells 86 = .ok (.iload 4, 2) := by decide +kernel
theorem dX6_linkCells_88 : decode cX6_linkCells 88 = .ok (.iaload, 1) := by decide +kernel
theorem dX6_linkCells_89 : decode cX6_linkCells 89 = .ok (.iastore, 1) := by decide +kernel
theorem dX6_linkCells_90 : decode cX6_linkCells 90 = .ok (.aload_n 0, 1) := by decide +kernel
theorem dX6_linkCells_91 : decode cX6_linkCells 91 = .ok (.getfield 60, 3) := by decide +kernel
theorem dX6_linkCells_94 : decode cX6_linkCells 94 = .ok (.iload 4, 2) := by decide +kernel
theorem dX6_linkCells_96 : decode cX6_linkCells 96 = .ok (.iload_n 3, 1) := by decide +kernel
theorem dX6_linkCells_97 : decode cX6_linkCells 97 = .ok (.iastore, 1) := by decide +kernel
theorem dX6_linkCells_98 : decode cX6_linkCells 98 = .ok (.iinc 3 (-1), 3) := by decide +kernel
theorem dX6_linkCells_101 : decode cX6_linkCells 101 = .ok (.goto (-62), 3) := by decide +kernel
theorem dX6_linkCells_104 : decode cX6_linkCells 104 = .ok (.iinc 2 (-1), 3) := by decide +kernel
theorem dX6_linkCells_107 : decode cX6_linkCells 107 = .ok (.goto (-86), 3) := by decide +kernel
theorem dX6_linkCells_110 : decode cX6_linkCells 110 = .ok (.iconst 0, 1) := by decide +kernel
theorem dX6_linkCells_111 : decode cX6_linkCells 111 = .ok (.istore_n 2, 1) := by decide +kernel
theorem dX6_linkCells_112 : decode cX6_linkCells 112 = .ok (.iload_n 2, 1) := by decide +kernel
theorem dX6_linkCells_113 : decode cX6_linkCells 113 = .ok (.iload_n 1, 1) := by decide +kernel
theorem dX6_linkCells_114 : decode cX6_linkCells 114 = .ok (.if_icmp .ge 21, 3) := by decide +kernel
theorem dX6_linkCells_117 : decode cX6_linkCells 117 = .ok (.aload_n 0, 1) := by decide +kernel
theorem dX6_linkCells_118 : decode cX6_linkCells 118 = .ok (.getfield 60, 3) := by decide +kernel
theorem dX6_linkCells_121 : decode cX6_linkCells 121 = .ok (.iload_n 2, 1) := by decide +kernel
theorem dX6_linkCells_122 : decode cX6_linkCells 122 = .ok (.iaload, 1) := by decide +kernel
theorem dX6_linkCells_123 : decode cX6_linkCells 123 = .ok (.iconst (-1), 1) := by decide +kernel
theorem dX6_linkCells_124 : decode cX6_linkCells 124 = .ok (.if_icmp .ne 5, 3) := by decide +kernel
theorem dX6_linkCells_127 : decode cX6_linkCells 127 = .ok (.iconst 0, 1) := by decide +kernel
theorem dX6_linkCells_128 : decode cX6_linkCells 128 = .ok (.ireturn, 1) := by decide +kernel
theorem dX6_linkCells_129 : decode cX6_linkCells 129 = .ok (.iinc 2 1, 3) := by decide +kernel
theorem dX6_linkCells_132 : decode cX6_linkCells 132 = .ok (.goto (-20), 3) := by decide +kernel
theorem dX6_linkCells_135 : decode cX6_linkCells 135 = .ok (.iconst 1, 1) := by decide +kernel
theorem dX6_linkCells_136 : decode cX6_linkCells 136 = .ok (.ireturn, 1) := by decide +kernel
def w_Od_linkCells_39 (C : zC) (n0 : Nat) (Q : Int32 → zS → Prop) (B21 : Nat → Int32 → Int32 → zS → Prop) (a0 : Nat) (a1 : Int32) (a2 : Int32) (a3 : Int32) (κ : zS) : Prop :=
  ∃ I : Nat → Nat → Int32 → Int32 → Int32 → zS → Prop, (∃ n, I n a0 a1 a2 a3 κ) ∧ ∀ n a0 a1 a2 a3 κ, zW C n0 κ → zT κ a0 = 9 → I n a0 a1 a2 a3 κ →
    inb a2 (zN κ (zR κ atFirsts (zR κ odAtlas a0))) ∧
    (a3 < (zA κ (zR κ atFirsts (zR κ odAtlas a0)) (a2).toNatClampNeg) →
      ∀ v2_1 : Int32, v2_1 = a2 + (-1 : Int32) →
      B21 a0 a1 v2_1 κ) ∧
    (¬ a3 < (zA κ (zR κ atFirsts (zR κ odAtlas a0)) (a2).toNatClampNeg) →
      ∀ _ : zT κ a0 = 9,
      zRun C 1 mOd_comesToEnd [.ref a0, .int a2, .int a3] κ (oI (fun r3 κ2 =>
        ∀ _ : zW C n0 κ2,
        ∀ _ : zM (zn κ) κ κ2,
        (r3 = (0 : Int32) →
          ∀ v3_5 : Int32, v3_5 = a3 + (-1 : Int32) →
          ∃ k < n, I k a0 a1 a2 v3_5 κ2) ∧
        (¬ r3 = (0 : Int32) →
          inb a3 (zN κ2 (zR κ2 atNumbers (zR κ2 odAtlas a0))) ∧
          inb (zA κ2 (zR κ2 atNumbers (zR κ2 odAtlas a0)) (a3).toNatClampNeg) (zN κ2 (zR κ2 odCellOf a0)) ∧
          ∀ v4_8 : Int32, v4_8 = (zA κ2 (zR κ2 odCellOf a0) ((zA κ2 (zR κ2 atNumbers (zR κ2 odAtlas a0)) (a3).toNatClampNeg)).toNatClampNeg) →
          inb v4_8 (zN κ2 (zR κ2 odHeads a0)) ∧
          inb a3 (zN κ2 (zR κ2 odLinks a0)) ∧
          ∀ κ9, κ9 = ua κ2 (zR κ2 odLinks a0) (a3).toNatClampNeg (zA κ2 (zR κ2 odHeads a0) (v4_8).toNatClampNeg) →
          ∀ _ : zW C n0 κ9,
          inb v4_8 (zN κ9 (zR κ9 odHeads a0)) ∧
          ∀ κ11, κ11 = ua κ9 (zR κ9 odHeads a0) (v4_8).toNatClampNeg a3 →
          ∀ _ : zW C n0 κ11,
          ∀ v3_12 : Int32, v3_12 = a3 + (-1 : Int32) →
          ∃ k < n, I k a0 a1 a2 v3_12 κ11)) noX))
theorem t_Od_linkCells_39 {C : zC} {n0 : Nat} {Q : Int32 → zS → Prop} {B21 : Nat → Int32 → Int32 → zS → Prop} (hB21 : ∀ a0' a1' a2' τ, zW C n0 τ → zT τ a0' = 9 → B21 a0' a1' a2' τ → zG C n0 2 mOd_linkCells 21 [some (.ref a0'), some (.int a1'), some (.int a2'), none, none] [] τ (oI Q noX)) {a0 : Nat} {a1 : Int32} {a2 : Int32} {a3 : Int32} {κ : zS} (W : zW C n0 κ) (Ta0 : zT κ a0 = 9) (F : w_Od_linkCells_39 C n0 Q B21 a0 a1 a2 a3 κ) : zG C n0 2 mOd_linkCells 39 [some (.ref a0), some (.int a1), some (.int a2), some (.int a3), none] [] κ (oI Q noX) := by
  obtain ⟨I, ⟨m0, hI0⟩, F0⟩ := F
  have key : ∀ n a0 a1 a2 a3 κ, zW C n0 κ → zT κ a0 = 9 → I n a0 a1 a2 a3 κ → zG C n0 2 mOd_linkCells 39 [some (.ref a0), some (.int a1), some (.int a2), some (.int a3), none] [] κ (oI Q noX) := by
    intro n
    induction n using Nat.strongRecOn with
    | _ n ih =>
      intro a0 a1 a2 a3 κ W Ta0 hI
      have F := F0 n a0 a1 a2 a3 κ W Ta0 hI
      clear hI hI0
      refine y_iln dX6_linkCells_39 rfl ?_
      refine y_aln dX6_linkCells_40 rfl ?_
      refine gf_X6_9 W dX6_linkCells_41 rfl Ta0 ?_
      refine gf_X6_105 W dX6_linkCells_44 rfl (ty_odAtlas W Ta0) ?_
      refine y_iln dX6_linkCells_47 rfl ?_
      refine y_ald dX6_linkCells_48 (ty_atFirsts W (ty_odAtlas W Ta0)) F.1 ?_
      replace F := F.2
      refine y_ii (a3 < (zA κ (zR κ atFirsts (zR κ odAtlas a0)) (a2).toNatClampNeg)) dX6_linkCells_49 (t := 104) rfl rfl (fun c9 => ?_) (fun c9 => ?_)
      · replace F := F.1 c9
        refine y_incb dX6_linkCells_104 zi_m1 rfl (Nat.le_of_ble_eq_true rfl) (fun v2_1 ev2_1 => ?_)
        replace F := F v2_1 ev2_1
        show zG _ _ _ _ _ [some (.ref a0), some (.int a1), some (.int v2_1), some (.int a3), none] _ _ _
        refine y_goto dX6_linkCells_107 (t := 21) rfl ?_
        exact y_k (hB21 _ _ _ _ W Ta0 F) ⟨rfl, rfl, rfl, trivial⟩
      · replace F := F.2 c9
        refine y_aln dX6_linkCells_52 rfl ?_
        refine y_iln dX6_linkCells_53 rfl ?_
        refine y_iln dX6_linkCells_54 rfl ?_
        replace F := F Ta0
        refine k_X6_217 W dX6_linkCells_55 rfl (Nat.le_of_ble_eq_true rfl) (Nat.le_of_ble_eq_true rfl) (Or.inl Ta0) F (fun r3 κ2 Wκ2 Mκ2 F => ?_) (fun _ _ h9 => False.elim h9)
        replace F := F Wκ2 Mκ2
        refine y_i (r3 = (0 : Int32)) dX6_linkCells_58 (t := 98) rfl rfl (fun c9 => ?_) (fun c9 => ?_)
        · replace F := F.1 c9
          refine y_incb dX6_linkCells_98 zi_m1 rfl (Nat.le_of_ble_eq_true rfl) (fun v3_5 ev3_5 => ?_)
          replace F := F v3_5 ev3_5
          show zG _ _ _ _ _ [some (.ref a0), some (.int a1), some (.int a2), some (.int v3_5), none] _ _ _
          refine y_goto dX6_linkCells_101 (t := 39) rfl ?_
          have h6 := (ztm W Mκ2 Ta0)
          obtain ⟨k, hk, hI⟩ := F
          exact y_k (ih k hk _ _ _ _ _ Wκ2 h6 hI) ⟨rfl, rfl, rfl, rfl, trivial⟩
        · replace F := F.2 c9
          refine y_aln dX6_linkCells_61 rfl ?_
          have h7 := (ztm W Mκ2 Ta0)
          refine gf_X6_57 Wκ2 dX6_linkCells_62 rfl h7 ?_
          refine y_aln dX6_linkCells_65 rfl ?_
          refine gf_X6_9 Wκ2 dX6_linkCells_66 rfl h7 ?_
          refine gf_X6_115 Wκ2 dX6_linkCells_69 rfl (ty_odAtlas Wκ2 h7) ?_
          refine y_iln dX6_linkCells_72 rfl ?_
          refine y_ald dX6_linkCells_73 (ty_atNumbers Wκ2 (ty_odAtlas Wκ2 h7)) F.1 ?_
          replace F := F.2
          refine y_ald dX6_linkCells_74 (ty_odCellOf Wκ2 h7) F.1 ?_
          replace F := F.2
          refine y_isb dX6_linkCells_75 (Nat.le_of_ble_eq_true rfl) (fun v4_8 ev4_8 => ?_)
          replace F := F v4_8 ev4_8
          show zG _ _ _ _ _ [some (.ref a0), some (.int a1), some (.int a2), some (.int a3), some (.int v4_8)] _ _ _
          refine y_aln dX6_linkCells_77 rfl ?_
          refine gf_X6_63 Wκ2 dX6_linkCells_78 rfl h7 ?_
          refine y_iln dX6_linkCells_81 rfl ?_
          refine y_aln dX6_linkCells_82 rfl ?_
          refine gf_X6_60 Wκ2 dX6_linkCells_83 rfl h7 ?_
          refine y_il dX6_linkCells_86 rfl ?_
          refine y_ald dX6_linkCells_88 (ty_odHeads Wκ2 h7) F.1 ?_
          replace F := F.2
          refine y_ast Wκ2 dX6_linkCells_89 (ty_odLinks Wκ2 h7) F.1 (fun κ9 eκ9 => ?_)
          replace F := F.2 κ9 eκ9
          have Wκ9 : zW C n0 κ9 := zW_ua Wκ2 eκ9 (fun h => absurd (h.symm.trans (ty_odLinks Wκ2 h7)) (by decide)) (fun h => absurd (h.symm.trans (ty_odLinks Wκ2 h7)) (by decide))
          have Mκ9 : zM (zn κ2) κ2 κ9 := by rw [eκ9]; exact zM.of rfl rfl rfl
          replace F := F Wκ9
          refine y_aln dX6_linkCells_90 rfl ?_
          have h10 := (ztm Wκ2 Mκ9 h7)
          refine gf_X6_60 Wκ9 dX6_linkCells_91 rfl h10 ?_
          refine y_il dX6_linkCells_94 rfl ?_
          refine y_iln dX6_linkCells_96 rfl ?_
          refine y_ast Wκ9 dX6_linkCells_97 (ty_odHeads Wκ9 h10) F.1 (fun κ11 eκ11 => ?_)
          replace F := F.2 κ11 eκ11
          have Wκ11 : zW C n0 κ11 := zW_ua Wκ9 eκ11 (fun h => absurd (h.symm.trans (ty_odHeads Wκ9 h10)) (by decide)) (fun h => absurd (h.symm.trans (ty_odHeads Wκ9 h10)) (by decide))
          have Mκ11 : zM (zn κ9) κ9 κ11 := by rw [eκ11]; exact zM.of rfl rfl rfl
          replace F := F Wκ11
          refine y_incb dX6_linkCells_98 zi_m1 rfl (Nat.le_of_ble_eq_true rfl) (fun v3_12 ev3_12 => ?_)
          replace F := F v3_12 ev3_12
          show zG _ _ _ _ _ [some (.ref a0), some (.int a1), some (.int a2), some (.int v3_12), some (.int v4_8)] _ _ _
          refine y_goto dX6_linkCells_101 (t := 39) rfl ?_
          have h13 := (ztm Wκ9 Mκ11 h10)
          obtain ⟨k, hk, hI⟩ := F
          exact y_k (ih k hk _ _ _ _ _ Wκ11 h13 hI) ⟨rfl, rfl, rfl, rfl, trivial⟩
  exact key m0 a0 a1 a2 a3 κ W Ta0 hI0

def w_Od_linkCells_112 (C : zC) (n0 : Nat) (Q : Int32 → zS → Prop)  (a0 : Nat) (a1 : Int32) (a2 : Int32) (κ : zS) : Prop :=
  ∃ I : Nat → Nat → Int32 → Int32 → zS → Prop, (∃ n, I n a0 a1 a2 κ) ∧ ∀ n a0 a1 a2 κ, zW C n0 κ → zT κ a0 = 9 → I n a0 a1 a2 κ →
    (a1 ≤ a2 →
      Q (1 : Int32) κ) ∧
    (¬ a1 ≤ a2 →
      inb a2 (zN κ (zR κ odHeads a0)) ∧
      (¬ (zA κ (zR κ odHeads a0) (a2).toNatClampNeg) = (-1 : Int32) →
        ∀ v2_1 : Int32, v2_1 = a2 + (1 : Int32) →
        ∃ k < n, I k a0 a1 v2_1 κ) ∧
      ((zA κ (zR κ odHeads a0) (a2).toNatClampNeg) = (-1 : Int32) →
        Q (0 : Int32) κ))
theorem t_Od_linkCells_112 {C : zC} {n0 : Nat} {Q : Int32 → zS → Prop}   {a0 : Nat} {a1 : Int32} {a2 : Int32} {κ : zS} (W : zW C n0 κ) (Ta0 : zT κ a0 = 9) (F : w_Od_linkCells_112 C n0 Q  a0 a1 a2 κ) : zG C n0 2 mOd_linkCells 112 [some (.ref a0), some (.int a1), some (.int a2), none, none] [] κ (oI Q noX) := by
  obtain ⟨I, ⟨m0, hI0⟩, F0⟩ := F
  have key : ∀ n a0 a1 a2 κ, zW C n0 κ → zT κ a0 = 9 → I n a0 a1 a2 κ → zG C n0 2 mOd_linkCells 112 [some (.ref a0), some (.int a1), some (.int a2), none, none] [] κ (oI Q noX) := by
    intro n
    induction n using Nat.strongRecOn with
    | _ n ih =>
      intro a0 a1 a2 κ W Ta0 hI
      have F := F0 n a0 a1 a2 κ W Ta0 hI
      clear hI hI0
      refine y_iln dX6_linkCells_112 rfl ?_
      refine y_iln dX6_linkCells_113 rfl ?_
      refine y_ii (a1 ≤ a2) dX6_linkCells_114 (t := 135) rfl rfl (fun c9 => ?_) (fun c9 => ?_)
      · replace F := F.1 c9
        refine y_ic dX6_linkCells_135 zi_1 ?_
        exact y_ri W dX6_linkCells_136 rfl (nb_nar nb_1) F
      · replace F := F.2 c9
        refine y_aln dX6_linkCells_117 rfl ?_
        refine gf_X6_60 W dX6_linkCells_118 rfl Ta0 ?_
        refine y_iln dX6_linkCells_121 rfl ?_
        refine y_ald dX6_linkCells_122 (ty_odHeads W Ta0) F.1 ?_
        replace F := F.2
        refine y_ic dX6_linkCells_123 zi_m1 ?_
        refine y_iin ((zA κ (zR κ odHeads a0) (a2).toNatClampNeg) = (-1 : Int32)) dX6_linkCells_124 (t := 129) rfl rfl (fun c9 => ?_) (fun c9 => ?_)
        · replace F := F.1 c9
          refine y_incb dX6_linkCells_129 zi_1 rfl (Nat.le_of_ble_eq_true rfl) (fun v2_1 ev2_1 => ?_)
          replace F := F v2_1 ev2_1
          show zG _ _ _ _ _ [some (.ref a0), some (.int a1), some (.int v2_1), none, none] _ _ _
          refine y_goto dX6_linkCells_132 (t := 112) rfl ?_
          obtain ⟨k, hk, hI⟩ := F
          exact y_k (ih k hk _ _ _ _ W Ta0 hI) ⟨rfl, rfl, rfl, trivial⟩
        · replace F := F.2 c9
          refine y_ic dX6_linkCells_127 zi_0 ?_
          exact y_ri W dX6_linkCells_128 rfl (nb_nar nb_0) F
  exact key m0 a0 a1 a2 κ W Ta0 hI0

def w_Od_linkCells_21 (C : zC) (n0 : Nat) (Q : Int32 → zS → Prop)  (a0 : Nat) (a1 : Int32) (a2 : Int32) (κ : zS) : Prop :=
  ∃ I : Nat → Nat → Int32 → Int32 → zS → Prop, (∃ n, I n a0 a1 a2 κ) ∧ ∀ n a0 a1 a2 κ, zW C n0 κ → zT κ a0 = 9 → I n a0 a1 a2 κ →
    (a2 < (0 : Int32) →
      w_Od_linkCells_112 C n0 Q  a0 a1 (0 : Int32) κ) ∧
    (¬ a2 < (0 : Int32) →
      inb (a2 + (1 : Int32)) (zN κ (zR κ atFirsts (zR κ odAtlas a0))) ∧
      ∀ v3_1 : Int32, v3_1 = ((zA κ (zR κ atFirsts (zR κ odAtlas a0)) ((a2 + (1 : Int32))).toNatClampNeg) - (1 : Int32)) →
      w_Od_linkCells_39 C n0 Q (fun a0' a1' a2' τ => ∃ k < n, I k a0' a1' a2' τ) a0 a1 a2 v3_1 κ)
theorem t_Od_linkCells_21 {C : zC} {n0 : Nat} {Q : Int32 → zS → Prop}   {a0 : Nat} {a1 : Int32} {a2 : Int32} {κ : zS} (W : zW C n0 κ) (Ta0 : zT κ a0 = 9) (F : w_Od_linkCells_21 C n0 Q  a0 a1 a2 κ) : zG C n0 2 mOd_linkCells 21 [some (.ref a0), some (.int a1), some (.int a2), none, none] [] κ (oI Q noX) := by
  obtain ⟨I, ⟨m0, hI0⟩, F0⟩ := F
  have key : ∀ n a0 a1 a2 κ, zW C n0 κ → zT κ a0 = 9 → I n a0 a1 a2 κ → zG C n0 2 mOd_linkCells 21 [some (.ref a0), some (.int a1), some (.int a2), none, none] [] κ (oI Q noX) := by
    intro n
    induction n using Nat.strongRecOn with
    | _ n ih =>
      intro a0 a1 a2 κ W Ta0 hI
      have F := F0 n a0 a1 a2 κ W Ta0 hI
      clear hI hI0
      refine y_iln dX6_linkCells_21 rfl ?_
      refine y_i (a2 < (0 : Int32)) dX6_linkCells_22 (t := 110) rfl rfl (fun c9 => ?_) (fun c9 => ?_)
      · replace F := F.1 c9
        refine y_ic dX6_linkCells_110 zi_0 ?_
        refine y_isn dX6_linkCells_111 (Nat.le_of_ble_eq_true rfl) rfl ?_
        show zG _ _ _ _ _ [some (.ref a0), some (.int a1), some (.int (0 : Int32)), none, none] _ _ _
        exact y_k (t_Od_linkCells_112  W Ta0 F) ⟨rfl, rfl, rfl, trivial⟩
      · replace F := F.2 c9
        refine y_aln dX6_linkCells_25 rfl ?_
        refine gf_X6_9 W dX6_linkCells_26 rfl Ta0 ?_
        refine gf_X6_105 W dX6_linkCells_29 rfl (ty_odAtlas W Ta0) ?_
        refine y_iln dX6_linkCells_32 rfl ?_
        refine y_ic dX6_linkCells_33 zi_1 ?_
        refine y_iadd dX6_linkCells_34 ?_
        refine y_ald dX6_linkCells_35 (ty_atFirsts W (ty_odAtlas W Ta0)) F.1 ?_
        replace F := F.2
        refine y_ic dX6_linkCells_36 zi_1 ?_
        refine y_isub dX6_linkCells_37 ?_
        refine y_isnb dX6_linkCells_38 (Nat.le_of_ble_eq_true rfl) (fun v3_1 ev3_1 => ?_)
        replace F := F v3_1 ev3_1
        show zG _ _ _ _ _ [some (.ref a0), some (.int a1), some (.int a2), some (.int v3_1), none] _ _ _
        exact y_k (t_Od_linkCells_39 (fun a0' a1' a2' τ w9 f09 hb => by obtain ⟨k, hk, hI⟩ := hb; exact ih k hk a0' a1' a2' τ w9 f09 hI) W Ta0 F) ⟨rfl, rfl, rfl, rfl, trivial⟩
  exact key m0 a0 a1 a2 κ W Ta0 hI0

def w_Od_linkCells_0 (C : zC) (n0 : Nat) (Q : Int32 → zS → Prop)  (a0 : Nat) (a1 : Int32) (κ : zS) : Prop :=
  ∀ _ : zT κ (zR κ odHeads a0) = 20,
  zRun C 0 mAr_fill [.ref (zR κ odHeads a0), .int (-1 : Int32)] κ (oV (fun κ1 =>
    ∀ _ : zW C n0 κ1,
    ∀ _ : zM (zn κ) κ κ1,
    ∀ v2_5 : Int32, v2_5 = ((zI κ1 hoTotal (zR κ1 atStates (zR κ1 odAtlas a0))) - (1 : Int32)) →
    w_Od_linkCells_21 C n0 Q  a0 a1 v2_5 κ1) noX)
theorem t_Od_linkCells_0 {C : zC} {n0 : Nat} {Q : Int32 → zS → Prop}   {a0 : Nat} {a1 : Int32} {κ : zS} (W : zW C n0 κ) (Ta0 : zT κ a0 = 9) (F : w_Od_linkCells_0 C n0 Q  a0 a1 κ) : zG C n0 2 mOd_linkCells 0 [some (.ref a0), some (.int a1), none, none, none] [] κ (oI Q noX) := by
  unfold w_Od_linkCells_0 at F
  refine y_aln dX6_linkCells_0 rfl ?_
  refine gf_X6_60 W dX6_linkCells_1 rfl Ta0 ?_
  refine y_ic dX6_linkCells_4 zi_m1 ?_
  replace F := F (ty_odHeads W Ta0)
  refine k_X6_211 W dX6_linkCells_5 rfl (Nat.le_of_ble_eq_true rfl) (Nat.le_of_ble_eq_true rfl)  F (fun  κ1 Wκ1 Mκ1 F => ?_) (fun _ _ h9 => False.elim h9)
  replace F := F Wκ1 Mκ1
  refine y_aln dX6_linkCells_8 rfl ?_
  have h4 := (ztm W Mκ1 Ta0)
  refine gf_X6_9 Wκ1 dX6_linkCells_9 rfl h4 ?_
  refine gf_X6_125 Wκ1 dX6_linkCells_12 rfl (ty_odAtlas Wκ1 h4) ?_
  refine gf_X6_128 dX6_linkCells_15 rfl (Or.inl (ty_atStates Wκ1 (ty_odAtlas Wκ1 h4))) ?_
  refine y_ic dX6_linkCells_18 zi_1 ?_
  refine y_isub dX6_linkCells_19 ?_
  refine y_isnb dX6_linkCells_20 (Nat.le_of_ble_eq_true rfl) (fun v2_5 ev2_5 => ?_)
  replace F := F v2_5 ev2_5
  show zG _ _ _ _ _ [some (.ref a0), some (.int a1), some (.int v2_5), none, none] _ _ _
  exact y_k (t_Od_linkCells_21  Wκ1 h4 F) ⟨rfl, rfl, rfl, trivial⟩

theorem Od_linkCells_run {C : zC} {n0 : Nat} {Q : Int32 → zS → Prop} {a0 : Nat} {a1 : Int32} {κ : zS} (W : zW C n0 κ) (Ta0 : zT κ a0 = 9) (F : w_Od_linkCells_0 C (zn κ) Q a0 a1 κ) : zRun C 2 mOd_linkCells [.ref a0, .int a1] κ (oI Q noX) := z_run (m_ent _ 3) (t_Od_linkCells_0 (W.lo (Nat.le_trans W.1.2.1 W.1.2.2) (Nat.le_refl _)) Ta0 F)

theorem dX6_arrange_0 : decode cX6_arrange 0 = .ok (.aload_n 0, 1) := by decide +kernel
theorem dX6_arrange_1 : decode cX6_arrange 1 = .ok (.invokevirtual 188, 3) := by decide +kernel
theorem dX6_arrange_4 : decode cX6_arrange 4 = .ok (.aload_n 0, 1) := by decide +kernel
theorem dX6_arrange_5 : decode cX6_arrange 5 = .ok (.getfield 37, 3) := by decide +kernel
theorem dX6_arrange_8 : decode cX6_arrange 8 = .ok (.invokevirtual 191, 3) := by decide +kernel
theorem dX6_arrange_11 : decode cX6_arrange 11 = .ok (.aload_n 0, 1) := by decide +kernel
theorem dX6_arrange_12 : decode cX6_arrange 12 = .ok (.invokevirtual 194, 3) := by decide +kernel
theorem dX6_arrange_15 : decode cX6_arrange 15 = .ok (.istore 4, 2) := by decide +kernel
theorem dX6_arrange_17 : decode cX6_arrange 17 = .ok (.iconst 0, 1) := by decide +kernel
theorem dX6_arrange_18 : decode cX6_arrange 18 = .ok (.istore 5, 2) := by decide +kernel
theorem dX6_arrange_20 : decode cX6_arrange 20 = .ok (.iload 5, 2) := by decide +kernel
theorem dX6_arrange_22 : decode cX6_arrange 22 = .ok (.aload_n 0, 1) := by decide +kernel
theorem dX6_arrange_23 : decode cX6_arrange 23 = .ok (.getfield 9, 3) := by decide +kernel
theorem dX6_arrange_26 : decode cX6_arrange 26 = .ok (.getfield 74, 3) := by decide +kernel
theorem dX6_arrange_29 : decode cX6_arrange 29 = .ok (.getfield 128, 3) := by decide +kernel
theorem dX6_arrange_32 : decode cX6_arrange 32 = .ok (.if_icmp .ge 79, 3) := by decide +kernel
theorem dX6_arrange_35 : decode cX6_arrange 35 = .ok (.aload_n 0, 1) := by decide +kernel
theorem dX6_arrange_36 : decode cX6_arrange 36 = .ok (.getfield 57, 3) := by decide +kernel
theorem dX6_arrange_39 : decode cX6_arrange 39 = .ok (.iload 5, 2) := by decide +kernel
theorem dX6_arrange_41 : decode cX6_arrange 41 = .ok (.iaload, 1) := by decide +kernel
theorem dX6_arrange_42 : decode cX6_arrange 42 = .ok (.iconst (-1), 1) := by decide +kernel
theorem dX6_arrange_43 : decode cX6_arrange 43 = .ok (.if_icmp .eq 62, 3) := by decide +kernel
theorem dX6_arrange_46 : decode cX6_arrange 46 = .ok (.aload_n 0, 1) := by decide +kernel
theorem dX6_arrange_47 : decode cX6_arrange 47 = .ok (.iload 5, 2) := by decide +kernel
theorem dX6_arrange_49 : decode cX6_arrange 49 = .ok (.iload_n 3, 1) := by decide +kernel
theorem dX6_arrange_50 : decode cX6_arrange 50 = .ok (.invokevirtual 197, 3) := by decide +kernel
theorem dX6_arrange_53 : decode cX6_arrange 53 = .ok (.istore 6, 2) := by decide +kernel
theorem dX6_arrange_55 : decode cX6_arrange 55 = .ok (.aload_n 0, 1) := by decide +kernel
theorem dX6_arrange_56 : decode cX6_arrange 56 = .ok (.iconst 1, 1) := by decide +kernel
theorem dX6_arrange_57 : decode cX6_arrange 57 = .ok (.iload 6, 2) := by decide +kernel
theorem dX6_arrange_59 : decode cX6_arrange 59 = .ok (.aload_n 0, 1) := by decide +kernel
theorem dX6_arrange_60 : decode cX6_arrange 60 = .ok (.getfield 9, 3) := by decide +kernel
theorem dX6_arrange_63 : decode cX6_arrange 63 = .ok (.getfield 74, 3) := by decide +kernel
theorem dX6_arrange_66 : decode cX6_arrange 66 = .ok (.iload 5, 2) := by decide +kernel
theorem dX6_arrange_68 : decode cX6_arrange 68 = .ok (.iload_n 1, 1) := by decide +kernel
theorem dX6_arrange_69 : decode cX6_arrange 69 = .ok (.invokevirtual 89, 3) := by decide +kernel
theorem dX6_arrange_72 : decode cX6_arrange 72 = .ok (.aload_n 0, 1) := by decide +kernel
theorem dX6_arrange_73 : decode cX6_arrange 73 = .ok (.getfield 45, 3) := by decide +kernel
theorem dX6_arrange_76 : decode cX6_arrange 76 = .ok (.invokevirtual 200, 3) := by decide +kernel
theorem dX6_arrange_79 : decode cX6_arrange 79 = .ok (.pop, 1) := by decide +kernel
theorem dX6_arrange_80 : decode cX6_arrange 80 = .ok (.aload_n 0, 1) := by decide +kernel
theorem dX6_arrange_81 : decode cX6_arrange 81 = .ok (.iconst 2, 1) := by decide +kernel
theorem dX6_arrange_82 : decode cX6_arrange 82 = .ok (.iload 6, 2) := by decide +kernel
theorem dX6_arrange_84 : decode cX6_arrange 84 = .ok (.aload_n 0, 1) := by decide +kernel
theorem dX6_arrange_85 : decode cX6_arrange 85 = .ok (.getfield 9, 3) := by decide +kernel
theorem dX6_arrange_88 : decode cX6_arrange 88 = .ok (.getfield 74, 3) := by decide +kernel
theorem dX6_arrange_91 : decode cX6_arrange 91 = .ok (.iload 5, 2) := by decide +kernel
theorem dX6_arrange_93 : decode cX6_arrange 93 = .ok (.iload_n 2, 1) := by decide +kernel
theorem dX6_arrange_94 : decode cX6_arrange 94 = .ok (.invokevirtual 89, 3) := by decide +kernel
theorem dX6_arrange_97 : decode cX6_arrange 97 = .ok (.aload_n 0, 1) := by decide +kernel
theorem dX6_arrange_98 : decode cX6_arrange 98 = .ok (.getfield 48, 3) := by decide +kernel
theorem dX6_arrange_101 : decode cX6_arrange 101 = .ok (.invokevirtual 200, 3) := by decide +kernel
theorem dX6_arrange_104 : decode cX6_arrange 104 = .ok (.pop, 1) := by decide +kernel
theorem dX6_arrange_105 : decode cX6_arrange 105 = .ok (.iinc 5 1, 3) := by decide +kernel
theorem dX6_arrange_108 : decode cX6_arrange 108 = .ok (.goto (-88), 3) := by decide +kernel
theorem dX6_arrange_111 : decode cX6_arrange 111 = .ok (.aload_n 0, 1) := by decide +kernel
theorem dX6_arrange_112 : decode cX6_arrange 112 = .ok (.iload 4, 2) := by decide +kernel
theorem dX6_arrange_114 : decode cX6_arrange 114 = .ok (.invokevirtual 204, 3) := by decide +kernel
theorem dX6_arrange_117 : decode cX6_arrange 117 = .ok (.istore 5, 2) := by decide +kernel
theorem dX6_arrange_119 : decode cX6_arrange 119 = .ok (.iload 5, 2) := by decide +kernel
theorem dX6_arrange_121 : decode cX6_arrange 121 = .ok (.iload 4, 2) := by decide +kernel
theorem dX6_arrange_123 : decode cX6_arrange 123 = .ok (.if_icmp .le 5, 3) := by decide +kernel
theorem dX6_arrange_126 : decode cX6_arrange 126 = .ok (.iconst 0, 1) := by decide +kernel
theorem dX6_arrange_127 : decode cX6_arrange 127 = .ok (.ireturn, 1) := by decide +kernel
theorem dX6_arrange_128 : decode cX6_arrange 128 = .ok (.iconst 0, 1) := by decide +kernel
theorem dX6_arrange_129 : decode cX6_arrange 129 = .ok (.istore 6, 2) := by decide +kernel
theorem dX6_arrange_131 : decode cX6_arrange 131 = .ok (.iload 6, 2) := by decide +kernel
theorem dX6_arrange_133 : decode cX6_arrange 133 = .ok (.aload_n 0, 1) := by decide +kernel
theorem dX6_arrange_134 : decode cX6_arrange 134 = .ok (.getfield 9, 3) := by decide +kernel
theorem dX6_arrange_137 : decode cX6_arrange 137 = .ok (.getfield 74, 3) := by decide +kernel
theorem dX6_arrange_140 : decode cX6_arrange 140 = .ok (.getfield 128, 3) := by decide +kernel
theorem dX6_arrange_143 : decode cX6_arrange 143 = .ok (.if_icmp .ge 154, 3) := by decide +kernel
theorem dX6_arrange_146 : decode cX6_arrange 146 = .ok (.aload_n 0, 1) := by decide +kernel
theorem dX6_arrange_147 : decode cX6_arrange 147 = .ok (.getfield 57, 3) := by decide +kernel
theorem dX6_arrange_150 : decode cX6_arrange 150 = .ok (.iload 6, 2) := by decide +kernel
theorem dX6_arrange_152 : decode cX6_arrange 152 = .ok (.iaload, 1) := by decide +kernel
theorem dX6_arrange_153 : decode cX6_arrange 153 = .ok (.iconst (-1), 1) := by decide +kernel
theorem dX6_arrange_154 : decode cX6_arrange 154 = .ok (.if_icmp .eq 137, 3) := by decide +kernel
theorem dX6_arrange_157 : decode cX6_arrange 157 = .ok (.aload_n 0, 1) := by decide +kernel
theorem dX6_arrange_158 : decode cX6_arrange 158 = .ok (.iload 6, 2) := by decide +kernel
theorem dX6_arrange_160 : decode cX6_arrange 160 = .ok (.iload_n 3, 1) := by decide +kernel
theorem dX6_arrange_161 : decode cX6_arrange 161 = .ok (.invokevirtual 197, 3) := by decide +kernel
theorem dX6_arrange_164 : decode cX6_arrange 164 = .ok (.istore 7, 2) := by decide +kernel
theorem dX6_arrange_166 : decode cX6_arrange 166 = .ok (.aload_n 0, 1) := by decide +kernel
theorem dX6_arrange_167 : decode cX6_arrange 167 = .ok (.iconst 1, 1) := by decide +kernel
theorem dX6_arrange_168 : decode cX6_arrange 168 = .ok (.iload 7, 2) := by decide +kernel
theorem dX6_arrange_170 : decode cX6_arrange 170 = .ok (.aload_n 0, 1) := by decide +kernel
theorem dX6_arrange_171 : decode cX6_arrange 171 = .ok (.getfield 9, 3) := by decide +kernel
theorem dX6_arrange_174 : decode cX6_arrange 174 = .ok (.getfield 74, 3) := by decide +kernel
theorem dX6_arrange_177 : decode cX6_arrange 177 = .ok (.iload 6, 2) := by decide +kernel
theorem dX6_arrange_179 : decode cX6_arrange 179 = .ok (.iload_n 1, 1) := by decide +kernel
theorem dX6_arrange_180 : decode cX6_arrange 180 = .ok (.invokevirtual 89, 3) := by decide +kernel
theorem dX6_arrange_183 : decode cX6_arrange 183 = .ok (.aload_n 0, 1) := by decide +kernel
theorem dX6_arrange_184 : decode cX6_arrange 184 = .ok (.getfield 45, 3) := by decide +kernel
theorem dX6_arrange_187 : decode cX6_arrange 187 = .ok (.invokevirtual 200, 3) := by decide +kernel
theorem dX6_arrange_190 : decode cX6_arrange 190 = .ok (.istore 8, 2) := by decide +kernel
theorem dX6_arrange_192 : decode cX6_arrange 192 = .ok (.aload_n 0, 1) := by decide +kernel
theorem dX6_arrange_193 : decode cX6_arrange 193 = .ok (.iconst 2, 1) := by decide +kernel
theorem dX6_arrange_194 : decode cX6_arrange 194 = .ok (.iload 7, 2) := by decide +kernel
theorem dX6_arrange_196 : decode cX6_arrange 196 = .ok (.aload_n 0, 1) := by decide +kernel
theorem dX6_arrange_197 : decode cX6_arrange 197 = .ok (.getfield 9, 3) := by decide +kernel
theorem dX6_arrange_200 : decode cX6_arrange 200 = .ok (.getfield 74, 3) := by decide +kernel
theorem dX6_arrange_203 : decode cX6_arrange 203 = .ok (.iload 6, 2) := by decide +kernel
theorem dX6_arrange_205 : decode cX6_arrange 205 = .ok (.iload_n 2, 1) := by decide +kernel
theorem dX6_arrange_206 : decode cX6_arrange 206 = .ok (.invokevirtual 89, 3) := by decide +kernel
theorem dX6_arrange_209 : decode cX6_arrange 209 = .ok (.aload_n 0, 1) := by decide +kernel
theorem dX6_arrange_210 : decode cX6_arrange 210 = .ok (.getfield 48, 3) := by decide +kernel
theorem dX6_arrange_213 : decode cX6_arrange 213 = .ok (.invokevirtual 200, 3) := by decide +kernel
theorem dX6_arrange_216 : decode cX6_arrange 216 = .ok (.istore 9, 2) := by decide +kernel
theorem dX6_arrange_218 : decode cX6_arrange 218 = .ok (.aload_n 0, 1) := by decide +kernel
theorem dX6_arrange_219 : decode cX6_arrange 219 = .ok (.getfield 45, 3) := by decide +kernel
theorem dX6_arrange_222 : decode cX6_arrange 222 = .ok (.iload 7, 2) := by decide +kernel
theorem dX6_arrange_224 : decode cX6_arrange 224 = .ok (.iaload, 1) := by decide +kernel
theorem dX6_arrange_225 : decode cX6_arrange 225 = .ok (.aload_n 0, 1) := by decide +kernel
theorem dX6_arrange_226 : decode cX6_arrange 226 = .ok (.getfield 48, 3) := by decide +kernel
theorem dX6_arrange_229 : decode cX6_arrange 229 = .ok (.iload 7, 2) := by decide +kernel
theorem dX6_arrange_231 : decode cX6_arrange 231 = .ok (.iaload, 1) := by decide +kernel
theorem dX6_arrange_232 : decode cX6_arrange 232 = .ok (.if_icmp .lt 7, 3) := by decide +kernel
theorem dX6_arrange_235 : decode cX6_arrange 235 = .ok (.iconst 1, 1) := by decide +kernel
theorem dX6_arrange_236 : decode cX6_arrange 236 = .ok (.goto 4, 3) := by decide +kernel
theorem dX6_arrange_239 : decode cX6_arrange 239 = .ok (.iconst 0, 1) := by decide +kernel
theorem dX6_arrange_240 : decode cX6_arrange 240 = .ok (.istore 10, 2) := by decide +kernel
theorem dX6_arrange_242 : decode cX6_arrange 242 = .ok (.aload_n 0, 1) := by decide +kernel
theorem dX6_arrange_243 : decode cX6_arrange 243 = .ok (.getfield 57, 3) := by decide +kernel
theorem dX6_arrange_246 : decode cX6_arrange 246 = .ok (.iload 6, 2) := by decide +kernel
theorem dX6_arrange_248 : decode cX6_arrange 248 = .ok (.aload_n 0, 1) := by decide +kernel
theorem dX6_arrange_249 : decode cX6_arrange 249 = .ok (.getfield 51, 3) := by decide +kernel
theorem dX6_arrange_252 : decode cX6_arrange 252 = .ok (.iload 7, 2) := by decide +kernel
theorem dX6_arrange_254 : decode cX6_arrange 254 = .ok (.iaload, 1) := by decide +kernel
theorem dX6_arrange_255 : decode cX6_arrange 255 = .ok (.iload 10, 2) := by decide +kernel
theorem dX6_arrange_257 : decode cX6_arrange 257 = .ok (.ifCond .eq 19, 3) := by decide +kernel
theorem dX6_arrange_260 : decode cX6_arrange 260 = .ok (.iload 8, 2) := by decide +kernel
theorem dX6_arrange_262 : decode cX6_arrange 262 = .ok (.aload_n 0, 1) := by decide +kernel
theorem dX6_arrange_263 : decode cX6_arrange 263 = .ok (.getfield 48, 3) := by decide +kernel
theorem dX6_arrange_266 : decode cX6_arrange 266 = .ok (.iload 7, 2) := by decide +kernel
theorem dX6_arrange_268 : decode cX6_arrange 268 = .ok (.iaload, 1) := by decide +kernel
theorem dX6_arrange_269 : decode cX6_arrange 269 = .ok (.imul, 1) := by decide +kernel
theorem dX6_arrange_270 : decode cX6_arrange 270 = .ok (.iload 9, 2) := by decide +kernel
theorem dX6_arrange_272 : decode cX6_arrange 272 = .ok (.iadd, 1) := by decide +kernel
theorem dX6_arrange_273 : decode cX6_arrange 273 = .ok (.goto 16, 3) := by decide +kernel
theorem dX6_arrange_276 : decode cX6_arrange 276 = .ok (.iload 9, 2) := by decide +kernel
theorem dX6_arrange_278 : decode cX6_arrange 278 = .ok (.aload_n 0, 1) := by decide +kernel
theorem dX6_arrange_279 : decode cX6_arrange 279 = .ok (.getfield 45, 3) := by decide +kernel
theorem dX6_arrange_282 : decode cX6_arrange 282 = .ok (.iload 7, 2) := by decide +kernel
theorem dX6_arrange_284 : decode cX6_arrange 284 = .ok (.iaload, 1) := by decide +kernel
theorem dX6_arrange_285 : decode cX6_arrange 285 = .ok (.imul, 1) := by decide +kernel
theorem dX6_arrange_286 : decode cX6_arrange 286 = .ok (.iload 8, 2) := by decide +kernel
theorem dX6_arrange_288 : decode cX6_arrange 288 = .ok (.iadd, 1) := by decide +kernel
theorem dX6_arrange_289 : decode cX6_arrange 289 = .ok (.iadd, 1) := by decide +kernel
theorem dX6_arrange_290 : decode cX6_arrange 290 = .ok (.iastore, 1) := by decide +kernel
theorem dX6_arrange_291 : decode cX6_arrange 291 = .ok (.iinc 6 1, 3) := by decide +kernel
theorem dX6_arrange_294 : decode cX6_arrange 294 = .ok (.goto (-163), 3) := by decide +kernel
theorem dX6_arrange_297 : decode cX6_arrange 297 = .ok (.aload_n 0, 1) := by decide +kernel
theorem dX6_arrange_298 : decode cX6_arrange 298 = .ok (.iload 5, 2) := by decide +kernel
theorem dX6_arrange_300 : decode cX6_arrange 300 = .ok (.invokevirtual 207, 3) := by decide +kernel
theorem dX6_arrange_303 : decode cX6_arrange 303 = .ok (.ireturn, 1) := by decide +kernel
def w_Od_arrange_240 (C : zC) (n0 : Nat) (Q : Int32 → zS → Prop) (B131 : Nat → Int32 → Int32 → Int32 → Int32 → Int32 → zS → Prop) (a0 : Nat) (a1 : Int32) (a2 : Int32) (a3 : Int32) (a5 : Int32) (a6 : Int32) (a7 : Int32) (a8 : Int32) (a9 : Int32) (s0 : Int32) (κ : zS) : Prop :=
  inb a7 (zN κ (zR κ odBases a0)) ∧
  (s0 = (0 : Int32) →
    inb a7 (zN κ (zR κ odLefts a0)) ∧
    inb a6 (zN κ (zR κ odCellOf a0)) ∧
    ∀ κ1, κ1 = ua κ (zR κ odCellOf a0) (a6).toNatClampNeg ((zA κ (zR κ odBases a0) (a7).toNatClampNeg) + ((a9 * (zA κ (zR κ odLefts a0) (a7).toNatClampNeg)) + a8)) →
    ∀ _ : zW C n0 κ1,
    ∀ v6_2 : Int32, v6_2 = a6 + (1 : Int32) →
    B131 a0 a1 a2 a3 a5 v6_2 κ1) ∧
  (¬ s0 = (0 : Int32) →
    inb a7 (zN κ (zR κ odRights a0)) ∧
    inb a6 (zN κ (zR κ odCellOf a0)) ∧
    ∀ κ4, κ4 = ua κ (zR κ odCellOf a0) (a6).toNatClampNeg ((zA κ (zR κ odBases a0) (a7).toNatClampNeg) + ((a8 * (zA κ (zR κ odRights a0) (a7).toNatClampNeg)) + a9)) →
    ∀ _ : zW C n0 κ4,
    ∀ v6_5 : Int32, v6_5 = a6 + (1 : Int32) →
    B131 a0 a1 a2 a3 a5 v6_5 κ4)
theorem t_Od_arrange_240 {C : zC} {n0 : Nat} {Q : Int32 → zS → Prop} {B131 : Nat → Int32 → Int32 → Int32 → Int32 → Int32 → zS → Prop} (hB131 : ∀ a0' a1' a2' a3' a5' a6' τ, zW C n0 τ → zT τ a0' = 9 → B131 a0' a1' a2' a3' a5' a6' τ → zG C n0 5 mOd_arrange 131 [some (.ref a0'), some (.int a1'), some (.int a2'), some (.int a3'), none, some (.int a5'), some (.int a6'), none, none, none, none] [] τ (oI Q noX)) {a0 : Nat} {a1 : Int32} {a2 : Int32} {a3 : Int32} {a5 : Int32} {a6 : Int32} {a7 : Int32} {a8 : Int32} {a9 : Int32} {s0 : Int32} {κ : zS} (W : zW C n0 κ) (Ta0 : zT κ a0 = 9) (F : w_Od_arrange_240 C n0 Q B131 a0 a1 a2 a3 a5 a6 a7 a8 a9 s0 κ) : zG C n0 5 mOd_arrange 240 [some (.ref a0), some (.int a1), some (.int a2), some (.int a3), none, some (.int a5), some (.int a6), some (.int a7), some (.int a8), some (.int a9), none] [.int s0] κ (oI Q noX) := by
  unfold w_Od_arrange_240 at F
  refine y_is dX6_arrange_240 (Nat.le_of_ble_eq_true rfl) rfl ?_
  show zG _ _ _ _ _ [some (.ref a0), some (.int a1), some (.int a2), some (.int a3), none, some (.int a5), some (.int a6), some (.int a7), some (.int a8), some (.int a9), some (.int s0)] _ _ _
  refine y_aln dX6_arrange_242 rfl ?_
  refine gf_X6_57 W dX6_arrange_243 rfl Ta0 ?_
  refine y_il dX6_arrange_246 rfl ?_
  refine y_aln dX6_arrange_248 rfl ?_
  refine gf_X6_51 W dX6_arrange_249 rfl Ta0 ?_
  refine y_il dX6_arrange_252 rfl ?_
  refine y_ald dX6_arrange_254 (ty_odBases W Ta0) F.1 ?_
  replace F := F.2
  refine y_il dX6_arrange_255 rfl ?_
  refine y_i (s0 = (0 : Int32)) dX6_arrange_257 (t := 276) rfl rfl (fun c9 => ?_) (fun c9 => ?_)
  · replace F := F.1 c9
    refine y_il dX6_arrange_276 rfl ?_
    refine y_aln dX6_arrange_278 rfl ?_
    refine gf_X6_45 W dX6_arrange_279 rfl Ta0 ?_
    refine y_il dX6_arrange_282 rfl ?_
    refine y_ald dX6_arrange_284 (ty_odLefts W Ta0) F.1 ?_
    replace F := F.2
    refine y_imul dX6_arrange_285 ?_
    refine y_il dX6_arrange_286 rfl ?_
    refine y_iadd dX6_arrange_288 ?_
    refine y_iadd dX6_arrange_289 ?_
    refine y_ast W dX6_arrange_290 (ty_odCellOf W Ta0) F.1 (fun κ1 eκ1 => ?_)
    replace F := F.2 κ1 eκ1
    have Wκ1 : zW C n0 κ1 := zW_ua W eκ1 (fun h => absurd (h.symm.trans (ty_odCellOf W Ta0)) (by decide)) (fun h => absurd (h.symm.trans (ty_odCellOf W Ta0)) (by decide))
    have Mκ1 : zM (zn κ) κ κ1 := by rw [eκ1]; exact zM.of rfl rfl rfl
    replace F := F Wκ1
    refine y_incb dX6_arrange_291 zi_1 rfl (Nat.le_of_ble_eq_true rfl) (fun v6_2 ev6_2 => ?_)
    replace F := F v6_2 ev6_2
    show zG _ _ _ _ _ [some (.ref a0), some (.int a1), some (.int a2), some (.int a3), none, some (.int a5), some (.int v6_2), some (.int a7), some (.int a8), some (.int a9), some (.int s0)] _ _ _
    refine y_goto dX6_arrange_294 (t := 131) rfl ?_
    have h3 := (ztm W Mκ1 Ta0)
    exact y_k (hB131 _ _ _ _ _ _ _ Wκ1 h3 F) ⟨rfl, rfl, rfl, rfl, rfl, rfl, trivial⟩
  · replace F := F.2 c9
    refine y_il dX6_arrange_260 rfl ?_
    refine y_aln dX6_arrange_262 rfl ?_
    refine gf_X6_48 W dX6_arrange_263 rfl Ta0 ?_
    refine y_il dX6_arrange_266 rfl ?_
    refine y_ald dX6_arrange_268 (ty_odRights W Ta0) F.1 ?_
    replace F := F.2
    refine y_imul dX6_arrange_269 ?_
    refine y_il dX6_arrange_270 rfl ?_
    refine y_iadd dX6_arrange_272 ?_
    refine y_goto dX6_arrange_273 (t := 289) rfl ?_
    refine y_iadd dX6_arrange_289 ?_
    refine y_ast W dX6_arrange_290 (ty_odCellOf W Ta0) F.1 (fun κ4 eκ4 => ?_)
    replace F := F.2 κ4 eκ4
    have Wκ4 : zW C n0 κ4 := zW_ua W eκ4 (fun h => absurd (h.symm.trans (ty_odCellOf W Ta0)) (by decide)) (fun h => absurd (h.symm.trans (ty_odCellOf W Ta0)) (by decide))
    have Mκ4 : zM (zn κ) κ κ4 := by rw [eκ4]; exact zM.of rfl rfl rfl
    replace F := F Wκ4
    refine y_incb dX6_arrange_291 zi_1 rfl (Nat.le_of_ble_eq_true rfl) (fun v6_5 ev6_5 => ?_)
    replace F := F v6_5 ev6_5
    show zG _ _ _ _ _ [some (.ref a0), some (.int a1), some (.int a2), some (.int a3), none, some (.int a5), some (.int v6_5), some (.int a7), some (.int a8), some (.int a9), some (.int s0)] _ _ _
    refine y_goto dX6_arrange_294 (t := 131) rfl ?_
    have h6 := (ztm W Mκ4 Ta0)
    exact y_k (hB131 _ _ _ _ _ _ _ Wκ4 h6 F) ⟨rfl, rfl, rfl, rfl, rfl, rfl, trivial⟩

def w_Od_arrange_131 (C : zC) (n0 : Nat) (Q : Int32 → zS → Prop)  (a0 : Nat) (a1 : Int32) (a2 : Int32) (a3 : Int32) (a5 : Int32) (a6 : Int32) (κ : zS) : Prop :=
  ∃ I : Nat → Nat → Int32 → Int32 → Int32 → Int32 → Int32 → zS → Prop, (∃ n, I n a0 a1 a2 a3 a5 a6 κ) ∧ ∀ n a0 a1 a2 a3 a5 a6 κ, zW C n0 κ → zT κ a0 = 9 → I n a0 a1 a2 a3 a5 a6 κ →
    ((zI κ hoTotal (zR κ atEndings (zR κ odAtlas a0))) ≤ a6 →
      ∀ _ : zT κ a0 = 9,
      zRun C 2 mOd_linkCells [.ref a0, .int a5] κ (oI (fun r2 κ1 =>
        ∀ _ : zW C n0 κ1,
        ∀ _ : zM (zn κ) κ κ1,
        nb r2 ∧ Q r2 κ1) noX)) ∧
    (¬ (zI κ hoTotal (zR κ atEndings (zR κ odAtlas a0))) ≤ a6 →
      inb a6 (zN κ (zR κ odCellOf a0)) ∧
      ((zA κ (zR κ odCellOf a0) (a6).toNatClampNeg) = (-1 : Int32) →
        ∀ v6_4 : Int32, v6_4 = a6 + (1 : Int32) →
        ∃ k < n, I k a0 a1 a2 a3 a5 v6_4 κ) ∧
      (¬ (zA κ (zR κ odCellOf a0) (a6).toNatClampNeg) = (-1 : Int32) →
        ∀ _ : zT κ a0 = 9,
        zRun C 4 mOd_tableOf [.ref a0, .int a6, .int a3] κ (oI (fun r6 κ5 =>
          ∀ _ : zW C n0 κ5,
          ∀ _ : zM (zn κ) κ κ5,
          ∀ _ : zT κ5 (zR κ5 atEndings (zR κ5 odAtlas a0)) = 6,
          zRun C 1 mHo_part [.ref (zR κ5 atEndings (zR κ5 odAtlas a0)), .int a6, .int a1] κ5 (oI (fun r10 κ9 =>
            ∀ _ : zW C n0 κ9,
            ∀ _ : zM (zn κ5) κ5 κ9,
            ∀ _ : zT κ9 a0 = 9,
            ∀ _ : zT κ9 (zR κ9 odLefts a0) = 20,
            zRun C 4 mOd_rankOf [.ref a0, .int (1 : Int32), .int r6, .int r10, .ref (zR κ9 odLefts a0)] κ9 (oI (fun r14 κ13 =>
              ∀ _ : zW C n0 κ13,
              ∀ _ : zM (zn κ9) κ9 κ13,
              ∀ _ : zT κ13 (zR κ13 atEndings (zR κ13 odAtlas a0)) = 6,
              zRun C 1 mHo_part [.ref (zR κ13 atEndings (zR κ13 odAtlas a0)), .int a6, .int a2] κ13 (oI (fun r18 κ17 =>
                ∀ _ : zW C n0 κ17,
                ∀ _ : zM (zn κ13) κ13 κ17,
                ∀ _ : zT κ17 a0 = 9,
                ∀ _ : zT κ17 (zR κ17 odRights a0) = 20,
                zRun C 4 mOd_rankOf [.ref a0, .int (2 : Int32), .int r6, .int r18, .ref (zR κ17 odRights a0)] κ17 (oI (fun r22 κ21 =>
                  ∀ _ : zW C n0 κ21,
                  ∀ _ : zM (zn κ17) κ17 κ21,
                  inb r6 (zN κ21 (zR κ21 odLefts a0)) ∧
                  inb r6 (zN κ21 (zR κ21 odRights a0)) ∧
                  ((zA κ21 (zR κ21 odLefts a0) (r6).toNatClampNeg) < (zA κ21 (zR κ21 odRights a0) (r6).toNatClampNeg) →
                    w_Od_arrange_240 C n0 Q (fun a0' a1' a2' a3' a5' a6' τ => ∃ k < n, I k a0' a1' a2' a3' a5' a6' τ) a0 a1 a2 a3 a5 a6 r6 r14 r22 (0 : Int32) κ21) ∧
                  (¬ (zA κ21 (zR κ21 odLefts a0) (r6).toNatClampNeg) < (zA κ21 (zR κ21 odRights a0) (r6).toNatClampNeg) →
                    w_Od_arrange_240 C n0 Q (fun a0' a1' a2' a3' a5' a6' τ => ∃ k < n, I k a0' a1' a2' a3' a5' a6' τ) a0 a1 a2 a3 a5 a6 r6 r14 r22 (1 : Int32) κ21)) noX)) noX)) noX)) noX)) noX)))
theorem t_Od_arrange_131 {C : zC} {n0 : Nat} {Q : Int32 → zS → Prop}   {a0 : Nat} {a1 : Int32} {a2 : Int32} {a3 : Int32} {a5 : Int32} {a6 : Int32} {κ : zS} (W : zW C n0 κ) (Ta0 : zT κ a0 = 9) (F : w_Od_arrange_131 C n0 Q  a0 a1 a2 a3 a5 a6 κ) : zG C n0 5 mOd_arrange 131 [some (.ref a0), some (.int a1), some (.int a2), some (.int a3), none, some (.int a5), some (.int a6), none, none, none, none] [] κ (oI Q noX) := by
  obtain ⟨I, ⟨m0, hI0⟩, F0⟩ := F
  have key : ∀ n a0 a1 a2 a3 a5 a6 κ, zW C n0 κ → zT κ a0 = 9 → I n a0 a1 a2 a3 a5 a6 κ → zG C n0 5 mOd_arrange 131 [some (.ref a0), some (.int a1), some (.int a2), some (.int a3), none, some (.int a5), some (.int a6), none, none, none, none] [] κ (oI Q noX) := by
    intro n
    induction n using Nat.strongRecOn with
    | _ n ih =>
      intro a0 a1 a2 a3 a5 a6 κ W Ta0 hI
      have F := F0 n a0 a1 a2 a3 a5 a6 κ W Ta0 hI
      clear hI hI0
      refine y_il dX6_arrange_131 rfl ?_
      refine y_aln dX6_arrange_133 rfl ?_
      refine gf_X6_9 W dX6_arrange_134 rfl Ta0 ?_
      refine gf_X6_74 W dX6_arrange_137 rfl (ty_odAtlas W Ta0) ?_
      refine gf_X6_128 dX6_arrange_140 rfl (Or.inl (ty_atEndings W (ty_odAtlas W Ta0))) ?_
      refine y_ii ((zI κ hoTotal (zR κ atEndings (zR κ odAtlas a0))) ≤ a6) dX6_arrange_143 (t := 297) rfl rfl (fun c9 => ?_) (fun c9 => ?_)
      · replace F := F.1 c9
        refine y_aln dX6_arrange_297 rfl ?_
        refine y_il dX6_arrange_298 rfl ?_
        replace F := F Ta0
        refine k_X6_207 W dX6_arrange_300 rfl (Nat.le_of_ble_eq_true rfl) (Nat.le_of_ble_eq_true rfl) (Or.inl Ta0) F (fun r2 κ1 Wκ1 Mκ1 F => ?_) (fun _ _ h9 => False.elim h9)
        replace F := F Wκ1 Mκ1
        exact y_ri Wκ1 dX6_arrange_303 rfl (nb_nar F.1) F.2
      · replace F := F.2 c9
        refine y_aln dX6_arrange_146 rfl ?_
        refine gf_X6_57 W dX6_arrange_147 rfl Ta0 ?_
        refine y_il dX6_arrange_150 rfl ?_
        refine y_ald dX6_arrange_152 (ty_odCellOf W Ta0) F.1 ?_
        replace F := F.2
        refine y_ic dX6_arrange_153 zi_m1 ?_
        refine y_ii ((zA κ (zR κ odCellOf a0) (a6).toNatClampNeg) = (-1 : Int32)) dX6_arrange_154 (t := 291) rfl rfl (fun c9 => ?_) (fun c9 => ?_)
        · replace F := F.1 c9
          refine y_incb dX6_arrange_291 zi_1 rfl (Nat.le_of_ble_eq_true rfl) (fun v6_4 ev6_4 => ?_)
          replace F := F v6_4 ev6_4
          show zG _ _ _ _ _ [some (.ref a0), some (.int a1), some (.int a2), some (.int a3), none, some (.int a5), some (.int v6_4), none, none, none, none] _ _ _
          refine y_goto dX6_arrange_294 (t := 131) rfl ?_
          obtain ⟨k, hk, hI⟩ := F
          exact y_k (ih k hk _ _ _ _ _ _ _ W Ta0 hI) ⟨rfl, rfl, rfl, rfl, rfl, rfl, trivial⟩
        · replace F := F.2 c9
          refine y_aln dX6_arrange_157 rfl ?_
          refine y_il dX6_arrange_158 rfl ?_
          refine y_iln dX6_arrange_160 rfl ?_
          replace F := F Ta0
          refine k_X6_197 W dX6_arrange_161 rfl (Nat.le_of_ble_eq_true rfl) (Nat.le_of_ble_eq_true rfl) (Or.inl Ta0) F (fun r6 κ5 Wκ5 Mκ5 F => ?_) (fun _ _ h9 => False.elim h9)
          replace F := F Wκ5 Mκ5
          refine y_is dX6_arrange_164 (Nat.le_of_ble_eq_true rfl) rfl ?_
          show zG _ _ _ _ _ [some (.ref a0), some (.int a1), some (.int a2), some (.int a3), none, some (.int a5), some (.int a6), some (.int r6), none, none, none] _ _ _
          refine y_aln dX6_arrange_166 rfl ?_
          refine y_ic dX6_arrange_167 zi_1 ?_
          refine y_il dX6_arrange_168 rfl ?_
          refine y_aln dX6_arrange_170 rfl ?_
          have h8 := (ztm W Mκ5 Ta0)
          refine gf_X6_9 Wκ5 dX6_arrange_171 rfl h8 ?_
          refine gf_X6_74 Wκ5 dX6_arrange_174 rfl (ty_odAtlas Wκ5 h8) ?_
          refine y_il dX6_arrange_177 rfl ?_
          refine y_iln dX6_arrange_179 rfl ?_
          replace F := F (ty_atEndings Wκ5 (ty_odAtlas Wκ5 h8))
          refine k_X6_89 Wκ5 dX6_arrange_180 rfl (Nat.le_of_ble_eq_true rfl) (Nat.le_of_ble_eq_true rfl) (Or.inl (ty_atEndings Wκ5 (ty_odAtlas Wκ5 h8))) F (fun r10 κ9 Wκ9 Mκ9 F => ?_) (fun _ _ h9 => False.elim h9)
          replace F := F Wκ9 Mκ9
          refine y_aln dX6_arrange_183 rfl ?_
          have h12 := (ztm Wκ5 Mκ9 h8)
          refine gf_X6_45 Wκ9 dX6_arrange_184 rfl h12 ?_
          replace F := F h12
          replace F := F (ty_odLefts Wκ9 h12)
          refine k_X6_200 Wκ9 dX6_arrange_187 rfl (Nat.le_of_ble_eq_true rfl) (Nat.le_of_ble_eq_true rfl) (Or.inl h12) F (fun r14 κ13 Wκ13 Mκ13 F => ?_) (fun _ _ h9 => False.elim h9)
          replace F := F Wκ13 Mκ13
          refine y_is dX6_arrange_190 (Nat.le_of_ble_eq_true rfl) rfl ?_
          show zG _ _ _ _ _ [some (.ref a0), some (.int a1), some (.int a2), some (.int a3), none, some (.int a5), some (.int a6), some (.int r6), some (.int r14), none, none] _ _ _
          refine y_aln dX6_arrange_192 rfl ?_
          refine y_ic dX6_arrange_193 zi_2 ?_
          refine y_il dX6_arrange_194 rfl ?_
          refine y_aln dX6_arrange_196 rfl ?_
          have h16 := (ztm Wκ9 Mκ13 h12)
          refine gf_X6_9 Wκ13 dX6_arrange_197 rfl h16 ?_
          refine gf_X6_74 Wκ13 dX6_arrange_200 rfl (ty_odAtlas Wκ13 h16) ?_
          refine y_il dX6_arrange_203 rfl ?_
          refine y_iln dX6_arrange_205 rfl ?_
          replace F := F (ty_atEndings Wκ13 (ty_odAtlas Wκ13 h16))
          refine k_X6_89 Wκ13 dX6_arrange_206 rfl (Nat.le_of_ble_eq_true rfl) (Nat.le_of_ble_eq_true rfl) (Or.inl (ty_atEndings Wκ13 (ty_odAtlas Wκ13 h16))) F (fun r18 κ17 Wκ17 Mκ17 F => ?_) (fun _ _ h9 => False.elim h9)
          replace F := F Wκ17 Mκ17
          refine y_aln dX6_arrange_209 rfl ?_
          have h20 := (ztm Wκ13 Mκ17 h16)
          refine gf_X6_48 Wκ17 dX6_arrange_210 rfl h20 ?_
          replace F := F h20
          replace F := F (ty_odRights Wκ17 h20)
          refine k_X6_200 Wκ17 dX6_arrange_213 rfl (Nat.le_of_ble_eq_true rfl) (Nat.le_of_ble_eq_true rfl) (Or.inl h20) F (fun r22 κ21 Wκ21 Mκ21 F => ?_) (fun _ _ h9 => False.elim h9)
          replace F := F Wκ21 Mκ21
          refine y_is dX6_arrange_216 (Nat.le_of_ble_eq_true rfl) rfl ?_
          show zG _ _ _ _ _ [some (.ref a0), some (.int a1), some (.int a2), some (.int a3), none, some (.int a5), some (.int a6), some (.int r6), some (.int r14), some (.int r22), none] _ _ _
          refine y_aln dX6_arrange_218 rfl ?_
          have h24 := (ztm Wκ17 Mκ21 h20)
          refine gf_X6_45 Wκ21 dX6_arrange_219 rfl h24 ?_
          refine y_il dX6_arrange_222 rfl ?_
          refine y_ald dX6_arrange_224 (ty_odLefts Wκ21 h24) F.1 ?_
          replace F := F.2
          refine y_aln dX6_arrange_225 rfl ?_
          refine gf_X6_48 Wκ21 dX6_arrange_226 rfl h24 ?_
          refine y_il dX6_arrange_229 rfl ?_
          refine y_ald dX6_arrange_231 (ty_odRights Wκ21 h24) F.1 ?_
          replace F := F.2
          refine y_ii ((zA κ21 (zR κ21 odLefts a0) (r6).toNatClampNeg) < (zA κ21 (zR κ21 odRights a0) (r6).toNatClampNeg)) dX6_arrange_232 (t := 239) rfl rfl (fun c9 => ?_) (fun c9 => ?_)
          · replace F := F.1 c9
            refine y_ic dX6_arrange_239 zi_0 ?_
            exact y_k (t_Od_arrange_240 (fun a0' a1' a2' a3' a5' a6' τ w9 f09 hb => by obtain ⟨k, hk, hI⟩ := hb; exact ih k hk a0' a1' a2' a3' a5' a6' τ w9 f09 hI) Wκ21 h24 F) ⟨rfl, rfl, rfl, rfl, rfl, rfl, rfl, rfl, rfl, trivial⟩
          · replace F := F.2 c9
            refine y_ic dX6_arrange_235 zi_1 ?_
            refine y_goto dX6_arrange_236 (t := 240) rfl ?_
            exact y_k (t_Od_arrange_240 (fun a0' a1' a2' a3' a5' a6' τ w9 f09 hb => by obtain ⟨k, hk, hI⟩ := hb; exact ih k hk a0' a1' a2' a3' a5' a6' τ w9 f09 hI) Wκ21 h24 F) ⟨rfl, rfl, rfl, rfl, rfl, rfl, rfl, rfl, rfl, trivial⟩
  exact key m0 a0 a1 a2 a3 a5 a6 κ W Ta0 hI0

def w_Od_arrange_20 (C : zC) (n0 : Nat) (Q : Int32 → zS → Prop)  (a0 : Nat) (a1 : Int32) (a2 : Int32) (a3 : Int32) (a4 : Int32) (a5 : Int32) (κ : zS) : Prop :=
  ∃ I : Nat → Nat → Int32 → Int32 → Int32 → Int32 → Int32 → zS → Prop, (∃ n, I n a0 a1 a2 a3 a4 a5 κ) ∧ ∀ n a0 a1 a2 a3 a4 a5 κ, zW C n0 κ → zT κ a0 = 9 → I n a0 a1 a2 a3 a4 a5 κ →
    ((zI κ hoTotal (zR κ atEndings (zR κ odAtlas a0))) ≤ a5 →
      ∀ _ : zT κ a0 = 9,
      zRun C 2 mOd_placeTables [.ref a0, .int a4] κ (oI (fun r2 κ1 =>
        ∀ _ : zW C n0 κ1,
        ∀ _ : zM (zn κ) κ κ1,
        (r2 ≤ a4 →
          w_Od_arrange_131 C n0 Q  a0 a1 a2 a3 r2 (0 : Int32) κ1) ∧
        (¬ r2 ≤ a4 →
          Q (0 : Int32) κ1)) noX)) ∧
    (¬ (zI κ hoTotal (zR κ atEndings (zR κ odAtlas a0))) ≤ a5 →
      inb a5 (zN κ (zR κ odCellOf a0)) ∧
      ((zA κ (zR κ odCellOf a0) (a5).toNatClampNeg) = (-1 : Int32) →
        ∀ v5_5 : Int32, v5_5 = a5 + (1 : Int32) →
        ∃ k < n, I k a0 a1 a2 a3 a4 v5_5 κ) ∧
      (¬ (zA κ (zR κ odCellOf a0) (a5).toNatClampNeg) = (-1 : Int32) →
        ∀ _ : zT κ a0 = 9,
        zRun C 4 mOd_tableOf [.ref a0, .int a5, .int a3] κ (oI (fun r7 κ6 =>
          ∀ _ : zW C n0 κ6,
          ∀ _ : zM (zn κ) κ κ6,
          ∀ _ : zT κ6 (zR κ6 atEndings (zR κ6 odAtlas a0)) = 6,
          zRun C 1 mHo_part [.ref (zR κ6 atEndings (zR κ6 odAtlas a0)), .int a5, .int a1] κ6 (oI (fun r11 κ10 =>
            ∀ _ : zW C n0 κ10,
            ∀ _ : zM (zn κ6) κ6 κ10,
            ∀ _ : zT κ10 a0 = 9,
            ∀ _ : zT κ10 (zR κ10 odLefts a0) = 20,
            zRun C 4 mOd_rankOf [.ref a0, .int (1 : Int32), .int r7, .int r11, .ref (zR κ10 odLefts a0)] κ10 (oI (fun r15 κ14 =>
              ∀ _ : zW C n0 κ14,
              ∀ _ : zM (zn κ10) κ10 κ14,
              ∀ _ : zT κ14 (zR κ14 atEndings (zR κ14 odAtlas a0)) = 6,
              zRun C 1 mHo_part [.ref (zR κ14 atEndings (zR κ14 odAtlas a0)), .int a5, .int a2] κ14 (oI (fun r19 κ18 =>
                ∀ _ : zW C n0 κ18,
                ∀ _ : zM (zn κ14) κ14 κ18,
                ∀ _ : zT κ18 a0 = 9,
                ∀ _ : zT κ18 (zR κ18 odRights a0) = 20,
                zRun C 4 mOd_rankOf [.ref a0, .int (2 : Int32), .int r7, .int r19, .ref (zR κ18 odRights a0)] κ18 (oI (fun r23 κ22 =>
                  ∀ _ : zW C n0 κ22,
                  ∀ _ : zM (zn κ18) κ18 κ22,
                  ∀ v5_25 : Int32, v5_25 = a5 + (1 : Int32) →
                  ∃ k < n, I k a0 a1 a2 a3 a4 v5_25 κ22) noX)) noX)) noX)) noX)) noX)))
theorem t_Od_arrange_20 {C : zC} {n0 : Nat} {Q : Int32 → zS → Prop}   {a0 : Nat} {a1 : Int32} {a2 : Int32} {a3 : Int32} {a4 : Int32} {a5 : Int32} {κ : zS} (W : zW C n0 κ) (Ta0 : zT κ a0 = 9) (F : w_Od_arrange_20 C n0 Q  a0 a1 a2 a3 a4 a5 κ) : zG C n0 5 mOd_arrange 20 [some (.ref a0), some (.int a1), some (.int a2), some (.int a3), some (.int a4), some (.int a5), none, none, none, none, none] [] κ (oI Q noX) := by
  obtain ⟨I, ⟨m0, hI0⟩, F0⟩ := F
  have key : ∀ n a0 a1 a2 a3 a4 a5 κ, zW C n0 κ → zT κ a0 = 9 → I n a0 a1 a2 a3 a4 a5 κ → zG C n0 5 mOd_arrange 20 [some (.ref a0), some (.int a1), some (.int a2), some (.int a3), some (.int a4), some (.int a5), none, none, none, none, none] [] κ (oI Q noX) := by
    intro n
    induction n using Nat.strongRecOn with
    | _ n ih =>
      intro a0 a1 a2 a3 a4 a5 κ W Ta0 hI
      have F := F0 n a0 a1 a2 a3 a4 a5 κ W Ta0 hI
      clear hI hI0
      refine y_il dX6_arrange_20 rfl ?_
      refine y_aln dX6_arrange_22 rfl ?_
      refine gf_X6_9 W dX6_arrange_23 rfl Ta0 ?_
      refine gf_X6_74 W dX6_arrange_26 rfl (ty_odAtlas W Ta0) ?_
      refine gf_X6_128 dX6_arrange_29 rfl (Or.inl (ty_atEndings W (ty_odAtlas W Ta0))) ?_
      refine y_ii ((zI κ hoTotal (zR κ atEndings (zR κ odAtlas a0))) ≤ a5) dX6_arrange_32 (t := 111) rfl rfl (fun c9 => ?_) (fun c9 => ?_)
      · replace F := F.1 c9
        refine y_aln dX6_arrange_111 rfl ?_
        refine y_il dX6_arrange_112 rfl ?_
        replace F := F Ta0
        refine k_X6_204 W dX6_arrange_114 rfl (Nat.le_of_ble_eq_true rfl) (Nat.le_of_ble_eq_true rfl) (Or.inl Ta0) F (fun r2 κ1 Wκ1 Mκ1 F => ?_) (fun _ _ h9 => False.elim h9)
        replace F := F Wκ1 Mκ1
        refine y_is dX6_arrange_117 (Nat.le_of_ble_eq_true rfl) rfl ?_
        show zG _ _ _ _ _ [some (.ref a0), some (.int a1), some (.int a2), some (.int a3), some (.int a4), some (.int r2), none, none, none, none, none] _ _ _
        refine y_il dX6_arrange_119 rfl ?_
        refine y_il dX6_arrange_121 rfl ?_
        refine y_ii (r2 ≤ a4) dX6_arrange_123 (t := 128) rfl rfl (fun c9 => ?_) (fun c9 => ?_)
        · replace F := F.1 c9
          refine y_ic dX6_arrange_128 zi_0 ?_
          refine y_is dX6_arrange_129 (Nat.le_of_ble_eq_true rfl) rfl ?_
          show zG _ _ _ _ _ [some (.ref a0), some (.int a1), some (.int a2), some (.int a3), some (.int a4), some (.int r2), some (.int (0 : Int32)), none, none, none, none] _ _ _
          have h4 := (ztm W Mκ1 Ta0)
          exact y_k (t_Od_arrange_131  Wκ1 h4 F) ⟨rfl, rfl, rfl, rfl, rfl, rfl, trivial⟩
        · replace F := F.2 c9
          refine y_ic dX6_arrange_126 zi_0 ?_
          exact y_ri Wκ1 dX6_arrange_127 rfl (nb_nar nb_0) F
      · replace F := F.2 c9
        refine y_aln dX6_arrange_35 rfl ?_
        refine gf_X6_57 W dX6_arrange_36 rfl Ta0 ?_
        refine y_il dX6_arrange_39 rfl ?_
        refine y_ald dX6_arrange_41 (ty_odCellOf W Ta0) F.1 ?_
        replace F := F.2
        refine y_ic dX6_arrange_42 zi_m1 ?_
        refine y_ii ((zA κ (zR κ odCellOf a0) (a5).toNatClampNeg) = (-1 : Int32)) dX6_arrange_43 (t := 105) rfl rfl (fun c9 => ?_) (fun c9 => ?_)
        · replace F := F.1 c9
          refine y_incb dX6_arrange_105 zi_1 rfl (Nat.le_of_ble_eq_true rfl) (fun v5_5 ev5_5 => ?_)
          replace F := F v5_5 ev5_5
          show zG _ _ _ _ _ [some (.ref a0), some (.int a1), some (.int a2), some (.int a3), some (.int a4), some (.int v5_5), none, none, none, none, none] _ _ _
          refine y_goto dX6_arrange_108 (t := 20) rfl ?_
          obtain ⟨k, hk, hI⟩ := F
          exact y_k (ih k hk _ _ _ _ _ _ _ W Ta0 hI) ⟨rfl, rfl, rfl, rfl, rfl, rfl, trivial⟩
        · replace F := F.2 c9
          refine y_aln dX6_arrange_46 rfl ?_
          refine y_il dX6_arrange_47 rfl ?_
          refine y_iln dX6_arrange_49 rfl ?_
          replace F := F Ta0
          refine k_X6_197 W dX6_arrange_50 rfl (Nat.le_of_ble_eq_true rfl) (Nat.le_of_ble_eq_true rfl) (Or.inl Ta0) F (fun r7 κ6 Wκ6 Mκ6 F => ?_) (fun _ _ h9 => False.elim h9)
          replace F := F Wκ6 Mκ6
          refine y_is dX6_arrange_53 (Nat.le_of_ble_eq_true rfl) rfl ?_
          show zG _ _ _ _ _ [some (.ref a0), some (.int a1), some (.int a2), some (.int a3), some (.int a4), some (.int a5), some (.int r7), none, none, none, none] _ _ _
          refine y_aln dX6_arrange_55 rfl ?_
          refine y_ic dX6_arrange_56 zi_1 ?_
          refine y_il dX6_arrange_57 rfl ?_
          refine y_aln dX6_arrange_59 rfl ?_
          have h9 := (ztm W Mκ6 Ta0)
          refine gf_X6_9 Wκ6 dX6_arrange_60 rfl h9 ?_
          refine gf_X6_74 Wκ6 dX6_arrange_63 rfl (ty_odAtlas Wκ6 h9) ?_
          refine y_il dX6_arrange_66 rfl ?_
          refine y_iln dX6_arrange_68 rfl ?_
          replace F := F (ty_atEndings Wκ6 (ty_odAtlas Wκ6 h9))
          refine k_X6_89 Wκ6 dX6_arrange_69 rfl (Nat.le_of_ble_eq_true rfl) (Nat.le_of_ble_eq_true rfl) (Or.inl (ty_atEndings Wκ6 (ty_odAtlas Wκ6 h9))) F (fun r11 κ10 Wκ10 Mκ10 F => ?_) (fun _ _ h9 => False.elim h9)
          replace F := F Wκ10 Mκ10
          refine y_aln dX6_arrange_72 rfl ?_
          have h13 := (ztm Wκ6 Mκ10 h9)
          refine gf_X6_45 Wκ10 dX6_arrange_73 rfl h13 ?_
          replace F := F h13
          replace F := F (ty_odLefts Wκ10 h13)
          refine k_X6_200 Wκ10 dX6_arrange_76 rfl (Nat.le_of_ble_eq_true rfl) (Nat.le_of_ble_eq_true rfl) (Or.inl h13) F (fun r15 κ14 Wκ14 Mκ14 F => ?_) (fun _ _ h9 => False.elim h9)
          replace F := F Wκ14 Mκ14
          refine y_pop dX6_arrange_79 rfl ?_
          refine y_aln dX6_arrange_80 rfl ?_
          refine y_ic dX6_arrange_81 zi_2 ?_
          refine y_il dX6_arrange_82 rfl ?_
          refine y_aln dX6_arrange_84 rfl ?_
          have h17 := (ztm Wκ10 Mκ14 h13)
          refine gf_X6_9 Wκ14 dX6_arrange_85 rfl h17 ?_
          refine gf_X6_74 Wκ14 dX6_arrange_88 rfl (ty_odAtlas Wκ14 h17) ?_
          refine y_il dX6_arrange_91 rfl ?_
          refine y_iln dX6_arrange_93 rfl ?_
          replace F := F (ty_atEndings Wκ14 (ty_odAtlas Wκ14 h17))
          refine k_X6_89 Wκ14 dX6_arrange_94 rfl (Nat.le_of_ble_eq_true rfl) (Nat.le_of_ble_eq_true rfl) (Or.inl (ty_atEndings Wκ14 (ty_odAtlas Wκ14 h17))) F (fun r19 κ18 Wκ18 Mκ18 F => ?_) (fun _ _ h9 => False.elim h9)
          replace F := F Wκ18 Mκ18
          refine y_aln dX6_arrange_97 rfl ?_
          have h21 := (ztm Wκ14 Mκ18 h17)
          refine gf_X6_48 Wκ18 dX6_arrange_98 rfl h21 ?_
          replace F := F h21
          replace F := F (ty_odRights Wκ18 h21)
          refine k_X6_200 Wκ18 dX6_arrange_101 rfl (Nat.le_of_ble_eq_true rfl) (Nat.le_of_ble_eq_true rfl) (Or.inl h21) F (fun r23 κ22 Wκ22 Mκ22 F => ?_) (fun _ _ h9 => False.elim h9)
          replace F := F Wκ22 Mκ22
          refine y_pop dX6_arrange_104 rfl ?_
          refine y_incb dX6_arrange_105 zi_1 rfl (Nat.le_of_ble_eq_true rfl) (fun v5_25 ev5_25 => ?_)
          replace F := F v5_25 ev5_25
          show zG _ _ _ _ _ [some (.ref a0), some (.int a1), some (.int a2), some (.int a3), some (.int a4), some (.int v5_25), some (.int r7), none, none, none, none] _ _ _
          refine y_goto dX6_arrange_108 (t := 20) rfl ?_
          have h26 := (ztm Wκ18 Mκ22 h21)
          obtain ⟨k, hk, hI⟩ := F
          exact y_k (ih k hk _ _ _ _ _ _ _ Wκ22 h26 hI) ⟨rfl, rfl, rfl, rfl, rfl, rfl, trivial⟩
  exact key m0 a0 a1 a2 a3 a4 a5 κ W Ta0 hI0

def w_Od_arrange_0 (C : zC) (n0 : Nat) (Q : Int32 → zS → Prop)  (a0 : Nat) (a1 : Int32) (a2 : Int32) (a3 : Int32) (κ : zS) : Prop :=
  ∀ _ : zT κ a0 = 9,
  zRun C 1 mOd_makeRows [.ref a0] κ (oV (fun κ1 =>
    ∀ _ : zW C n0 κ1,
    ∀ _ : zM (zn κ) κ κ1,
    ∀ _ : zT κ1 (zR κ1 odGroups a0) = 6,
    zRun C 1 mHo_clear [.ref (zR κ1 odGroups a0)] κ1 (oV (fun κ5 =>
      ∀ _ : zW C n0 κ5,
      ∀ _ : zM (zn κ1) κ1 κ5,
      ∀ _ : zT κ5 a0 = 9,
      zRun C 2 mOd_markEndings [.ref a0] κ5 (oI (fun r9 κ8 =>
        ∀ _ : zW C n0 κ8,
        ∀ _ : zM (zn κ5) κ5 κ8,
        w_Od_arrange_20 C n0 Q  a0 a1 a2 a3 r9 (0 : Int32) κ8) noX)) noX)) noX)
theorem t_Od_arrange_0 {C : zC} {n0 : Nat} {Q : Int32 → zS → Prop}   {a0 : Nat} {a1 : Int32} {a2 : Int32} {a3 : Int32} {κ : zS} (W : zW C n0 κ) (Ta0 : zT κ a0 = 9) (F : w_Od_arrange_0 C n0 Q  a0 a1 a2 a3 κ) : zG C n0 5 mOd_arrange 0 [some (.ref a0), some (.int a1), some (.int a2), some (.int a3), none, none, none, none, none, none, none] [] κ (oI Q noX) := by
  unfold w_Od_arrange_0 at F
  refine y_aln dX6_arrange_0 rfl ?_
  replace F := F Ta0
  refine k_X6_188 W dX6_arrange_1 rfl (Nat.le_of_ble_eq_true rfl) (Nat.le_of_ble_eq_true rfl) (Or.inl Ta0) F (fun  κ1 Wκ1 Mκ1 F => ?_) (fun _ _ h9 => False.elim h9)
  replace F := F Wκ1 Mκ1
  refine y_aln dX6_arrange_4 rfl ?_
  have h4 := (ztm W Mκ1 Ta0)
  refine gf_X6_37 Wκ1 dX6_arrange_5 rfl h4 ?_
  replace F := F (ty_odGroups Wκ1 h4)
  refine k_X6_191 Wκ1 dX6_arrange_8 rfl (Nat.le_of_ble_eq_true rfl) (Nat.le_of_ble_eq_true rfl) (Or.inl (ty_odGroups Wκ1 h4)) F (fun  κ5 Wκ5 Mκ5 F => ?_) (fun _ _ h9 => False.elim h9)
  replace F := F Wκ5 Mκ5
  refine y_aln dX6_arrange_11 rfl ?_
  have h10 := (ztm Wκ1 Mκ5 h4)
  replace F := F h10
  refine k_X6_194 Wκ5 dX6_arrange_12 rfl (Nat.le_of_ble_eq_true rfl) (Nat.le_of_ble_eq_true rfl) (Or.inl h10) F (fun r9 κ8 Wκ8 Mκ8 F => ?_) (fun _ _ h9 => False.elim h9)
  replace F := F Wκ8 Mκ8
  refine y_is dX6_arrange_15 (Nat.le_of_ble_eq_true rfl) rfl ?_
  show zG _ _ _ _ _ [some (.ref a0), some (.int a1), some (.int a2), some (.int a3), some (.int r9), none, none, none, none, none, none] _ _ _
  refine y_ic dX6_arrange_17 zi_0 ?_
  refine y_is dX6_arrange_18 (Nat.le_of_ble_eq_true rfl) rfl ?_
  show zG _ _ _ _ _ [some (.ref a0), some (.int a1), some (.int a2), some (.int a3), some (.int r9), some (.int (0 : Int32)), none, none, none, none, none] _ _ _
  have h12 := (ztm Wκ5 Mκ8 h10)
  exact y_k (t_Od_arrange_20  Wκ8 h12 F) ⟨rfl, rfl, rfl, rfl, rfl, rfl, trivial⟩

theorem Od_arrange_run {C : zC} {n0 : Nat} {Q : Int32 → zS → Prop} {a0 : Nat} {a1 : Int32} {a2 : Int32} {a3 : Int32} {κ : zS} (W : zW C n0 κ) (Ta0 : zT κ a0 = 9) (F : w_Od_arrange_0 C (zn κ) Q a0 a1 a2 a3 κ) : zRun C 5 mOd_arrange [.ref a0, .int a1, .int a2, .int a3] κ (oI Q noX) := z_run (m_ent _ 7) (t_Od_arrange_0 (W.lo (Nat.le_trans W.1.2.1 W.1.2.2) (Nat.le_refl _)) Ta0 F)

