set_option maxHeartbeats 1600000
/-! the class: ChanceWorks.program, behind its call of the parser -/
theorem fl_X12_128 : (tFL 15).lookup 128 = some (10, 17) := by decide +kernel
theorem fl_X12_132 : (tFL 15).lookup 132 = some (10, 18) := by decide +kernel
theorem fl_X12_151 : (tFL 15).lookup 151 = some (5, 13) := by decide +kernel
theorem gf_X12_23 {C : zC} {n0 d : Nat} {r : dM} {pc : Nat} {L : List (Option Value)} {st : List Value} {κ : zS} {Q : zU → zS → Prop} {a : Nat} (W : zW C n0 κ) (hd : decode r.2.1 pc = .ok (.getfield 23, 3)) (ho : r.2.2.2.2.2.1 = 15) (hT : zT κ a = 15) (K : zG C n0 d r (pc + 3) L (.ref (zR κ chSpare a) :: st) κ Q) : zG C n0 d r pc L (.ref a :: st) κ Q := y_getr W hd ho fl_X12_23 fk_chSpare (Or.inl hT) (ty_chSpare W hT) K
theorem gf_X12_31 {C : zC} {n0 d : Nat} {r : dM} {pc : Nat} {L : List (Option Value)} {st : List Value} {κ : zS} {Q : zU → zS → Prop} {a : Nat} (W : zW C n0 κ) (hd : decode r.2.1 pc = .ok (.getfield 31, 3)) (ho : r.2.2.2.2.2.1 = 15) (hT : zT κ a = 15) (K : zG C n0 d r (pc + 3) L (.ref (zR κ chParser a) :: st) κ Q) : zG C n0 d r pc L (.ref a :: st) κ Q := y_getr W hd ho fl_X12_31 fk_chParser (Or.inl hT) (ty_chParser W hT) K
theorem gf_X12_128 {C : zC} {n0 d : Nat} {r : dM} {pc : Nat} {L : List (Option Value)} {st : List Value} {κ : zS} {Q : zU → zS → Prop} {a : Nat} (hd : decode r.2.1 pc = .ok (.getfield 128, 3)) (ho : r.2.2.2.2.2.1 = 15) (hB : zBo κ a 10) (K : zG C n0 d r (pc + 3) L (.int (zI κ paFaultCode a) :: st) κ Q) : zG C n0 d r pc L (.ref a :: st) κ Q := y_geti hd ho fl_X12_128 fk_paFaultCode hB K
theorem gf_X12_132 {C : zC} {n0 d : Nat} {r : dM} {pc : Nat} {L : List (Option Value)} {st : List Value} {κ : zS} {Q : zU → zS → Prop} {a : Nat} (hd : decode r.2.1 pc = .ok (.getfield 132, 3)) (ho : r.2.2.2.2.2.1 = 15) (hB : zBo κ a 10) (K : zG C n0 d r (pc + 3) L (.int (zI κ paFaultPlace a) :: st) κ Q) : zG C n0 d r pc L (.ref a :: st) κ Q := y_geti hd ho fl_X12_132 fk_paFaultPlace hB K
theorem gf_X12_151 {C : zC} {n0 d : Nat} {r : dM} {pc : Nat} {L : List (Option Value)} {st : List Value} {κ : zS} {Q : zU → zS → Prop} {a : Nat} (hd : decode r.2.1 pc = .ok (.getfield 151, 3)) (ho : r.2.2.2.2.2.1 = 15) (hB : zBo κ a 5) (K : zG C n0 d r (pc + 3) L (.int (zI κ coStatements a) :: st) κ Q) : zG C n0 d r pc L (.ref a :: st) κ Q := y_geti hd ho fl_X12_151 fk_coStatements hB K
theorem pf_X12_131 {C : zC} {n0 d : Nat} {r : dM} {pc : Nat} {L : List (Option Value)} {st : List Value} {κ : zS} {Q : zU → zS → Prop} {a : Nat} {x : Int32} (W : zW C n0 κ) (hd : decode r.2.1 pc = .ok (.putfield 131, 3)) (ho : r.2.2.2.2.2.1 = 15) (hB : zBo κ a 15) (K : ∀ κ1, κ1 = ui κ chFaultCode a x → zG C n0 d r (pc + 3) L st κ1 Q) : zG C n0 d r pc L (.int x :: .ref a :: st) κ Q := y_puti W hd ho fl_X12_131 fk_chFaultCode rfl (Or.inl rfl) in_nar hB K
theorem pf_X12_135 {C : zC} {n0 d : Nat} {r : dM} {pc : Nat} {L : List (Option Value)} {st : List Value} {κ : zS} {Q : zU → zS → Prop} {a : Nat} {x : Int32} (W : zW C n0 κ) (hd : decode r.2.1 pc = .ok (.putfield 135, 3)) (ho : r.2.2.2.2.2.1 = 15) (hn : narrow .boolean (.int x) = .int x ∧ fits .boolean (.int x) = true) (hB : zBo κ a 15) (K : ∀ κ1, κ1 = ui κ chReady a x → zG C n0 d r (pc + 3) L st κ1 Q) : zG C n0 d r pc L (.int x :: .ref a :: st) κ Q := y_puti W hd ho fl_X12_135 fk_chReady rfl (Or.inl rfl) hn hB K
theorem pf_X12_139 {C : zC} {n0 d : Nat} {r : dM} {pc : Nat} {L : List (Option Value)} {st : List Value} {κ : zS} {Q : zU → zS → Prop} {a : Nat} {x : Int32} (W : zW C n0 κ) (hd : decode r.2.1 pc = .ok (.putfield 139, 3)) (ho : r.2.2.2.2.2.1 = 15) (hn : narrow .boolean (.int x) = .int x ∧ fits .boolean (.int x) = true) (hB : zBo κ a 3) (K : ∀ κ1, κ1 = ui κ atExplored a x → zG C n0 d r (pc + 3) L st κ1 Q) : zG C n0 d r pc L (.int x :: .ref a :: st) κ Q := y_puti W hd ho fl_X12_139 fk_atExplored rfl (Or.inl rfl) hn hB K
theorem k_X12_123 {C : zC} {n0 d : Nat} {r : dM} {pc : Nat} {L : List (Option Value)} {st : List Value} {κ : zS} {Q : zU → zS → Prop} {x0 : Nat} {x1 : Nat} {F : zS → Prop} {X : zXp} (W : zW C n0 κ) (hd : decode r.2.1 pc = .ok (.invokevirtual 123, 3)) (ho : r.2.2.2.2.2.1 = 15) (h0 : 14 ≤ d) (hc : (st.map fun v => v.category).sum ≤ 8) (hB : zBo κ x0 10) (h : zRun C 14 mPa_read [.ref x0, .ref x1] κ (oV F X)) (K : ∀ κ', zW C n0 κ' → zM (zn κ) κ κ' → F κ' → zG C n0 (d + 1) r (pc + 3) L (st) κ' Q) (KX : ∀ cls κ', X cls κ' → Q (.inr cls) κ') : zG C n0 (d + 1) r pc L (.ref x1 :: .ref x0 :: st) κ Q := by
  exact y_call (As := [.ref x1]) W hd ho (j := 143) (by decide +kernel) rfl ⟨rfl, by decide, by decide, by decide⟩ rfl (Nat.le_of_ble_eq_true rfl) h0 hc hB h (fun v κ' w9 m9 p9 => ezV K w9 m9 p9) (fun cls κ' p9 => KX cls κ' (thrV p9))
abbrev mCh_program : dM := (yX12_program, cX12_program, 3, (some .int), false, 15, 0)
theorem dX12_program_0 : decode cX12_program 0 = .ok (.iconst 1, 1) := by decide +kernel
theorem dX12_program_1 : decode cX12_program 1 = .ok (.istore_n 1, 1) := by decide +kernel
theorem dX12_program_2 : decode cX12_program 2 = .ok (.aload_n 0, 1) := by decide +kernel
theorem dX12_program_3 : decode cX12_program 3 = .ok (.getfield 31, 3) := by decide +kernel
theorem dX12_program_6 : decode cX12_program 6 = .ok (.aload_n 0, 1) := by decide +kernel
theorem dX12_program_7 : decode cX12_program 7 = .ok (.getfield 23, 3) := by decide +kernel
theorem dX12_program_10 : decode cX12_program 10 = .ok (.invokevirtual 123, 3) := by decide +kernel
theorem dX12_program_13 : decode cX12_program 13 = .ok (.goto 6, 3) := by decide +kernel
theorem dX12_program_19 : decode cX12_program 19 = .ok (.aload_n 0, 1) := by decide +kernel
theorem dX12_program_20 : decode cX12_program 20 = .ok (.getfield 12, 3) := by decide +kernel
theorem dX12_program_23 : decode cX12_program 23 = .ok (.iconst 0, 1) := by decide +kernel
theorem dX12_program_24 : decode cX12_program 24 = .ok (.putfield 100, 3) := by decide +kernel
theorem dX12_program_27 : decode cX12_program 27 = .ok (.aload_n 0, 1) := by decide +kernel
theorem dX12_program_28 : decode cX12_program 28 = .ok (.iload_n 1, 1) := by decide +kernel
theorem dX12_program_29 : decode cX12_program 29 = .ok (.ifCond .eq 7, 3) := by decide +kernel
theorem dX12_program_32 : decode cX12_program 32 = .ok (.iconst 0, 1) := by decide +kernel
theorem dX12_program_33 : decode cX12_program 33 = .ok (.goto 10, 3) := by decide +kernel
theorem dX12_program_36 : decode cX12_program 36 = .ok (.aload_n 0, 1) := by decide +kernel
theorem dX12_program_37 : decode cX12_program 37 = .ok (.getfield 31, 3) := by decide +kernel
theorem dX12_program_40 : decode cX12_program 40 = .ok (.getfield 128, 3) := by decide +kernel
theorem dX12_program_43 : decode cX12_program 43 = .ok (.putfield 131, 3) := by decide +kernel
theorem dX12_program_46 : decode cX12_program 46 = .ok (.iload_n 1, 1) := by decide +kernel
theorem dX12_program_47 : decode cX12_program 47 = .ok (.ifCond .ne 13, 3) := by decide +kernel
theorem dX12_program_50 : decode cX12_program 50 = .ok (.iconst (-1), 1) := by decide +kernel
theorem dX12_program_51 : decode cX12_program 51 = .ok (.aload_n 0, 1) := by decide +kernel
theorem dX12_program_52 : decode cX12_program 52 = .ok (.getfield 31, 3) := by decide +kernel
theorem dX12_program_55 : decode cX12_program 55 = .ok (.getfield 132, 3) := by decide +kernel
theorem dX12_program_58 : decode cX12_program 58 = .ok (.isub, 1) := by decide +kernel
theorem dX12_program_59 : decode cX12_program 59 = .ok (.ireturn, 1) := by decide +kernel
theorem dX12_program_60 : decode cX12_program 60 = .ok (.aload_n 0, 1) := by decide +kernel
theorem dX12_program_61 : decode cX12_program 61 = .ok (.getfield 19, 3) := by decide +kernel
theorem dX12_program_64 : decode cX12_program 64 = .ok (.astore_n 2, 1) := by decide +kernel
theorem dX12_program_65 : decode cX12_program 65 = .ok (.aload_n 0, 1) := by decide +kernel
theorem dX12_program_66 : decode cX12_program 66 = .ok (.aload_n 0, 1) := by decide +kernel
theorem dX12_program_67 : decode cX12_program 67 = .ok (.getfield 23, 3) := by decide +kernel
theorem dX12_program_70 : decode cX12_program 70 = .ok (.putfield 19, 3) := by decide +kernel
theorem dX12_program_73 : decode cX12_program 73 = .ok (.aload_n 0, 1) := by decide +kernel
theorem dX12_program_74 : decode cX12_program 74 = .ok (.aload_n 2, 1) := by decide +kernel
theorem dX12_program_75 : decode cX12_program 75 = .ok (.putfield 23, 3) := by decide +kernel
theorem dX12_program_78 : decode cX12_program 78 = .ok (.aload_n 0, 1) := by decide +kernel
theorem dX12_program_79 : decode cX12_program 79 = .ok (.iconst 1, 1) := by decide +kernel
theorem dX12_program_80 : decode cX12_program 80 = .ok (.putfield 135, 3) := by decide +kernel
theorem dX12_program_83 : decode cX12_program 83 = .ok (.aload_n 0, 1) := by decide +kernel
theorem dX12_program_84 : decode cX12_program 84 = .ok (.getfield 49, 3) := by decide +kernel
theorem dX12_program_87 : decode cX12_program 87 = .ok (.iconst 0, 1) := by decide +kernel
theorem dX12_program_88 : decode cX12_program 88 = .ok (.putfield 139, 3) := by decide +kernel
theorem dX12_program_91 : decode cX12_program 91 = .ok (.aload_n 0, 1) := by decide +kernel
theorem dX12_program_92 : decode cX12_program 92 = .ok (.getfield 61, 3) := by decide +kernel
theorem dX12_program_95 : decode cX12_program 95 = .ok (.iconst 0, 1) := by decide +kernel
theorem dX12_program_96 : decode cX12_program 96 = .ok (.putfield 142, 3) := by decide +kernel
theorem dX12_program_99 : decode cX12_program 99 = .ok (.aload_n 0, 1) := by decide +kernel
theorem dX12_program_100 : decode cX12_program 100 = .ok (.getfield 61, 3) := by decide +kernel
theorem dX12_program_103 : decode cX12_program 103 = .ok (.iconst 0, 1) := by decide +kernel
theorem dX12_program_104 : decode cX12_program 104 = .ok (.putfield 145, 3) := by decide +kernel
theorem dX12_program_107 : decode cX12_program 107 = .ok (.aload_n 0, 1) := by decide +kernel
theorem dX12_program_108 : decode cX12_program 108 = .ok (.iconst 0, 1) := by decide +kernel
theorem dX12_program_109 : decode cX12_program 109 = .ok (.putfield 148, 3) := by decide +kernel
theorem dX12_program_112 : decode cX12_program 112 = .ok (.aload_n 0, 1) := by decide +kernel
theorem dX12_program_113 : decode cX12_program 113 = .ok (.getfield 19, 3) := by decide +kernel
theorem dX12_program_116 : decode cX12_program 116 = .ok (.getfield 151, 3) := by decide +kernel
theorem dX12_program_119 : decode cX12_program 119 = .ok (.ireturn, 1) := by decide +kernel
def w_Ch_program_43 (C : zC) (n0 : Nat) (Q : Int32 → zS → Prop)  (a0 : Nat) (a1 : Int32) (s0 : Nat) (s1 : Int32) (κ : zS) : Prop :=
  ∀ κ1, κ1 = ui κ chFaultCode s0 s1 →
  ∀ _ : zW C n0 κ1,
  (¬ a1 = (0 : Int32) →
    ∀ v2_3 : Nat, v2_3 = (zR κ1 chCode a0) →
    ∀ κ4, κ4 = ur κ1 chCode a0 (zR κ1 chSpare a0) →
    ∀ _ : zW C n0 κ4,
    ∀ κ5, κ5 = ur κ4 chSpare a0 v2_3 →
    ∀ _ : zW C n0 κ5,
    ∀ κ8, κ8 = ui κ5 chReady a0 (1 : Int32) →
    ∀ _ : zW C n0 κ8,
    ∀ κ11, κ11 = ui κ8 atExplored (zR κ8 chAtlas a0) (0 : Int32) →
    ∀ _ : zW C n0 κ11,
    ∀ κ13, κ13 = ui κ11 soSolved (zR κ11 chSolver a0) (0 : Int32) →
    ∀ _ : zW C n0 κ13,
    ∀ κ15, κ15 = ui κ13 soPlanned (zR κ13 chSolver a0) (0 : Int32) →
    ∀ _ : zW C n0 κ15,
    ∀ κ16, κ16 = ui κ15 chPlayMade a0 (0 : Int32) →
    ∀ _ : zW C n0 κ16,
    Q (zI κ16 coStatements (zR κ16 chCode a0)) κ16) ∧
  (a1 = (0 : Int32) →
    Q ((-1 : Int32) - (zI κ1 paFaultPlace (zR κ1 chParser a0))) κ1)
theorem t_Ch_program_43 {C : zC} {n0 : Nat} {Q : Int32 → zS → Prop}   {a0 : Nat} {a1 : Int32} {s0 : Nat} {s1 : Int32} {κ : zS} (W : zW C n0 κ) (Ta0 : zT κ a0 = 15) (Ts0 : zT κ s0 = 15) (F : w_Ch_program_43 C n0 Q  a0 a1 s0 s1 κ) : zG C n0 15 mCh_program 43 [some (.ref a0), some (.int a1), none] [.int s1, .ref s0] κ (oI Q noX) := by
  unfold w_Ch_program_43 at F
  refine pf_X12_131 W dX12_program_43 rfl (Or.inl Ts0) (fun κ1 eκ1 => ?_)
  replace F := F κ1 eκ1
  have Wκ1 : zW C n0 κ1 := zW_ui W eκ1 (fun h => absurd h (by decide))
  have Mκ1 : zM (zn κ) κ κ1 := by rw [eκ1]; exact zM.of rfl rfl rfl
  replace F := F Wκ1
  refine y_iln dX12_program_46 rfl ?_
  refine y_in (a1 = (0 : Int32)) dX12_program_47 (t := 60) rfl rfl (fun c9 => ?_) (fun c9 => ?_)
  · replace F := F.1 c9
    refine y_aln dX12_program_60 rfl ?_
    have h2 := (ztm W Mκ1 Ta0)
    refine gf_X12_19 Wκ1 dX12_program_61 rfl h2 ?_
    refine y_asnb dX12_program_64 (Nat.le_of_ble_eq_true rfl) (fun v2_3 ev2_3 => ?_)
    replace F := F v2_3 ev2_3
    have Tv2_3 : zT κ1 v2_3 = 5 := by rw [ev2_3]; exact (ty_chCode Wκ1 h2)
    refine y_aln dX12_program_65 rfl ?_
    refine y_aln dX12_program_66 rfl ?_
    refine gf_X12_23 Wκ1 dX12_program_67 rfl h2 ?_
    refine pf_X12_19 Wκ1 dX12_program_70 rfl (Or.inl h2) (ty_chSpare Wκ1 h2) (fun κ4 eκ4 => ?_)
    replace F := F κ4 eκ4
    have Wκ4 : zW C n0 κ4 := zW_ur Wκ1 eκ4 (fun t ht => by cases ht; exact ⟨by decide, (ty_chSpare Wκ1 h2)⟩)
    have Mκ4 : zM (zn κ1) κ1 κ4 := by rw [eκ4]; exact zM.of rfl rfl rfl
    replace F := F Wκ4
    refine y_aln dX12_program_73 rfl ?_
    refine y_aln dX12_program_74 rfl ?_
    have h6 := (ztm Wκ1 Mκ4 Tv2_3)
    have h7 := (ztm Wκ1 Mκ4 h2)
    refine pf_X12_23 Wκ4 dX12_program_75 rfl (Or.inl h7) h6 (fun κ5 eκ5 => ?_)
    replace F := F κ5 eκ5
    have Wκ5 : zW C n0 κ5 := zW_ur Wκ4 eκ5 (fun t ht => by cases ht; exact ⟨by decide, h6⟩)
    have Mκ5 : zM (zn κ4) κ4 κ5 := by rw [eκ5]; exact zM.of rfl rfl rfl
    replace F := F Wκ5
    refine y_aln dX12_program_78 rfl ?_
    refine y_ic dX12_program_79 zi_1 ?_
    have h9 := (ztm Wκ4 Mκ5 h7)
    refine pf_X12_135 Wκ5 dX12_program_80 rfl (nb_nar nb_1) (Or.inl h9) (fun κ8 eκ8 => ?_)
    replace F := F κ8 eκ8
    have Wκ8 : zW C n0 κ8 := zW_ui Wκ5 eκ8 (fun _ => nb_1)
    have Mκ8 : zM (zn κ5) κ5 κ8 := by rw [eκ8]; exact zM.of rfl rfl rfl
    replace F := F Wκ8
    refine y_aln dX12_program_83 rfl ?_
    have h10 := (ztm Wκ5 Mκ8 h9)
    refine gf_X12_49 Wκ8 dX12_program_84 rfl h10 ?_
    refine y_ic dX12_program_87 zi_0 ?_
    refine pf_X12_139 Wκ8 dX12_program_88 rfl (nb_nar nb_0) (Or.inl (ty_chAtlas Wκ8 h10)) (fun κ11 eκ11 => ?_)
    replace F := F κ11 eκ11
    have Wκ11 : zW C n0 κ11 := zW_ui Wκ8 eκ11 (fun _ => nb_0)
    have Mκ11 : zM (zn κ8) κ8 κ11 := by rw [eκ11]; exact zM.of rfl rfl rfl
    replace F := F Wκ11
    refine y_aln dX12_program_91 rfl ?_
    have h12 := (ztm Wκ8 Mκ11 h10)
    refine gf_X12_61 Wκ11 dX12_program_92 rfl h12 ?_
    refine y_ic dX12_program_95 zi_0 ?_
    refine pf_X12_142 Wκ11 dX12_program_96 rfl (nb_nar nb_0) (Or.inl (ty_chSolver Wκ11 h12)) (fun κ13 eκ13 => ?_)
    replace F := F κ13 eκ13
    have Wκ13 : zW C n0 κ13 := zW_ui Wκ11 eκ13 (fun _ => nb_0)
    have Mκ13 : zM (zn κ11) κ11 κ13 := by rw [eκ13]; exact zM.of rfl rfl rfl
    replace F := F Wκ13
    refine y_aln dX12_program_99 rfl ?_
    have h14 := (ztm Wκ11 Mκ13 h12)
    refine gf_X12_61 Wκ13 dX12_program_100 rfl h14 ?_
    refine y_ic dX12_program_103 zi_0 ?_
    refine pf_X12_145 Wκ13 dX12_program_104 rfl (nb_nar nb_0) (Or.inl (ty_chSolver Wκ13 h14)) (fun κ15 eκ15 => ?_)
    replace F := F κ15 eκ15
    have Wκ15 : zW C n0 κ15 := zW_ui Wκ13 eκ15 (fun _ => nb_0)
    have Mκ15 : zM (zn κ13) κ13 κ15 := by rw [eκ15]; exact zM.of rfl rfl rfl
    replace F := F Wκ15
    refine y_aln dX12_program_107 rfl ?_
    refine y_ic dX12_program_108 zi_0 ?_
    have h17 := (ztm Wκ13 Mκ15 h14)
    refine pf_X12_148 Wκ15 dX12_program_109 rfl (nb_nar nb_0) (Or.inl h17) (fun κ16 eκ16 => ?_)
    replace F := F κ16 eκ16
    have Wκ16 : zW C n0 κ16 := zW_ui Wκ15 eκ16 (fun _ => nb_0)
    have Mκ16 : zM (zn κ15) κ15 κ16 := by rw [eκ16]; exact zM.of rfl rfl rfl
    replace F := F Wκ16
    refine y_aln dX12_program_112 rfl ?_
    have h18 := (ztm Wκ15 Mκ16 h17)
    refine gf_X12_19 Wκ16 dX12_program_113 rfl h18 ?_
    refine gf_X12_151 dX12_program_116 rfl (Or.inl (ty_chCode Wκ16 h18)) ?_
    exact y_ri Wκ16 dX12_program_119 rfl in_nar F
  · replace F := F.2 c9
    refine y_ic dX12_program_50 zi_m1 ?_
    refine y_aln dX12_program_51 rfl ?_
    have h19 := (ztm W Mκ1 Ta0)
    refine gf_X12_31 Wκ1 dX12_program_52 rfl h19 ?_
    refine gf_X12_132 dX12_program_55 rfl (Or.inl (ty_chParser Wκ1 h19)) ?_
    refine y_isub dX12_program_58 ?_
    exact y_ri Wκ1 dX12_program_59 rfl in_nar F

def w_Ch_program_19 (C : zC) (n0 : Nat) (Q : Int32 → zS → Prop)  (a0 : Nat) (a1 : Int32) (κ : zS) : Prop :=
  ∀ κ1, κ1 = ui κ taLength (zR κ chTape a0) (0 : Int32) →
  ∀ _ : zW C n0 κ1,
  (a1 = (0 : Int32) →
    w_Ch_program_43 C n0 Q  a0 a1 a0 (zI κ1 paFaultCode (zR κ1 chParser a0)) κ1) ∧
  (¬ a1 = (0 : Int32) →
    w_Ch_program_43 C n0 Q  a0 a1 a0 (0 : Int32) κ1)
theorem t_Ch_program_19 {C : zC} {n0 : Nat} {Q : Int32 → zS → Prop}   {a0 : Nat} {a1 : Int32} {κ : zS} (W : zW C n0 κ) (Ta0 : zT κ a0 = 15) (F : w_Ch_program_19 C n0 Q  a0 a1 κ) : zG C n0 15 mCh_program 19 [some (.ref a0), some (.int a1), none] [] κ (oI Q noX) := by
  unfold w_Ch_program_19 at F
  refine y_aln dX12_program_19 rfl ?_
  refine gf_X12_12 W dX12_program_20 rfl Ta0 ?_
  refine y_ic dX12_program_23 zi_0 ?_
  refine pf_X12_100 W dX12_program_24 rfl (Or.inl (ty_chTape W Ta0)) (fun κ1 eκ1 => ?_)
  replace F := F κ1 eκ1
  have Wκ1 : zW C n0 κ1 := zW_ui W eκ1 (fun h => absurd h (by decide))
  have Mκ1 : zM (zn κ) κ κ1 := by rw [eκ1]; exact zM.of rfl rfl rfl
  replace F := F Wκ1
  refine y_aln dX12_program_27 rfl ?_
  refine y_iln dX12_program_28 rfl ?_
  refine y_i (a1 = (0 : Int32)) dX12_program_29 (t := 36) rfl rfl (fun c9 => ?_) (fun c9 => ?_)
  · replace F := F.1 c9
    refine y_aln dX12_program_36 rfl ?_
    have h2 := (ztm W Mκ1 Ta0)
    refine gf_X12_31 Wκ1 dX12_program_37 rfl h2 ?_
    refine gf_X12_128 dX12_program_40 rfl (Or.inl (ty_chParser Wκ1 h2)) ?_
    exact y_k (t_Ch_program_43  Wκ1 h2 h2 F) ⟨rfl, rfl, trivial⟩
  · replace F := F.2 c9
    refine y_ic dX12_program_32 zi_0 ?_
    refine y_goto dX12_program_33 (t := 43) rfl ?_
    have h3 := (ztm W Mκ1 Ta0)
    exact y_k (t_Ch_program_43  Wκ1 h3 h3 F) ⟨rfl, rfl, trivial⟩

