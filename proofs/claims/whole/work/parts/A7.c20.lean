/-! methods of the class: Ch_explore, Ch_state, Ch_value, Ch_next, Ch_ending, Ch_decide, Ch_decided, Ch_best, Ch_solve, Ch_showsNow, Ch_showPlay, Ch_show, Ch_size, Ch_limb, Ch_tell, Ch_forget, Ch_drawn -/
theorem dX12_explore_0 : decode cX12_explore 0 = .ok (.aload_n 0, 1) := by decide +kernel
theorem dX12_explore_1 : decode cX12_explore 1 = .ok (.getfield 135, 3) := by decide +kernel
theorem dX12_explore_4 : decode cX12_explore 4 = .ok (.ifCond .ne 13, 3) := by decide +kernel
theorem dX12_explore_7 : decode cX12_explore 7 = .ok (.new 126, 3) := by decide +kernel
theorem dX12_explore_10 : decode cX12_explore 10 = .ok (.dup, 1) := by decide +kernel
theorem dX12_explore_11 : decode cX12_explore 11 = .ok (.ldc 164, 2) := by decide +kernel
theorem dX12_explore_13 : decode cX12_explore 13 = .ok (.invokespecial 166, 3) := by decide +kernel
theorem dX12_explore_16 : decode cX12_explore 16 = .ok (.athrow, 1) := by decide +kernel
theorem dX12_explore_17 : decode cX12_explore 17 = .ok (.iload_n 1, 1) := by decide +kernel
theorem dX12_explore_18 : decode cX12_explore 18 = .ok (.iconst 1, 1) := by decide +kernel
theorem dX12_explore_19 : decode cX12_explore 19 = .ok (.if_icmp .lt 10, 3) := by decide +kernel
theorem dX12_explore_22 : decode cX12_explore 22 = .ok (.iload_n 1, 1) := by decide +kernel
theorem dX12_explore_23 : decode cX12_explore 23 = .ok (.sipush 1000, 3) := by decide +kernel
theorem dX12_explore_26 : decode cX12_explore 26 = .ok (.if_icmp .le 13, 3) := by decide +kernel
theorem dX12_explore_29 : decode cX12_explore 29 = .ok (.new 118, 3) := by decide +kernel
theorem dX12_explore_32 : decode cX12_explore 32 = .ok (.dup, 1) := by decide +kernel
theorem dX12_explore_33 : decode cX12_explore 33 = .ok (.ldc 167, 2) := by decide +kernel
theorem dX12_explore_35 : decode cX12_explore 35 = .ok (.invokespecial 122, 3) := by decide +kernel
theorem dX12_explore_38 : decode cX12_explore 38 = .ok (.athrow, 1) := by decide +kernel
theorem dX12_explore_39 : decode cX12_explore 39 = .ok (.aload_n 0, 1) := by decide +kernel
theorem dX12_explore_40 : decode cX12_explore 40 = .ok (.getfield 61, 3) := by decide +kernel
theorem dX12_explore_43 : decode cX12_explore 43 = .ok (.iconst 0, 1) := by decide +kernel
theorem dX12_explore_44 : decode cX12_explore 44 = .ok (.putfield 142, 3) := by decide +kernel
theorem dX12_explore_47 : decode cX12_explore 47 = .ok (.aload_n 0, 1) := by decide +kernel
theorem dX12_explore_48 : decode cX12_explore 48 = .ok (.getfield 61, 3) := by decide +kernel
theorem dX12_explore_51 : decode cX12_explore 51 = .ok (.iconst 0, 1) := by decide +kernel
theorem dX12_explore_52 : decode cX12_explore 52 = .ok (.putfield 145, 3) := by decide +kernel
theorem dX12_explore_55 : decode cX12_explore 55 = .ok (.aload_n 0, 1) := by decide +kernel
theorem dX12_explore_56 : decode cX12_explore 56 = .ok (.getfield 49, 3) := by decide +kernel
theorem dX12_explore_59 : decode cX12_explore 59 = .ok (.aload_n 0, 1) := by decide +kernel
theorem dX12_explore_60 : decode cX12_explore 60 = .ok (.getfield 19, 3) := by decide +kernel
theorem dX12_explore_63 : decode cX12_explore 63 = .ok (.iload_n 1, 1) := by decide +kernel
theorem dX12_explore_64 : decode cX12_explore 64 = .ok (.invokevirtual 169, 3) := by decide +kernel
theorem dX12_explore_67 : decode cX12_explore 67 = .ok (.ireturn, 1) := by decide +kernel
def w_Ch_explore_0 (C : zC) (n0 : Nat) (Q : Int32 → zS → Prop) (X : zXp)  (a0 : Nat) (a1 : Int32) (κ : zS) : Prop :=
  (¬ (zI κ chReady a0) = (0 : Int32) →
    (a1 < (1 : Int32) →
      ∀ κ1, κ1 = ut κ → X "java/lang/IllegalArgumentException" κ1) ∧
    (¬ a1 < (1 : Int32) →
      (a1 ≤ (1000 : Int32) →
        ∀ κ2, κ2 = ui κ soSolved (zR κ chSolver a0) (0 : Int32) →
        ∀ _ : zW C n0 κ2,
        ∀ κ4, κ4 = ui κ2 soPlanned (zR κ2 chSolver a0) (0 : Int32) →
        ∀ _ : zW C n0 κ4,
        ∀ _ : zT κ4 (zR κ4 chAtlas a0) = 3,
        ∀ _ : zT κ4 (zR κ4 chCode a0) = 5,
        zRun C 6 mAt_discover [.ref (zR κ4 chAtlas a0), .ref (zR κ4 chCode a0), .int a1] κ4 (oI (fun r7 κ6 =>
          ∀ _ : zW C n0 κ6,
          ∀ _ : zM (zn κ4) κ4 κ6,
          Q r7 κ6) noX)) ∧
      (¬ a1 ≤ (1000 : Int32) →
        ∀ κ9, κ9 = ut κ → X "java/lang/IllegalArgumentException" κ9))) ∧
  ((zI κ chReady a0) = (0 : Int32) →
    ∀ κ10, κ10 = ut κ → X "java/lang/IllegalStateException" κ10)
theorem t_Ch_explore_0 {C : zC} {n0 : Nat} {Q : Int32 → zS → Prop} {X : zXp}   {a0 : Nat} {a1 : Int32} {κ : zS} (W : zW C n0 κ) (Ta0 : zT κ a0 = 15) (F : w_Ch_explore_0 C n0 Q X  a0 a1 κ) : zG C n0 8 mCh_explore 0 [some (.ref a0), some (.int a1)] [] κ (oI Q X) := by
  unfold w_Ch_explore_0 at F
  refine y_aln dX12_explore_0 rfl ?_
  refine gf_X12_135 dX12_explore_1 rfl (Or.inl Ta0) ?_
  refine y_in ((zI κ chReady a0) = (0 : Int32)) dX12_explore_4 (t := 17) rfl rfl (fun c9 => ?_) (fun c9 => ?_)
  · replace F := F.1 c9
    refine y_iln dX12_explore_17 rfl ?_
    refine y_ic dX12_explore_18 zi_1 ?_
    refine y_ii (a1 < (1 : Int32)) dX12_explore_19 (t := 29) rfl rfl (fun c9 => ?_) (fun c9 => ?_)
    · replace F := F.1 c9
      exact y_thr W (dxat_yes dX12_explore_29 dX12_explore_32 dX12_explore_33 dX12_explore_35 dX12_explore_38 rfl rfl rfl) (Nat.le_of_ble_eq_true rfl) (Nat.le_of_ble_eq_true rfl) (fun κ9 e9 => Or.inr ⟨_, rfl, F κ9 e9⟩)
    · replace F := F.2 c9
      refine y_iln dX12_explore_22 rfl ?_
      refine y_si dX12_explore_23 zs_1000 ?_
      refine y_ii (a1 ≤ (1000 : Int32)) dX12_explore_26 (t := 39) rfl rfl (fun c9 => ?_) (fun c9 => ?_)
      · replace F := F.1 c9
        refine y_aln dX12_explore_39 rfl ?_
        refine gf_X12_61 W dX12_explore_40 rfl Ta0 ?_
        refine y_ic dX12_explore_43 zi_0 ?_
        refine pf_X12_142 W dX12_explore_44 rfl (nb_nar nb_0) (Or.inl (ty_chSolver W Ta0)) (fun κ2 eκ2 => ?_)
        replace F := F κ2 eκ2
        have Wκ2 : zW C n0 κ2 := zW_ui W eκ2 (fun _ => nb_0)
        have Mκ2 : zM (zn κ) κ κ2 := by rw [eκ2]; exact zM.of rfl rfl rfl
        replace F := F Wκ2
        refine y_aln dX12_explore_47 rfl ?_
        have h3 := (ztm W Mκ2 Ta0)
        refine gf_X12_61 Wκ2 dX12_explore_48 rfl h3 ?_
        refine y_ic dX12_explore_51 zi_0 ?_
        refine pf_X12_145 Wκ2 dX12_explore_52 rfl (nb_nar nb_0) (Or.inl (ty_chSolver Wκ2 h3)) (fun κ4 eκ4 => ?_)
        replace F := F κ4 eκ4
        have Wκ4 : zW C n0 κ4 := zW_ui Wκ2 eκ4 (fun _ => nb_0)
        have Mκ4 : zM (zn κ2) κ2 κ4 := by rw [eκ4]; exact zM.of rfl rfl rfl
        replace F := F Wκ4
        refine y_aln dX12_explore_55 rfl ?_
        have h5 := (ztm Wκ2 Mκ4 h3)
        refine gf_X12_49 Wκ4 dX12_explore_56 rfl h5 ?_
        refine y_aln dX12_explore_59 rfl ?_
        refine gf_X12_19 Wκ4 dX12_explore_60 rfl h5 ?_
        refine y_iln dX12_explore_63 rfl ?_
        replace F := F (ty_chAtlas Wκ4 h5)
        replace F := F (ty_chCode Wκ4 h5)
        refine k_X12_169 Wκ4 dX12_explore_64 rfl (Nat.le_of_ble_eq_true rfl) (Nat.le_of_ble_eq_true rfl) (Or.inl (ty_chAtlas Wκ4 h5)) F (fun r7 κ6 Wκ6 Mκ6 F => ?_) (fun _ _ h9 => False.elim h9)
        replace F := F Wκ6 Mκ6
        exact y_ri Wκ6 dX12_explore_67 rfl in_nar F
      · replace F := F.2 c9
        exact y_thr W (dxat_yes dX12_explore_29 dX12_explore_32 dX12_explore_33 dX12_explore_35 dX12_explore_38 rfl rfl rfl) (Nat.le_of_ble_eq_true rfl) (Nat.le_of_ble_eq_true rfl) (fun κ9 e9 => Or.inr ⟨_, rfl, F κ9 e9⟩)
  · replace F := F.2 c9
    exact y_thr W (dxat_yes dX12_explore_7 dX12_explore_10 dX12_explore_11 dX12_explore_13 dX12_explore_16 rfl rfl rfl) (Nat.le_of_ble_eq_true rfl) (Nat.le_of_ble_eq_true rfl) (fun κ9 e9 => Or.inr ⟨_, rfl, F κ9 e9⟩)

theorem Ch_explore_run {C : zC} {n0 : Nat} {Q : Int32 → zS → Prop} {X : zXp} {a0 : Nat} {a1 : Int32} {κ : zS} (W : zW C n0 κ) (Ta0 : zT κ a0 = 15) (F : w_Ch_explore_0 C (zn κ) Q X a0 a1 κ) : zRun C 8 mCh_explore [.ref a0, .int a1] κ (oI Q X) := z_run (m_ent _ 0) (t_Ch_explore_0 (W.lo (Nat.le_trans W.1.2.1 W.1.2.2) (Nat.le_refl _)) Ta0 F)

theorem dX12_state_0 : decode cX12_state 0 = .ok (.aload_n 0, 1) := by decide +kernel
theorem dX12_state_1 : decode cX12_state 1 = .ok (.getfield 49, 3) := by decide +kernel
theorem dX12_state_4 : decode cX12_state 4 = .ok (.iload_n 1, 1) := by decide +kernel
theorem dX12_state_5 : decode cX12_state 5 = .ok (.invokevirtual 173, 3) := by decide +kernel
theorem dX12_state_8 : decode cX12_state 8 = .ok (.ifCond .eq 12, 3) := by decide +kernel
theorem dX12_state_11 : decode cX12_state 11 = .ok (.iload_n 2, 1) := by decide +kernel
theorem dX12_state_12 : decode cX12_state 12 = .ok (.ifCond .lt 8, 3) := by decide +kernel
theorem dX12_state_15 : decode cX12_state 15 = .ok (.iload_n 2, 1) := by decide +kernel
theorem dX12_state_16 : decode cX12_state 16 = .ok (.iconst 5, 1) := by decide +kernel
theorem dX12_state_17 : decode cX12_state 17 = .ok (.if_icmp .le 13, 3) := by decide +kernel
theorem dX12_state_20 : decode cX12_state 20 = .ok (.new 154, 3) := by decide +kernel
theorem dX12_state_23 : decode cX12_state 23 = .ok (.dup, 1) := by decide +kernel
theorem dX12_state_24 : decode cX12_state 24 = .ok (.ldc 177, 2) := by decide +kernel
theorem dX12_state_26 : decode cX12_state 26 = .ok (.invokespecial 158, 3) := by decide +kernel
theorem dX12_state_29 : decode cX12_state 29 = .ok (.athrow, 1) := by decide +kernel
theorem dX12_state_30 : decode cX12_state 30 = .ok (.iload_n 2, 1) := by decide +kernel
theorem dX12_state_31 : decode cX12_state 31 = .ok (.tableswitch 106 0 4 #[33, 52, 61, 70, 88], 33) := by decide +kernel
theorem dX12_state_64 : decode cX12_state 64 = .ok (.aload_n 0, 1) := by decide +kernel
theorem dX12_state_65 : decode cX12_state 65 = .ok (.getfield 49, 3) := by decide +kernel
theorem dX12_state_68 : decode cX12_state 68 = .ok (.iload_n 1, 1) := by decide +kernel
theorem dX12_state_69 : decode cX12_state 69 = .ok (.aload_n 0, 1) := by decide +kernel
theorem dX12_state_70 : decode cX12_state 70 = .ok (.getfield 49, 3) := by decide +kernel
theorem dX12_state_73 : decode cX12_state 73 = .ok (.iload_n 1, 1) := by decide +kernel
theorem dX12_state_74 : decode cX12_state 74 = .ok (.invokevirtual 179, 3) := by decide +kernel
theorem dX12_state_77 : decode cX12_state 77 = .ok (.iconst 1, 1) := by decide +kernel
theorem dX12_state_78 : decode cX12_state 78 = .ok (.isub, 1) := by decide +kernel
theorem dX12_state_79 : decode cX12_state 79 = .ok (.invokevirtual 182, 3) := by decide +kernel
theorem dX12_state_82 : decode cX12_state 82 = .ok (.ireturn, 1) := by decide +kernel
theorem dX12_state_83 : decode cX12_state 83 = .ok (.aload_n 0, 1) := by decide +kernel
theorem dX12_state_84 : decode cX12_state 84 = .ok (.getfield 49, 3) := by decide +kernel
theorem dX12_state_87 : decode cX12_state 87 = .ok (.iload_n 1, 1) := by decide +kernel
theorem dX12_state_88 : decode cX12_state 88 = .ok (.invokevirtual 179, 3) := by decide +kernel
theorem dX12_state_91 : decode cX12_state 91 = .ok (.ireturn, 1) := by decide +kernel
theorem dX12_state_92 : decode cX12_state 92 = .ok (.aload_n 0, 1) := by decide +kernel
theorem dX12_state_93 : decode cX12_state 93 = .ok (.getfield 49, 3) := by decide +kernel
theorem dX12_state_96 : decode cX12_state 96 = .ok (.iload_n 1, 1) := by decide +kernel
theorem dX12_state_97 : decode cX12_state 97 = .ok (.invokevirtual 186, 3) := by decide +kernel
theorem dX12_state_100 : decode cX12_state 100 = .ok (.ireturn, 1) := by decide +kernel
theorem dX12_state_101 : decode cX12_state 101 = .ok (.aload_n 0, 1) := by decide +kernel
theorem dX12_state_102 : decode cX12_state 102 = .ok (.getfield 49, 3) := by decide +kernel
theorem dX12_state_105 : decode cX12_state 105 = .ok (.getfield 189, 3) := by decide +kernel
theorem dX12_state_108 : decode cX12_state 108 = .ok (.iload_n 1, 1) := by decide +kernel
theorem dX12_state_109 : decode cX12_state 109 = .ok (.baload, 1) := by decide +kernel
theorem dX12_state_110 : decode cX12_state 110 = .ok (.ifCond .eq 7, 3) := by decide +kernel
theorem dX12_state_113 : decode cX12_state 113 = .ok (.iconst 1, 1) := by decide +kernel
theorem dX12_state_114 : decode cX12_state 114 = .ok (.goto 4, 3) := by decide +kernel
theorem dX12_state_117 : decode cX12_state 117 = .ok (.iconst 0, 1) := by decide +kernel
theorem dX12_state_118 : decode cX12_state 118 = .ok (.ireturn, 1) := by decide +kernel
theorem dX12_state_119 : decode cX12_state 119 = .ok (.aload_n 0, 1) := by decide +kernel
theorem dX12_state_120 : decode cX12_state 120 = .ok (.getfield 49, 3) := by decide +kernel
theorem dX12_state_123 : decode cX12_state 123 = .ok (.getfield 193, 3) := by decide +kernel
theorem dX12_state_126 : decode cX12_state 126 = .ok (.iload_n 1, 1) := by decide +kernel
theorem dX12_state_127 : decode cX12_state 127 = .ok (.baload, 1) := by decide +kernel
theorem dX12_state_128 : decode cX12_state 128 = .ok (.ifCond .eq 7, 3) := by decide +kernel
theorem dX12_state_131 : decode cX12_state 131 = .ok (.iconst 1, 1) := by decide +kernel
theorem dX12_state_132 : decode cX12_state 132 = .ok (.goto 4, 3) := by decide +kernel
theorem dX12_state_135 : decode cX12_state 135 = .ok (.iconst 0, 1) := by decide +kernel
theorem dX12_state_136 : decode cX12_state 136 = .ok (.ireturn, 1) := by decide +kernel
theorem dX12_state_137 : decode cX12_state 137 = .ok (.aload_n 0, 1) := by decide +kernel
theorem dX12_state_138 : decode cX12_state 138 = .ok (.getfield 49, 3) := by decide +kernel
theorem dX12_state_141 : decode cX12_state 141 = .ok (.getfield 196, 3) := by decide +kernel
theorem dX12_state_144 : decode cX12_state 144 = .ok (.iload_n 1, 1) := by decide +kernel
theorem dX12_state_145 : decode cX12_state 145 = .ok (.iaload, 1) := by decide +kernel
theorem dX12_state_146 : decode cX12_state 146 = .ok (.ireturn, 1) := by decide +kernel
def w_Ch_state_0 (C : zC) (n0 : Nat) (Q : Int32 → zS → Prop) (X : zXp)  (a0 : Nat) (a1 : Int32) (a2 : Int32) (κ : zS) : Prop :=
  ∀ _ : zT κ (zR κ chAtlas a0) = 3,
  zRun C 0 mAt_holds [.ref (zR κ chAtlas a0), .int a1] κ (oI (fun r2 κ1 =>
    ∀ _ : zW C n0 κ1,
    ∀ _ : zM (zn κ) κ κ1,
    (r2 = (0 : Int32) →
      ∀ κ4, κ4 = ut κ1 → X "java/lang/IndexOutOfBoundsException" κ4) ∧
    (¬ r2 = (0 : Int32) →
      (a2 < (0 : Int32) →
        ∀ κ5, κ5 = ut κ1 → X "java/lang/IndexOutOfBoundsException" κ5) ∧
      (¬ a2 < (0 : Int32) →
        (a2 ≤ (5 : Int32) →
          ((a2).toInt < 0 ∨ 4 < (a2).toInt →
            inb a1 (zN κ1 (zR κ1 atTotals (zR κ1 chAtlas a0))) ∧
            Q (zA κ1 (zR κ1 atTotals (zR κ1 chAtlas a0)) (a1).toNatClampNeg) κ1) ∧
          ((a2).toInt = 0 →
            ∀ _ : zT κ1 (zR κ1 chAtlas a0) = 3,
            zRun C 1 mAt_callsOf [.ref (zR κ1 chAtlas a0), .int a1] κ1 (oI (fun r9 κ8 =>
              ∀ _ : zW C n0 κ8,
              ∀ _ : zM (zn κ1) κ1 κ8,
              ∀ _ : zT κ8 (zR κ1 chAtlas a0) = 3,
              zRun C 2 mAt_statementOf [.ref (zR κ1 chAtlas a0), .int a1, .int (r9 - (1 : Int32))] κ8 (oI (fun r12 κ11 =>
                ∀ _ : zW C n0 κ11,
                ∀ _ : zM (zn κ8) κ8 κ11,
                Q r12 κ11) noX)) noX)) ∧
          ((a2).toInt = 1 →
            ∀ _ : zT κ1 (zR κ1 chAtlas a0) = 3,
            zRun C 1 mAt_callsOf [.ref (zR κ1 chAtlas a0), .int a1] κ1 (oI (fun r17 κ16 =>
              ∀ _ : zW C n0 κ16,
              ∀ _ : zM (zn κ1) κ1 κ16,
              Q r17 κ16) noX)) ∧
          ((a2).toInt = 2 →
            ∀ _ : zT κ1 (zR κ1 chAtlas a0) = 3,
            zRun C 0 mAt_waysOf [.ref (zR κ1 chAtlas a0), .int a1] κ1 (oI (fun r21 κ20 =>
              ∀ _ : zW C n0 κ20,
              ∀ _ : zM (zn κ1) κ1 κ20,
              Q r21 κ20) noX)) ∧
          ((a2).toInt = 3 →
            inb a1 (zN κ1 (zR κ1 atChooses (zR κ1 chAtlas a0))) ∧
            ((zA κ1 (zR κ1 atChooses (zR κ1 chAtlas a0)) (a1).toNatClampNeg) = (0 : Int32) →
              Q (0 : Int32) κ1) ∧
            (¬ (zA κ1 (zR κ1 atChooses (zR κ1 chAtlas a0)) (a1).toNatClampNeg) = (0 : Int32) →
              Q (1 : Int32) κ1)) ∧
          ((a2).toInt = 4 →
            inb a1 (zN κ1 (zR κ1 atHopeless (zR κ1 chAtlas a0))) ∧
            ((zA κ1 (zR κ1 atHopeless (zR κ1 chAtlas a0)) (a1).toNatClampNeg) = (0 : Int32) →
              Q (0 : Int32) κ1) ∧
            (¬ (zA κ1 (zR κ1 atHopeless (zR κ1 chAtlas a0)) (a1).toNatClampNeg) = (0 : Int32) →
              Q (1 : Int32) κ1))) ∧
        (¬ a2 ≤ (5 : Int32) →
          ∀ κ25, κ25 = ut κ1 → X "java/lang/IndexOutOfBoundsException" κ25)))) noX)
theorem t_Ch_state_0 {C : zC} {n0 : Nat} {Q : Int32 → zS → Prop} {X : zXp}   {a0 : Nat} {a1 : Int32} {a2 : Int32} {κ : zS} (W : zW C n0 κ) (Ta0 : zT κ a0 = 15) (F : w_Ch_state_0 C n0 Q X  a0 a1 a2 κ) : zG C n0 8 mCh_state 0 [some (.ref a0), some (.int a1), some (.int a2)] [] κ (oI Q X) := by
  unfold w_Ch_state_0 at F
  refine y_aln dX12_state_0 rfl ?_
  refine gf_X12_49 W dX12_state_1 rfl Ta0 ?_
  refine y_iln dX12_state_4 rfl ?_
  replace F := F (ty_chAtlas W Ta0)
  refine k_X12_173 W dX12_state_5 rfl (Nat.le_of_ble_eq_true rfl) (Nat.le_of_ble_eq_true rfl) (Or.inl (ty_chAtlas W Ta0)) F (fun r2 κ1 Wκ1 Mκ1 F => ?_) (fun _ _ h9 => False.elim h9)
  replace F := F Wκ1 Mκ1
  refine y_i (r2 = (0 : Int32)) dX12_state_8 (t := 20) rfl rfl (fun c9 => ?_) (fun c9 => ?_)
  · replace F := F.1 c9
    exact y_thr Wκ1 (dxat_yes dX12_state_20 dX12_state_23 dX12_state_24 dX12_state_26 dX12_state_29 rfl rfl rfl) (Nat.le_of_ble_eq_true rfl) (Nat.le_of_ble_eq_true rfl) (fun κ9 e9 => Or.inr ⟨_, rfl, F κ9 e9⟩)
  · replace F := F.2 c9
    refine y_iln dX12_state_11 rfl ?_
    refine y_i (a2 < (0 : Int32)) dX12_state_12 (t := 20) rfl rfl (fun c9 => ?_) (fun c9 => ?_)
    · replace F := F.1 c9
      exact y_thr Wκ1 (dxat_yes dX12_state_20 dX12_state_23 dX12_state_24 dX12_state_26 dX12_state_29 rfl rfl rfl) (Nat.le_of_ble_eq_true rfl) (Nat.le_of_ble_eq_true rfl) (fun κ9 e9 => Or.inr ⟨_, rfl, F κ9 e9⟩)
    · replace F := F.2 c9
      refine y_iln dX12_state_15 rfl ?_
      refine y_ic dX12_state_16 zi_5 ?_
      refine y_ii (a2 ≤ (5 : Int32)) dX12_state_17 (t := 30) rfl rfl (fun c9 => ?_) (fun c9 => ?_)
      · replace F := F.1 c9
        refine y_iln dX12_state_30 rfl ?_
        by_cases hsw : (a2).toInt < 0 ∨ 4 < (a2).toInt
        · refine y_swd (t := 137) dX12_state_31 hsw rfl ?_
          replace F := F.1 hsw
          refine y_aln dX12_state_137 rfl ?_
          have h6 := (ztm W Mκ1 Ta0)
          refine gf_X12_49 Wκ1 dX12_state_138 rfl h6 ?_
          refine gf_X12_196 Wκ1 dX12_state_141 rfl (ty_chAtlas Wκ1 h6) ?_
          refine y_iln dX12_state_144 rfl ?_
          refine y_ald dX12_state_145 (ty_atTotals Wκ1 (ty_chAtlas Wκ1 h6)) F.1 ?_
          replace F := F.2
          exact y_ri Wκ1 dX12_state_146 rfl in_nar F
        replace F := F.2
        by_cases hs0 : (a2).toInt = 0
        · refine y_p (pc' := 64) dX12_state_31 rfl (fun lo => sw_at (k := 0) hs0 (eq_true (by decide)) rfl rfl) ?_
          replace F := F.1 hs0
          refine y_aln dX12_state_64 rfl ?_
          have h7 := (ztm W Mκ1 Ta0)
          refine gf_X12_49 Wκ1 dX12_state_65 rfl h7 ?_
          refine y_iln dX12_state_68 rfl ?_
          refine y_aln dX12_state_69 rfl ?_
          refine gf_X12_49 Wκ1 dX12_state_70 rfl h7 ?_
          refine y_iln dX12_state_73 rfl ?_
          replace F := F (ty_chAtlas Wκ1 h7)
          refine k_X12_179 Wκ1 dX12_state_74 rfl (Nat.le_of_ble_eq_true rfl) (Nat.le_of_ble_eq_true rfl) (Or.inl (ty_chAtlas Wκ1 h7)) F (fun r9 κ8 Wκ8 Mκ8 F => ?_) (fun _ _ h9 => False.elim h9)
          replace F := F Wκ8 Mκ8
          refine y_ic dX12_state_77 zi_1 ?_
          refine y_isub dX12_state_78 ?_
          have h13 := (ztm Wκ1 Mκ8 (ty_chAtlas Wκ1 h7))
          replace F := F h13
          refine k_X12_182 Wκ8 dX12_state_79 rfl (Nat.le_of_ble_eq_true rfl) (Nat.le_of_ble_eq_true rfl) (Or.inl h13) F (fun r12 κ11 Wκ11 Mκ11 F => ?_) (fun _ _ h9 => False.elim h9)
          replace F := F Wκ11 Mκ11
          exact y_ri Wκ11 dX12_state_82 rfl in_nar F
        replace F := F.2
        by_cases hs1 : (a2).toInt = 1
        · refine y_p (pc' := 83) dX12_state_31 rfl (fun lo => sw_at (k := 0) hs1 (eq_true (by decide)) rfl rfl) ?_
          replace F := F.1 hs1
          refine y_aln dX12_state_83 rfl ?_
          have h15 := (ztm W Mκ1 Ta0)
          refine gf_X12_49 Wκ1 dX12_state_84 rfl h15 ?_
          refine y_iln dX12_state_87 rfl ?_
          replace F := F (ty_chAtlas Wκ1 h15)
          refine k_X12_179 Wκ1 dX12_state_88 rfl (Nat.le_of_ble_eq_true rfl) (Nat.le_of_ble_eq_true rfl) (Or.inl (ty_chAtlas Wκ1 h15)) F (fun r17 κ16 Wκ16 Mκ16 F => ?_) (fun _ _ h9 => False.elim h9)
          replace F := F Wκ16 Mκ16
          exact y_ri Wκ16 dX12_state_91 rfl in_nar F
        replace F := F.2
        by_cases hs2 : (a2).toInt = 2
        · refine y_p (pc' := 92) dX12_state_31 rfl (fun lo => sw_at (k := 0) hs2 (eq_true (by decide)) rfl rfl) ?_
          replace F := F.1 hs2
          refine y_aln dX12_state_92 rfl ?_
          have h19 := (ztm W Mκ1 Ta0)
          refine gf_X12_49 Wκ1 dX12_state_93 rfl h19 ?_
          refine y_iln dX12_state_96 rfl ?_
          replace F := F (ty_chAtlas Wκ1 h19)
          refine k_X12_186 Wκ1 dX12_state_97 rfl (Nat.le_of_ble_eq_true rfl) (Nat.le_of_ble_eq_true rfl) (Or.inl (ty_chAtlas Wκ1 h19)) F (fun r21 κ20 Wκ20 Mκ20 F => ?_) (fun _ _ h9 => False.elim h9)
          replace F := F Wκ20 Mκ20
          exact y_ri Wκ20 dX12_state_100 rfl in_nar F
        replace F := F.2
        by_cases hs3 : (a2).toInt = 3
        · refine y_p (pc' := 101) dX12_state_31 rfl (fun lo => sw_at (k := 0) hs3 (eq_true (by decide)) rfl rfl) ?_
          replace F := F.1 hs3
          refine y_aln dX12_state_101 rfl ?_
          have h23 := (ztm W Mκ1 Ta0)
          refine gf_X12_49 Wκ1 dX12_state_102 rfl h23 ?_
          refine gf_X12_189 Wκ1 dX12_state_105 rfl (ty_chAtlas Wκ1 h23) ?_
          refine y_iln dX12_state_108 rfl ?_
          refine y_zld dX12_state_109 (ty_atChooses Wκ1 (ty_chAtlas Wκ1 h23)) F.1 ?_
          replace F := F.2
          refine y_i ((zA κ1 (zR κ1 atChooses (zR κ1 chAtlas a0)) (a1).toNatClampNeg) = (0 : Int32)) dX12_state_110 (t := 117) rfl rfl (fun c9 => ?_) (fun c9 => ?_)
          · replace F := F.1 c9
            refine y_ic dX12_state_117 zi_0 ?_
            exact y_ri Wκ1 dX12_state_118 rfl in_nar F
          · replace F := F.2 c9
            refine y_ic dX12_state_113 zi_1 ?_
            refine y_goto dX12_state_114 (t := 118) rfl ?_
            exact y_ri Wκ1 dX12_state_118 rfl in_nar F
        replace F := F.2
        have hs4 : (a2).toInt = 4 := by omega
        refine y_p (pc' := 119) dX12_state_31 rfl (fun lo => sw_at (k := 0) hs4 (eq_true (by decide)) rfl rfl) ?_
        replace F := F hs4
        refine y_aln dX12_state_119 rfl ?_
        have h24 := (ztm W Mκ1 Ta0)
        refine gf_X12_49 Wκ1 dX12_state_120 rfl h24 ?_
        refine gf_X12_193 Wκ1 dX12_state_123 rfl (ty_chAtlas Wκ1 h24) ?_
        refine y_iln dX12_state_126 rfl ?_
        refine y_zld dX12_state_127 (ty_atHopeless Wκ1 (ty_chAtlas Wκ1 h24)) F.1 ?_
        replace F := F.2
        refine y_i ((zA κ1 (zR κ1 atHopeless (zR κ1 chAtlas a0)) (a1).toNatClampNeg) = (0 : Int32)) dX12_state_128 (t := 135) rfl rfl (fun c9 => ?_) (fun c9 => ?_)
        · replace F := F.1 c9
          refine y_ic dX12_state_135 zi_0 ?_
          exact y_ri Wκ1 dX12_state_136 rfl in_nar F
        · replace F := F.2 c9
          refine y_ic dX12_state_131 zi_1 ?_
          refine y_goto dX12_state_132 (t := 136) rfl ?_
          exact y_ri Wκ1 dX12_state_136 rfl in_nar F
      · replace F := F.2 c9
        exact y_thr Wκ1 (dxat_yes dX12_state_20 dX12_state_23 dX12_state_24 dX12_state_26 dX12_state_29 rfl rfl rfl) (Nat.le_of_ble_eq_true rfl) (Nat.le_of_ble_eq_true rfl) (fun κ9 e9 => Or.inr ⟨_, rfl, F κ9 e9⟩)

theorem Ch_state_run {C : zC} {n0 : Nat} {Q : Int32 → zS → Prop} {X : zXp} {a0 : Nat} {a1 : Int32} {a2 : Int32} {κ : zS} (W : zW C n0 κ) (Ta0 : zT κ a0 = 15) (F : w_Ch_state_0 C (zn κ) Q X a0 a1 a2 κ) : zRun C 8 mCh_state [.ref a0, .int a1, .int a2] κ (oI Q X) := z_run (m_ent _ 0) (t_Ch_state_0 (W.lo (Nat.le_trans W.1.2.1 W.1.2.2) (Nat.le_refl _)) Ta0 F)

theorem dX12_value_0 : decode cX12_value 0 = .ok (.aload_n 0, 1) := by decide +kernel
theorem dX12_value_1 : decode cX12_value 1 = .ok (.getfield 49, 3) := by decide +kernel
theorem dX12_value_4 : decode cX12_value 4 = .ok (.iload_n 1, 1) := by decide +kernel
theorem dX12_value_5 : decode cX12_value 5 = .ok (.invokevirtual 173, 3) := by decide +kernel
theorem dX12_value_8 : decode cX12_value 8 = .ok (.ifCond .eq 16, 3) := by decide +kernel
theorem dX12_value_11 : decode cX12_value 11 = .ok (.aload_n 0, 1) := by decide +kernel
theorem dX12_value_12 : decode cX12_value 12 = .ok (.getfield 49, 3) := by decide +kernel
theorem dX12_value_15 : decode cX12_value 15 = .ok (.iload_n 1, 1) := by decide +kernel
theorem dX12_value_16 : decode cX12_value 16 = .ok (.iload_n 2, 1) := by decide +kernel
theorem dX12_value_17 : decode cX12_value 17 = .ok (.iload_n 3, 1) := by decide +kernel
theorem dX12_value_18 : decode cX12_value 18 = .ok (.invokevirtual 199, 3) := by decide +kernel
theorem dX12_value_21 : decode cX12_value 21 = .ok (.ifCond .ne 13, 3) := by decide +kernel
theorem dX12_value_24 : decode cX12_value 24 = .ok (.new 154, 3) := by decide +kernel
theorem dX12_value_27 : decode cX12_value 27 = .ok (.dup, 1) := by decide +kernel
theorem dX12_value_28 : decode cX12_value 28 = .ok (.ldc 203, 2) := by decide +kernel
theorem dX12_value_30 : decode cX12_value 30 = .ok (.invokespecial 158, 3) := by decide +kernel
theorem dX12_value_33 : decode cX12_value 33 = .ok (.athrow, 1) := by decide +kernel
theorem dX12_value_34 : decode cX12_value 34 = .ok (.aload_n 0, 1) := by decide +kernel
theorem dX12_value_35 : decode cX12_value 35 = .ok (.getfield 49, 3) := by decide +kernel
theorem dX12_value_38 : decode cX12_value 38 = .ok (.iload_n 1, 1) := by decide +kernel
theorem dX12_value_39 : decode cX12_value 39 = .ok (.iload_n 2, 1) := by decide +kernel
theorem dX12_value_40 : decode cX12_value 40 = .ok (.iload_n 3, 1) := by decide +kernel
theorem dX12_value_41 : decode cX12_value 41 = .ok (.invokevirtual 205, 3) := by decide +kernel
theorem dX12_value_44 : decode cX12_value 44 = .ok (.ireturn, 1) := by decide +kernel
def w_Ch_value_0 (C : zC) (n0 : Nat) (Q : Int32 → zS → Prop) (X : zXp)  (a0 : Nat) (a1 : Int32) (a2 : Int32) (a3 : Int32) (κ : zS) : Prop :=
  ∀ _ : zT κ (zR κ chAtlas a0) = 3,
  zRun C 0 mAt_holds [.ref (zR κ chAtlas a0), .int a1] κ (oI (fun r2 κ1 =>
    ∀ _ : zW C n0 κ1,
    ∀ _ : zM (zn κ) κ κ1,
    (r2 = (0 : Int32) →
      ∀ κ4, κ4 = ut κ1 → X "java/lang/IndexOutOfBoundsException" κ4) ∧
    (¬ r2 = (0 : Int32) →
      ∀ _ : zT κ1 (zR κ1 chAtlas a0) = 3,
      zRun C 3 mAt_hasVariable [.ref (zR κ1 chAtlas a0), .int a1, .int a2, .int a3] κ1 (oI (fun r7 κ6 =>
        ∀ _ : zW C n0 κ6,
        ∀ _ : zM (zn κ1) κ1 κ6,
        (¬ r7 = (0 : Int32) →
          ∀ _ : zT κ6 (zR κ6 chAtlas a0) = 3,
          zRun C 2 mAt_variableOf [.ref (zR κ6 chAtlas a0), .int a1, .int a2, .int a3] κ6 (oI (fun r11 κ10 =>
            ∀ _ : zW C n0 κ10,
            ∀ _ : zM (zn κ6) κ6 κ10,
            Q r11 κ10) noX)) ∧
        (r7 = (0 : Int32) →
          ∀ κ13, κ13 = ut κ6 → X "java/lang/IndexOutOfBoundsException" κ13)) noX))) noX)
theorem t_Ch_value_0 {C : zC} {n0 : Nat} {Q : Int32 → zS → Prop} {X : zXp}   {a0 : Nat} {a1 : Int32} {a2 : Int32} {a3 : Int32} {κ : zS} (W : zW C n0 κ) (Ta0 : zT κ a0 = 15) (F : w_Ch_value_0 C n0 Q X  a0 a1 a2 a3 κ) : zG C n0 8 mCh_value 0 [some (.ref a0), some (.int a1), some (.int a2), some (.int a3)] [] κ (oI Q X) := by
  unfold w_Ch_value_0 at F
  refine y_aln dX12_value_0 rfl ?_
  refine gf_X12_49 W dX12_value_1 rfl Ta0 ?_
  refine y_iln dX12_value_4 rfl ?_
  replace F := F (ty_chAtlas W Ta0)
  refine k_X12_173 W dX12_value_5 rfl (Nat.le_of_ble_eq_true rfl) (Nat.le_of_ble_eq_true rfl) (Or.inl (ty_chAtlas W Ta0)) F (fun r2 κ1 Wκ1 Mκ1 F => ?_) (fun _ _ h9 => False.elim h9)
  replace F := F Wκ1 Mκ1
  refine y_i (r2 = (0 : Int32)) dX12_value_8 (t := 24) rfl rfl (fun c9 => ?_) (fun c9 => ?_)
  · replace F := F.1 c9
    exact y_thr Wκ1 (dxat_yes dX12_value_24 dX12_value_27 dX12_value_28 dX12_value_30 dX12_value_33 rfl rfl rfl) (Nat.le_of_ble_eq_true rfl) (Nat.le_of_ble_eq_true rfl) (fun κ9 e9 => Or.inr ⟨_, rfl, F κ9 e9⟩)
  · replace F := F.2 c9
    refine y_aln dX12_value_11 rfl ?_
    have h5 := (ztm W Mκ1 Ta0)
    refine gf_X12_49 Wκ1 dX12_value_12 rfl h5 ?_
    refine y_iln dX12_value_15 rfl ?_
    refine y_iln dX12_value_16 rfl ?_
    refine y_iln dX12_value_17 rfl ?_
    replace F := F (ty_chAtlas Wκ1 h5)
    refine k_X12_199 Wκ1 dX12_value_18 rfl (Nat.le_of_ble_eq_true rfl) (Nat.le_of_ble_eq_true rfl) (Or.inl (ty_chAtlas Wκ1 h5)) F (fun r7 κ6 Wκ6 Mκ6 F => ?_) (fun _ _ h9 => False.elim h9)
    replace F := F Wκ6 Mκ6
    refine y_in (r7 = (0 : Int32)) dX12_value_21 (t := 34) rfl rfl (fun c9 => ?_) (fun c9 => ?_)
    · replace F := F.1 c9
      refine y_aln dX12_value_34 rfl ?_
      have h9 := (ztm Wκ1 Mκ6 h5)
      refine gf_X12_49 Wκ6 dX12_value_35 rfl h9 ?_
      refine y_iln dX12_value_38 rfl ?_
      refine y_iln dX12_value_39 rfl ?_
      refine y_iln dX12_value_40 rfl ?_
      replace F := F (ty_chAtlas Wκ6 h9)
      refine k_X12_205 Wκ6 dX12_value_41 rfl (Nat.le_of_ble_eq_true rfl) (Nat.le_of_ble_eq_true rfl) (Or.inl (ty_chAtlas Wκ6 h9)) F (fun r11 κ10 Wκ10 Mκ10 F => ?_) (fun _ _ h9 => False.elim h9)
      replace F := F Wκ10 Mκ10
      exact y_ri Wκ10 dX12_value_44 rfl in_nar F
    · replace F := F.2 c9
      exact y_thr Wκ6 (dxat_yes dX12_value_24 dX12_value_27 dX12_value_28 dX12_value_30 dX12_value_33 rfl rfl rfl) (Nat.le_of_ble_eq_true rfl) (Nat.le_of_ble_eq_true rfl) (fun κ9 e9 => Or.inr ⟨_, rfl, F κ9 e9⟩)

theorem Ch_value_run {C : zC} {n0 : Nat} {Q : Int32 → zS → Prop} {X : zXp} {a0 : Nat} {a1 : Int32} {a2 : Int32} {a3 : Int32} {κ : zS} (W : zW C n0 κ) (Ta0 : zT κ a0 = 15) (F : w_Ch_value_0 C (zn κ) Q X a0 a1 a2 a3 κ) : zRun C 8 mCh_value [.ref a0, .int a1, .int a2, .int a3] κ (oI Q X) := z_run (m_ent _ 0) (t_Ch_value_0 (W.lo (Nat.le_trans W.1.2.1 W.1.2.2) (Nat.le_refl _)) Ta0 F)

theorem dX12_next_0 : decode cX12_next 0 = .ok (.aload_n 0, 1) := by decide +kernel
theorem dX12_next_1 : decode cX12_next 1 = .ok (.getfield 49, 3) := by decide +kernel
theorem dX12_next_4 : decode cX12_next 4 = .ok (.iload_n 1, 1) := by decide +kernel
theorem dX12_next_5 : decode cX12_next 5 = .ok (.invokevirtual 173, 3) := by decide +kernel
theorem dX12_next_8 : decode cX12_next 8 = .ok (.ifCond .eq 28, 3) := by decide +kernel
theorem dX12_next_11 : decode cX12_next 11 = .ok (.iload_n 2, 1) := by decide +kernel
theorem dX12_next_12 : decode cX12_next 12 = .ok (.ifCond .lt 24, 3) := by decide +kernel
theorem dX12_next_15 : decode cX12_next 15 = .ok (.iload_n 2, 1) := by decide +kernel
theorem dX12_next_16 : decode cX12_next 16 = .ok (.aload_n 0, 1) := by decide +kernel
theorem dX12_next_17 : decode cX12_next 17 = .ok (.getfield 49, 3) := by decide +kernel
theorem dX12_next_20 : decode cX12_next 20 = .ok (.iload_n 1, 1) := by decide +kernel
theorem dX12_next_21 : decode cX12_next 21 = .ok (.invokevirtual 186, 3) := by decide +kernel
theorem dX12_next_24 : decode cX12_next 24 = .ok (.if_icmp .ge 12, 3) := by decide +kernel
theorem dX12_next_27 : decode cX12_next 27 = .ok (.iload_n 3, 1) := by decide +kernel
theorem dX12_next_28 : decode cX12_next 28 = .ok (.ifCond .lt 8, 3) := by decide +kernel
theorem dX12_next_31 : decode cX12_next 31 = .ok (.iload_n 3, 1) := by decide +kernel
theorem dX12_next_32 : decode cX12_next 32 = .ok (.iconst 2, 1) := by decide +kernel
theorem dX12_next_33 : decode cX12_next 33 = .ok (.if_icmp .le 13, 3) := by decide +kernel
theorem dX12_next_36 : decode cX12_next 36 = .ok (.new 154, 3) := by decide +kernel
theorem dX12_next_39 : decode cX12_next 39 = .ok (.dup, 1) := by decide +kernel
theorem dX12_next_40 : decode cX12_next 40 = .ok (.ldc 209, 2) := by decide +kernel
theorem dX12_next_42 : decode cX12_next 42 = .ok (.invokespecial 158, 3) := by decide +kernel
theorem dX12_next_45 : decode cX12_next 45 = .ok (.athrow, 1) := by decide +kernel
theorem dX12_next_46 : decode cX12_next 46 = .ok (.aload_n 0, 1) := by decide +kernel
theorem dX12_next_47 : decode cX12_next 47 = .ok (.getfield 49, 3) := by decide +kernel
theorem dX12_next_50 : decode cX12_next 50 = .ok (.getfield 211, 3) := by decide +kernel
theorem dX12_next_53 : decode cX12_next 53 = .ok (.iload_n 1, 1) := by decide +kernel
theorem dX12_next_54 : decode cX12_next 54 = .ok (.iaload, 1) := by decide +kernel
theorem dX12_next_55 : decode cX12_next 55 = .ok (.iload_n 2, 1) := by decide +kernel
theorem dX12_next_56 : decode cX12_next 56 = .ok (.iadd, 1) := by decide +kernel
theorem dX12_next_57 : decode cX12_next 57 = .ok (.istore 4, 2) := by decide +kernel
theorem dX12_next_59 : decode cX12_next 59 = .ok (.iload_n 3, 1) := by decide +kernel
theorem dX12_next_60 : decode cX12_next 60 = .ok (.ifCond .ne 14, 3) := by decide +kernel
theorem dX12_next_63 : decode cX12_next 63 = .ok (.aload_n 0, 1) := by decide +kernel
theorem dX12_next_64 : decode cX12_next 64 = .ok (.getfield 49, 3) := by decide +kernel
theorem dX12_next_67 : decode cX12_next 67 = .ok (.getfield 214, 3) := by decide +kernel
theorem dX12_next_70 : decode cX12_next 70 = .ok (.iload 4, 2) := by decide +kernel
theorem dX12_next_72 : decode cX12_next 72 = .ok (.iaload, 1) := by decide +kernel
theorem dX12_next_73 : decode cX12_next 73 = .ok (.ireturn, 1) := by decide +kernel
theorem dX12_next_74 : decode cX12_next 74 = .ok (.iload_n 3, 1) := by decide +kernel
theorem dX12_next_75 : decode cX12_next 75 = .ok (.iconst 1, 1) := by decide +kernel
theorem dX12_next_76 : decode cX12_next 76 = .ok (.if_icmp .ne 16, 3) := by decide +kernel
theorem dX12_next_79 : decode cX12_next 79 = .ok (.aload_n 0, 1) := by decide +kernel
theorem dX12_next_80 : decode cX12_next 80 = .ok (.getfield 49, 3) := by decide +kernel
theorem dX12_next_83 : decode cX12_next 83 = .ok (.getfield 217, 3) := by decide +kernel
theorem dX12_next_86 : decode cX12_next 86 = .ok (.iload 4, 2) := by decide +kernel
theorem dX12_next_88 : decode cX12_next 88 = .ok (.iaload, 1) := by decide +kernel
theorem dX12_next_89 : decode cX12_next 89 = .ok (.goto 13, 3) := by decide +kernel
theorem dX12_next_92 : decode cX12_next 92 = .ok (.aload_n 0, 1) := by decide +kernel
theorem dX12_next_93 : decode cX12_next 93 = .ok (.getfield 49, 3) := by decide +kernel
theorem dX12_next_96 : decode cX12_next 96 = .ok (.getfield 220, 3) := by decide +kernel
theorem dX12_next_99 : decode cX12_next 99 = .ok (.iload 4, 2) := by decide +kernel
theorem dX12_next_101 : decode cX12_next 101 = .ok (.iaload, 1) := by decide +kernel
theorem dX12_next_102 : decode cX12_next 102 = .ok (.ireturn, 1) := by decide +kernel
def w_Ch_next_0 (C : zC) (n0 : Nat) (Q : Int32 → zS → Prop) (X : zXp)  (a0 : Nat) (a1 : Int32) (a2 : Int32) (a3 : Int32) (κ : zS) : Prop :=
  ∀ _ : zT κ (zR κ chAtlas a0) = 3,
  zRun C 0 mAt_holds [.ref (zR κ chAtlas a0), .int a1] κ (oI (fun r2 κ1 =>
    ∀ _ : zW C n0 κ1,
    ∀ _ : zM (zn κ) κ κ1,
    (r2 = (0 : Int32) →
      ∀ κ4, κ4 = ut κ1 → X "java/lang/IndexOutOfBoundsException" κ4) ∧
    (¬ r2 = (0 : Int32) →
      (a2 < (0 : Int32) →
        ∀ κ5, κ5 = ut κ1 → X "java/lang/IndexOutOfBoundsException" κ5) ∧
      (¬ a2 < (0 : Int32) →
        ∀ _ : zT κ1 (zR κ1 chAtlas a0) = 3,
        zRun C 0 mAt_waysOf [.ref (zR κ1 chAtlas a0), .int a1] κ1 (oI (fun r8 κ7 =>
          ∀ _ : zW C n0 κ7,
          ∀ _ : zM (zn κ1) κ1 κ7,
          (r8 ≤ a2 →
            ∀ κ10, κ10 = ut κ7 → X "java/lang/IndexOutOfBoundsException" κ10) ∧
          (¬ r8 ≤ a2 →
            (a3 < (0 : Int32) →
              ∀ κ11, κ11 = ut κ7 → X "java/lang/IndexOutOfBoundsException" κ11) ∧
            (¬ a3 < (0 : Int32) →
              (a3 ≤ (2 : Int32) →
                inb a1 (zN κ7 (zR κ7 atFirsts (zR κ7 chAtlas a0))) ∧
                ∀ v4_13 : Int32, v4_13 = ((zA κ7 (zR κ7 atFirsts (zR κ7 chAtlas a0)) (a1).toNatClampNeg) + a2) →
                (¬ a3 = (0 : Int32) →
                  (¬ a3 = (1 : Int32) →
                    inb v4_13 (zN κ7 (zR κ7 atWeights (zR κ7 chAtlas a0))) ∧
                    Q (zA κ7 (zR κ7 atWeights (zR κ7 chAtlas a0)) (v4_13).toNatClampNeg) κ7) ∧
                  (a3 = (1 : Int32) →
                    inb v4_13 (zN κ7 (zR κ7 atNumbers (zR κ7 chAtlas a0))) ∧
                    Q (zA κ7 (zR κ7 atNumbers (zR κ7 chAtlas a0)) (v4_13).toNatClampNeg) κ7)) ∧
                (a3 = (0 : Int32) →
                  inb v4_13 (zN κ7 (zR κ7 atSorts (zR κ7 chAtlas a0))) ∧
                  Q (zA κ7 (zR κ7 atSorts (zR κ7 chAtlas a0)) (v4_13).toNatClampNeg) κ7)) ∧
              (¬ a3 ≤ (2 : Int32) →
                ∀ κ14, κ14 = ut κ7 → X "java/lang/IndexOutOfBoundsException" κ14)))) noX)))) noX)
theorem t_Ch_next_0 {C : zC} {n0 : Nat} {Q : Int32 → zS → Prop} {X : zXp}   {a0 : Nat} {a1 : Int32} {a2 : Int32} {a3 : Int32} {κ : zS} (W : zW C n0 κ) (Ta0 : zT κ a0 = 15) (F : w_Ch_next_0 C n0 Q X  a0 a1 a2 a3 κ) : zG C n0 8 mCh_next 0 [some (.ref a0), some (.int a1), some (.int a2), some (.int a3), none] [] κ (oI Q X) := by
  unfold w_Ch_next_0 at F
  refine y_aln dX12_next_0 rfl ?_
  refine gf_X12_49 W dX12_next_1 rfl Ta0 ?_
  refine y_iln dX12_next_4 rfl ?_
  replace F := F (ty_chAtlas W Ta0)
  refine k_X12_173 W dX12_next_5 rfl (Nat.le_of_ble_eq_true rfl) (Nat.le_of_ble_eq_true rfl) (Or.inl (ty_chAtlas W Ta0)) F (fun r2 κ1 Wκ1 Mκ1 F => ?_) (fun _ _ h9 => False.elim h9)
  replace F := F Wκ1 Mκ1
  refine y_i (r2 = (0 : Int32)) dX12_next_8 (t := 36) rfl rfl (fun c9 => ?_) (fun c9 => ?_)
  · replace F := F.1 c9
    exact y_thr Wκ1 (dxat_yes dX12_next_36 dX12_next_39 dX12_next_40 dX12_next_42 dX12_next_45 rfl rfl rfl) (Nat.le_of_ble_eq_true rfl) (Nat.le_of_ble_eq_true rfl) (fun κ9 e9 => Or.inr ⟨_, rfl, F κ9 e9⟩)
  · replace F := F.2 c9
    refine y_iln dX12_next_11 rfl ?_
    refine y_i (a2 < (0 : Int32)) dX12_next_12 (t := 36) rfl rfl (fun c9 => ?_) (fun c9 => ?_)
    · replace F := F.1 c9
      exact y_thr Wκ1 (dxat_yes dX12_next_36 dX12_next_39 dX12_next_40 dX12_next_42 dX12_next_45 rfl rfl rfl) (Nat.le_of_ble_eq_true rfl) (Nat.le_of_ble_eq_true rfl) (fun κ9 e9 => Or.inr ⟨_, rfl, F κ9 e9⟩)
    · replace F := F.2 c9
      refine y_iln dX12_next_15 rfl ?_
      refine y_aln dX12_next_16 rfl ?_
      have h6 := (ztm W Mκ1 Ta0)
      refine gf_X12_49 Wκ1 dX12_next_17 rfl h6 ?_
      refine y_iln dX12_next_20 rfl ?_
      replace F := F (ty_chAtlas Wκ1 h6)
      refine k_X12_186 Wκ1 dX12_next_21 rfl (Nat.le_of_ble_eq_true rfl) (Nat.le_of_ble_eq_true rfl) (Or.inl (ty_chAtlas Wκ1 h6)) F (fun r8 κ7 Wκ7 Mκ7 F => ?_) (fun _ _ h9 => False.elim h9)
      replace F := F Wκ7 Mκ7
      refine y_ii (r8 ≤ a2) dX12_next_24 (t := 36) rfl rfl (fun c9 => ?_) (fun c9 => ?_)
      · replace F := F.1 c9
        exact y_thr Wκ7 (dxat_yes dX12_next_36 dX12_next_39 dX12_next_40 dX12_next_42 dX12_next_45 rfl rfl rfl) (Nat.le_of_ble_eq_true rfl) (Nat.le_of_ble_eq_true rfl) (fun κ9 e9 => Or.inr ⟨_, rfl, F κ9 e9⟩)
      · replace F := F.2 c9
        refine y_iln dX12_next_27 rfl ?_
        refine y_i (a3 < (0 : Int32)) dX12_next_28 (t := 36) rfl rfl (fun c9 => ?_) (fun c9 => ?_)
        · replace F := F.1 c9
          exact y_thr Wκ7 (dxat_yes dX12_next_36 dX12_next_39 dX12_next_40 dX12_next_42 dX12_next_45 rfl rfl rfl) (Nat.le_of_ble_eq_true rfl) (Nat.le_of_ble_eq_true rfl) (fun κ9 e9 => Or.inr ⟨_, rfl, F κ9 e9⟩)
        · replace F := F.2 c9
          refine y_iln dX12_next_31 rfl ?_
          refine y_ic dX12_next_32 zi_2 ?_
          refine y_ii (a3 ≤ (2 : Int32)) dX12_next_33 (t := 46) rfl rfl (fun c9 => ?_) (fun c9 => ?_)
          · replace F := F.1 c9
            refine y_aln dX12_next_46 rfl ?_
            have h12 := (ztm Wκ1 Mκ7 h6)
            refine gf_X12_49 Wκ7 dX12_next_47 rfl h12 ?_
            refine gf_X12_211 Wκ7 dX12_next_50 rfl (ty_chAtlas Wκ7 h12) ?_
            refine y_iln dX12_next_53 rfl ?_
            refine y_ald dX12_next_54 (ty_atFirsts Wκ7 (ty_chAtlas Wκ7 h12)) F.1 ?_
            replace F := F.2
            refine y_iln dX12_next_55 rfl ?_
            refine y_iadd dX12_next_56 ?_
            refine y_isb dX12_next_57 (Nat.le_of_ble_eq_true rfl) (fun v4_13 ev4_13 => ?_)
            replace F := F v4_13 ev4_13
            show zG _ _ _ _ _ [some (.ref a0), some (.int a1), some (.int a2), some (.int a3), some (.int v4_13)] _ _ _
            refine y_iln dX12_next_59 rfl ?_
            refine y_in (a3 = (0 : Int32)) dX12_next_60 (t := 74) rfl rfl (fun c9 => ?_) (fun c9 => ?_)
            · replace F := F.1 c9
              refine y_iln dX12_next_74 rfl ?_
              refine y_ic dX12_next_75 zi_1 ?_
              refine y_iin (a3 = (1 : Int32)) dX12_next_76 (t := 92) rfl rfl (fun c9 => ?_) (fun c9 => ?_)
              · replace F := F.1 c9
                refine y_aln dX12_next_92 rfl ?_
                refine gf_X12_49 Wκ7 dX12_next_93 rfl h12 ?_
                refine gf_X12_220 Wκ7 dX12_next_96 rfl (ty_chAtlas Wκ7 h12) ?_
                refine y_il dX12_next_99 rfl ?_
                refine y_ald dX12_next_101 (ty_atWeights Wκ7 (ty_chAtlas Wκ7 h12)) F.1 ?_
                replace F := F.2
                exact y_ri Wκ7 dX12_next_102 rfl in_nar F
              · replace F := F.2 c9
                refine y_aln dX12_next_79 rfl ?_
                refine gf_X12_49 Wκ7 dX12_next_80 rfl h12 ?_
                refine gf_X12_217 Wκ7 dX12_next_83 rfl (ty_chAtlas Wκ7 h12) ?_
                refine y_il dX12_next_86 rfl ?_
                refine y_ald dX12_next_88 (ty_atNumbers Wκ7 (ty_chAtlas Wκ7 h12)) F.1 ?_
                replace F := F.2
                refine y_goto dX12_next_89 (t := 102) rfl ?_
                exact y_ri Wκ7 dX12_next_102 rfl in_nar F
            · replace F := F.2 c9
              refine y_aln dX12_next_63 rfl ?_
              refine gf_X12_49 Wκ7 dX12_next_64 rfl h12 ?_
              refine gf_X12_214 Wκ7 dX12_next_67 rfl (ty_chAtlas Wκ7 h12) ?_
              refine y_il dX12_next_70 rfl ?_
              refine y_ald dX12_next_72 (ty_atSorts Wκ7 (ty_chAtlas Wκ7 h12)) F.1 ?_
              replace F := F.2
              exact y_ri Wκ7 dX12_next_73 rfl in_nar F
          · replace F := F.2 c9
            exact y_thr Wκ7 (dxat_yes dX12_next_36 dX12_next_39 dX12_next_40 dX12_next_42 dX12_next_45 rfl rfl rfl) (Nat.le_of_ble_eq_true rfl) (Nat.le_of_ble_eq_true rfl) (fun κ9 e9 => Or.inr ⟨_, rfl, F κ9 e9⟩)

theorem Ch_next_run {C : zC} {n0 : Nat} {Q : Int32 → zS → Prop} {X : zXp} {a0 : Nat} {a1 : Int32} {a2 : Int32} {a3 : Int32} {κ : zS} (W : zW C n0 κ) (Ta0 : zT κ a0 = 15) (F : w_Ch_next_0 C (zn κ) Q X a0 a1 a2 a3 κ) : zRun C 8 mCh_next [.ref a0, .int a1, .int a2, .int a3] κ (oI Q X) := z_run (m_ent _ 1) (t_Ch_next_0 (W.lo (Nat.le_trans W.1.2.1 W.1.2.2) (Nat.le_refl _)) Ta0 F)

theorem dX12_ending_0 : decode cX12_ending 0 = .ok (.aload_n 0, 1) := by decide +kernel
theorem dX12_ending_1 : decode cX12_ending 1 = .ok (.getfield 49, 3) := by decide +kernel
theorem dX12_ending_4 : decode cX12_ending 4 = .ok (.iload_n 1, 1) := by decide +kernel
theorem dX12_ending_5 : decode cX12_ending 5 = .ok (.invokevirtual 223, 3) := by decide +kernel
theorem dX12_ending_8 : decode cX12_ending 8 = .ok (.ifCond .eq 19, 3) := by decide +kernel
theorem dX12_ending_11 : decode cX12_ending 11 = .ok (.iload_n 2, 1) := by decide +kernel
theorem dX12_ending_12 : decode cX12_ending 12 = .ok (.iconst (-1), 1) := by decide +kernel
theorem dX12_ending_13 : decode cX12_ending 13 = .ok (.if_icmp .lt 14, 3) := by decide +kernel
theorem dX12_ending_16 : decode cX12_ending 16 = .ok (.iload_n 2, 1) := by decide +kernel
theorem dX12_ending_17 : decode cX12_ending 17 = .ok (.aload_n 0, 1) := by decide +kernel
theorem dX12_ending_18 : decode cX12_ending 18 = .ok (.getfield 19, 3) := by decide +kernel
theorem dX12_ending_21 : decode cX12_ending 21 = .ok (.invokevirtual 226, 3) := by decide +kernel
theorem dX12_ending_24 : decode cX12_ending 24 = .ok (.if_icmp .lt 13, 3) := by decide +kernel
theorem dX12_ending_27 : decode cX12_ending 27 = .ok (.new 154, 3) := by decide +kernel
theorem dX12_ending_30 : decode cX12_ending 30 = .ok (.dup, 1) := by decide +kernel
theorem dX12_ending_31 : decode cX12_ending 31 = .ok (.ldc 230, 2) := by decide +kernel
theorem dX12_ending_33 : decode cX12_ending 33 = .ok (.invokespecial 158, 3) := by decide +kernel
theorem dX12_ending_36 : decode cX12_ending 36 = .ok (.athrow, 1) := by decide +kernel
theorem dX12_ending_37 : decode cX12_ending 37 = .ok (.aload_n 0, 1) := by decide +kernel
theorem dX12_ending_38 : decode cX12_ending 38 = .ok (.getfield 49, 3) := by decide +kernel
theorem dX12_ending_41 : decode cX12_ending 41 = .ok (.getfield 232, 3) := by decide +kernel
theorem dX12_ending_44 : decode cX12_ending 44 = .ok (.iload_n 1, 1) := by decide +kernel
theorem dX12_ending_45 : decode cX12_ending 45 = .ok (.iload_n 2, 1) := by decide +kernel
theorem dX12_ending_46 : decode cX12_ending 46 = .ok (.iconst (-1), 1) := by decide +kernel
theorem dX12_ending_47 : decode cX12_ending 47 = .ok (.if_icmp .ne 13, 3) := by decide +kernel
theorem dX12_ending_50 : decode cX12_ending 50 = .ok (.aload_n 0, 1) := by decide +kernel
theorem dX12_ending_51 : decode cX12_ending 51 = .ok (.getfield 19, 3) := by decide +kernel
theorem dX12_ending_54 : decode cX12_ending 54 = .ok (.invokevirtual 226, 3) := by decide +kernel
theorem dX12_ending_57 : decode cX12_ending 57 = .ok (.goto 4, 3) := by decide +kernel
theorem dX12_ending_60 : decode cX12_ending 60 = .ok (.iload_n 2, 1) := by decide +kernel
theorem dX12_ending_61 : decode cX12_ending 61 = .ok (.invokevirtual 236, 3) := by decide +kernel
theorem dX12_ending_64 : decode cX12_ending 64 = .ok (.ireturn, 1) := by decide +kernel
def w_Ch_ending_0 (C : zC) (n0 : Nat) (Q : Int32 → zS → Prop) (X : zXp)  (a0 : Nat) (a1 : Int32) (a2 : Int32) (κ : zS) : Prop :=
  ∀ _ : zT κ (zR κ chAtlas a0) = 3,
  zRun C 0 mAt_holdsEnding [.ref (zR κ chAtlas a0), .int a1] κ (oI (fun r2 κ1 =>
    ∀ _ : zW C n0 κ1,
    ∀ _ : zM (zn κ) κ κ1,
    (r2 = (0 : Int32) →
      ∀ κ4, κ4 = ut κ1 → X "java/lang/IndexOutOfBoundsException" κ4) ∧
    (¬ r2 = (0 : Int32) →
      (a2 < (-1 : Int32) →
        ∀ κ5, κ5 = ut κ1 → X "java/lang/IndexOutOfBoundsException" κ5) ∧
      (¬ a2 < (-1 : Int32) →
        ∀ _ : zT κ1 (zR κ1 chCode a0) = 5,
        zRun C 0 mCo_shared [.ref (zR κ1 chCode a0)] κ1 (oI (fun r8 κ7 =>
          ∀ _ : zW C n0 κ7,
          ∀ _ : zM (zn κ1) κ1 κ7,
          (a2 < r8 →
            (¬ a2 = (-1 : Int32) →
              ∀ _ : zT κ7 (zR κ7 atEndings (zR κ7 chAtlas a0)) = 6,
              zRun C 1 mHo_part [.ref (zR κ7 atEndings (zR κ7 chAtlas a0)), .int a1, .int a2] κ7 (oI (fun r12 κ11 =>
                ∀ _ : zW C n0 κ11,
                ∀ _ : zM (zn κ7) κ7 κ11,
                Q r12 κ11) noX)) ∧
            (a2 = (-1 : Int32) →
              ∀ _ : zT κ7 (zR κ7 chCode a0) = 5,
              zRun C 0 mCo_shared [.ref (zR κ7 chCode a0)] κ7 (oI (fun r15 κ14 =>
                ∀ _ : zW C n0 κ14,
                ∀ _ : zM (zn κ7) κ7 κ14,
                ∀ _ : zT κ14 (zR κ7 atEndings (zR κ7 chAtlas a0)) = 6,
                zRun C 1 mHo_part [.ref (zR κ7 atEndings (zR κ7 chAtlas a0)), .int a1, .int r15] κ14 (oI (fun r18 κ17 =>
                  ∀ _ : zW C n0 κ17,
                  ∀ _ : zM (zn κ14) κ14 κ17,
                  Q r18 κ17) noX)) noX))) ∧
          (¬ a2 < r8 →
            ∀ κ21, κ21 = ut κ7 → X "java/lang/IndexOutOfBoundsException" κ21)) noX)))) noX)
theorem t_Ch_ending_0 {C : zC} {n0 : Nat} {Q : Int32 → zS → Prop} {X : zXp}   {a0 : Nat} {a1 : Int32} {a2 : Int32} {κ : zS} (W : zW C n0 κ) (Ta0 : zT κ a0 = 15) (F : w_Ch_ending_0 C n0 Q X  a0 a1 a2 κ) : zG C n0 8 mCh_ending 0 [some (.ref a0), some (.int a1), some (.int a2)] [] κ (oI Q X) := by
  unfold w_Ch_ending_0 at F
  refine y_aln dX12_ending_0 rfl ?_
  refine gf_X12_49 W dX12_ending_1 rfl Ta0 ?_
  refine y_iln dX12_ending_4 rfl ?_
  replace F := F (ty_chAtlas W Ta0)
  refine k_X12_223 W dX12_ending_5 rfl (Nat.le_of_ble_eq_true rfl) (Nat.le_of_ble_eq_true rfl) (Or.inl (ty_chAtlas W Ta0)) F (fun r2 κ1 Wκ1 Mκ1 F => ?_) (fun _ _ h9 => False.elim h9)
  replace F := F Wκ1 Mκ1
  refine y_i (r2 = (0 : Int32)) dX12_ending_8 (t := 27) rfl rfl (fun c9 => ?_) (fun c9 => ?_)
  · replace F := F.1 c9
    exact y_thr Wκ1 (dxat_yes dX12_ending_27 dX12_ending_30 dX12_ending_31 dX12_ending_33 dX12_ending_36 rfl rfl rfl) (Nat.le_of_ble_eq_true rfl) (Nat.le_of_ble_eq_true rfl) (fun κ9 e9 => Or.inr ⟨_, rfl, F κ9 e9⟩)
  · replace F := F.2 c9
    refine y_iln dX12_ending_11 rfl ?_
    refine y_ic dX12_ending_12 zi_m1 ?_
    refine y_ii (a2 < (-1 : Int32)) dX12_ending_13 (t := 27) rfl rfl (fun c9 => ?_) (fun c9 => ?_)
    · replace F := F.1 c9
      exact y_thr Wκ1 (dxat_yes dX12_ending_27 dX12_ending_30 dX12_ending_31 dX12_ending_33 dX12_ending_36 rfl rfl rfl) (Nat.le_of_ble_eq_true rfl) (Nat.le_of_ble_eq_true rfl) (fun κ9 e9 => Or.inr ⟨_, rfl, F κ9 e9⟩)
    · replace F := F.2 c9
      refine y_iln dX12_ending_16 rfl ?_
      refine y_aln dX12_ending_17 rfl ?_
      have h6 := (ztm W Mκ1 Ta0)
      refine gf_X12_19 Wκ1 dX12_ending_18 rfl h6 ?_
      replace F := F (ty_chCode Wκ1 h6)
      refine k_X12_226 Wκ1 dX12_ending_21 rfl (Nat.le_of_ble_eq_true rfl) (Nat.le_of_ble_eq_true rfl) (Or.inl (ty_chCode Wκ1 h6)) F (fun r8 κ7 Wκ7 Mκ7 F => ?_) (fun _ _ h9 => False.elim h9)
      replace F := F Wκ7 Mκ7
      refine y_ii (a2 < r8) dX12_ending_24 (t := 37) rfl rfl (fun c9 => ?_) (fun c9 => ?_)
      · replace F := F.1 c9
        refine y_aln dX12_ending_37 rfl ?_
        have h10 := (ztm Wκ1 Mκ7 h6)
        refine gf_X12_49 Wκ7 dX12_ending_38 rfl h10 ?_
        refine gf_X12_232 Wκ7 dX12_ending_41 rfl (ty_chAtlas Wκ7 h10) ?_
        refine y_iln dX12_ending_44 rfl ?_
        refine y_iln dX12_ending_45 rfl ?_
        refine y_ic dX12_ending_46 zi_m1 ?_
        refine y_iin (a2 = (-1 : Int32)) dX12_ending_47 (t := 60) rfl rfl (fun c9 => ?_) (fun c9 => ?_)
        · replace F := F.1 c9
          refine y_iln dX12_ending_60 rfl ?_
          replace F := F (ty_atEndings Wκ7 (ty_chAtlas Wκ7 h10))
          refine k_X12_236 Wκ7 dX12_ending_61 rfl (Nat.le_of_ble_eq_true rfl) (Nat.le_of_ble_eq_true rfl) (Or.inl (ty_atEndings Wκ7 (ty_chAtlas Wκ7 h10))) F (fun r12 κ11 Wκ11 Mκ11 F => ?_) (fun _ _ h9 => False.elim h9)
          replace F := F Wκ11 Mκ11
          exact y_ri Wκ11 dX12_ending_64 rfl in_nar F
        · replace F := F.2 c9
          refine y_aln dX12_ending_50 rfl ?_
          refine gf_X12_19 Wκ7 dX12_ending_51 rfl h10 ?_
          replace F := F (ty_chCode Wκ7 h10)
          refine k_X12_226 Wκ7 dX12_ending_54 rfl (Nat.le_of_ble_eq_true rfl) (Nat.le_of_ble_eq_true rfl) (Or.inl (ty_chCode Wκ7 h10)) F (fun r15 κ14 Wκ14 Mκ14 F => ?_) (fun _ _ h9 => False.elim h9)
          replace F := F Wκ14 Mκ14
          refine y_goto dX12_ending_57 (t := 61) rfl ?_
          have h19 := (ztm Wκ7 Mκ14 (ty_atEndings Wκ7 (ty_chAtlas Wκ7 h10)))
          replace F := F h19
          refine k_X12_236 Wκ14 dX12_ending_61 rfl (Nat.le_of_ble_eq_true rfl) (Nat.le_of_ble_eq_true rfl) (Or.inl h19) F (fun r18 κ17 Wκ17 Mκ17 F => ?_) (fun _ _ h9 => False.elim h9)
          replace F := F Wκ17 Mκ17
          exact y_ri Wκ17 dX12_ending_64 rfl in_nar F
      · replace F := F.2 c9
        exact y_thr Wκ7 (dxat_yes dX12_ending_27 dX12_ending_30 dX12_ending_31 dX12_ending_33 dX12_ending_36 rfl rfl rfl) (Nat.le_of_ble_eq_true rfl) (Nat.le_of_ble_eq_true rfl) (fun κ9 e9 => Or.inr ⟨_, rfl, F κ9 e9⟩)

theorem Ch_ending_run {C : zC} {n0 : Nat} {Q : Int32 → zS → Prop} {X : zXp} {a0 : Nat} {a1 : Int32} {a2 : Int32} {κ : zS} (W : zW C n0 κ) (Ta0 : zT κ a0 = 15) (F : w_Ch_ending_0 C (zn κ) Q X a0 a1 a2 κ) : zRun C 8 mCh_ending [.ref a0, .int a1, .int a2] κ (oI Q X) := z_run (m_ent _ 0) (t_Ch_ending_0 (W.lo (Nat.le_trans W.1.2.1 W.1.2.2) (Nat.le_refl _)) Ta0 F)

theorem dX12_decide_0 : decode cX12_decide 0 = .ok (.aload_n 0, 1) := by decide +kernel
theorem dX12_decide_1 : decode cX12_decide 1 = .ok (.getfield 49, 3) := by decide +kernel
theorem dX12_decide_4 : decode cX12_decide 4 = .ok (.iload_n 1, 1) := by decide +kernel
theorem dX12_decide_5 : decode cX12_decide 5 = .ok (.invokevirtual 173, 3) := by decide +kernel
theorem dX12_decide_8 : decode cX12_decide 8 = .ok (.ifCond .eq 31, 3) := by decide +kernel
theorem dX12_decide_11 : decode cX12_decide 11 = .ok (.aload_n 0, 1) := by decide +kernel
theorem dX12_decide_12 : decode cX12_decide 12 = .ok (.getfield 49, 3) := by decide +kernel
theorem dX12_decide_15 : decode cX12_decide 15 = .ok (.getfield 189, 3) := by decide +kernel
theorem dX12_decide_18 : decode cX12_decide 18 = .ok (.iload_n 1, 1) := by decide +kernel
theorem dX12_decide_19 : decode cX12_decide 19 = .ok (.baload, 1) := by decide +kernel
theorem dX12_decide_20 : decode cX12_decide 20 = .ok (.ifCond .eq 19, 3) := by decide +kernel
theorem dX12_decide_23 : decode cX12_decide 23 = .ok (.iload_n 2, 1) := by decide +kernel
theorem dX12_decide_24 : decode cX12_decide 24 = .ok (.ifCond .lt 15, 3) := by decide +kernel
theorem dX12_decide_27 : decode cX12_decide 27 = .ok (.iload_n 2, 1) := by decide +kernel
theorem dX12_decide_28 : decode cX12_decide 28 = .ok (.aload_n 0, 1) := by decide +kernel
theorem dX12_decide_29 : decode cX12_decide 29 = .ok (.getfield 49, 3) := by decide +kernel
theorem dX12_decide_32 : decode cX12_decide 32 = .ok (.iload_n 1, 1) := by decide +kernel
theorem dX12_decide_33 : decode cX12_decide 33 = .ok (.invokevirtual 186, 3) := by decide +kernel
theorem dX12_decide_36 : decode cX12_decide 36 = .ok (.if_icmp .lt 13, 3) := by decide +kernel
theorem dX12_decide_39 : decode cX12_decide 39 = .ok (.new 154, 3) := by decide +kernel
theorem dX12_decide_42 : decode cX12_decide 42 = .ok (.dup, 1) := by decide +kernel
theorem dX12_decide_43 : decode cX12_decide 43 = .ok (.ldc 241, 2) := by decide +kernel
theorem dX12_decide_45 : decode cX12_decide 45 = .ok (.invokespecial 158, 3) := by decide +kernel
theorem dX12_decide_48 : decode cX12_decide 48 = .ok (.athrow, 1) := by decide +kernel
theorem dX12_decide_49 : decode cX12_decide 49 = .ok (.aload_n 0, 1) := by decide +kernel
theorem dX12_decide_50 : decode cX12_decide 50 = .ok (.getfield 49, 3) := by decide +kernel
theorem dX12_decide_53 : decode cX12_decide 53 = .ok (.getfield 243, 3) := by decide +kernel
theorem dX12_decide_56 : decode cX12_decide 56 = .ok (.iload_n 1, 1) := by decide +kernel
theorem dX12_decide_57 : decode cX12_decide 57 = .ok (.iaload, 1) := by decide +kernel
theorem dX12_decide_58 : decode cX12_decide 58 = .ok (.istore_n 3, 1) := by decide +kernel
theorem dX12_decide_59 : decode cX12_decide 59 = .ok (.aload_n 0, 1) := by decide +kernel
theorem dX12_decide_60 : decode cX12_decide 60 = .ok (.getfield 49, 3) := by decide +kernel
theorem dX12_decide_63 : decode cX12_decide 63 = .ok (.getfield 243, 3) := by decide +kernel
theorem dX12_decide_66 : decode cX12_decide 66 = .ok (.iload_n 1, 1) := by decide +kernel
theorem dX12_decide_67 : decode cX12_decide 67 = .ok (.iload_n 2, 1) := by decide +kernel
theorem dX12_decide_68 : decode cX12_decide 68 = .ok (.iastore, 1) := by decide +kernel
theorem dX12_decide_69 : decode cX12_decide 69 = .ok (.aload_n 0, 1) := by decide +kernel
theorem dX12_decide_70 : decode cX12_decide 70 = .ok (.getfield 61, 3) := by decide +kernel
theorem dX12_decide_73 : decode cX12_decide 73 = .ok (.iconst 0, 1) := by decide +kernel
theorem dX12_decide_74 : decode cX12_decide 74 = .ok (.putfield 142, 3) := by decide +kernel
theorem dX12_decide_77 : decode cX12_decide 77 = .ok (.iload_n 3, 1) := by decide +kernel
theorem dX12_decide_78 : decode cX12_decide 78 = .ok (.ireturn, 1) := by decide +kernel
def w_Ch_decide_0 (C : zC) (n0 : Nat) (Q : Int32 → zS → Prop) (X : zXp)  (a0 : Nat) (a1 : Int32) (a2 : Int32) (κ : zS) : Prop :=
  ∀ _ : zT κ (zR κ chAtlas a0) = 3,
  zRun C 0 mAt_holds [.ref (zR κ chAtlas a0), .int a1] κ (oI (fun r2 κ1 =>
    ∀ _ : zW C n0 κ1,
    ∀ _ : zM (zn κ) κ κ1,
    (r2 = (0 : Int32) →
      ∀ κ4, κ4 = ut κ1 → X "java/lang/IndexOutOfBoundsException" κ4) ∧
    (¬ r2 = (0 : Int32) →
      inb a1 (zN κ1 (zR κ1 atChooses (zR κ1 chAtlas a0))) ∧
      ((zA κ1 (zR κ1 atChooses (zR κ1 chAtlas a0)) (a1).toNatClampNeg) = (0 : Int32) →
        ∀ κ6, κ6 = ut κ1 → X "java/lang/IndexOutOfBoundsException" κ6) ∧
      (¬ (zA κ1 (zR κ1 atChooses (zR κ1 chAtlas a0)) (a1).toNatClampNeg) = (0 : Int32) →
        (a2 < (0 : Int32) →
          ∀ κ7, κ7 = ut κ1 → X "java/lang/IndexOutOfBoundsException" κ7) ∧
        (¬ a2 < (0 : Int32) →
          ∀ _ : zT κ1 (zR κ1 chAtlas a0) = 3,
          zRun C 0 mAt_waysOf [.ref (zR κ1 chAtlas a0), .int a1] κ1 (oI (fun r9 κ8 =>
            ∀ _ : zW C n0 κ8,
            ∀ _ : zM (zn κ1) κ1 κ8,
            (a2 < r9 →
              inb a1 (zN κ8 (zR κ8 atPlan (zR κ8 chAtlas a0))) ∧
              ∀ v3_12 : Int32, v3_12 = (zA κ8 (zR κ8 atPlan (zR κ8 chAtlas a0)) (a1).toNatClampNeg) →
              inb a1 (zN κ8 (zR κ8 atPlan (zR κ8 chAtlas a0))) ∧
              ∀ κ13, κ13 = ua κ8 (zR κ8 atPlan (zR κ8 chAtlas a0)) (a1).toNatClampNeg a2 →
              ∀ _ : zW C n0 κ13,
              ∀ κ15, κ15 = ui κ13 soSolved (zR κ13 chSolver a0) (0 : Int32) →
              ∀ _ : zW C n0 κ15,
              Q v3_12 κ15) ∧
            (¬ a2 < r9 →
              ∀ κ16, κ16 = ut κ8 → X "java/lang/IndexOutOfBoundsException" κ16)) noX))))) noX)
theorem t_Ch_decide_0 {C : zC} {n0 : Nat} {Q : Int32 → zS → Prop} {X : zXp}   {a0 : Nat} {a1 : Int32} {a2 : Int32} {κ : zS} (W : zW C n0 κ) (Ta0 : zT κ a0 = 15) (F : w_Ch_decide_0 C n0 Q X  a0 a1 a2 κ) : zG C n0 8 mCh_decide 0 [some (.ref a0), some (.int a1), some (.int a2), none] [] κ (oI Q X) := by
  unfold w_Ch_decide_0 at F
  refine y_aln dX12_decide_0 rfl ?_
  refine gf_X12_49 W dX12_decide_1 rfl Ta0 ?_
  refine y_iln dX12_decide_4 rfl ?_
  replace F := F (ty_chAtlas W Ta0)
  refine k_X12_173 W dX12_decide_5 rfl (Nat.le_of_ble_eq_true rfl) (Nat.le_of_ble_eq_true rfl) (Or.inl (ty_chAtlas W Ta0)) F (fun r2 κ1 Wκ1 Mκ1 F => ?_) (fun _ _ h9 => False.elim h9)
  replace F := F Wκ1 Mκ1
  refine y_i (r2 = (0 : Int32)) dX12_decide_8 (t := 39) rfl rfl (fun c9 => ?_) (fun c9 => ?_)
  · replace F := F.1 c9
    exact y_thr Wκ1 (dxat_yes dX12_decide_39 dX12_decide_42 dX12_decide_43 dX12_decide_45 dX12_decide_48 rfl rfl rfl) (Nat.le_of_ble_eq_true rfl) (Nat.le_of_ble_eq_true rfl) (fun κ9 e9 => Or.inr ⟨_, rfl, F κ9 e9⟩)
  · replace F := F.2 c9
    refine y_aln dX12_decide_11 rfl ?_
    have h5 := (ztm W Mκ1 Ta0)
    refine gf_X12_49 Wκ1 dX12_decide_12 rfl h5 ?_
    refine gf_X12_189 Wκ1 dX12_decide_15 rfl (ty_chAtlas Wκ1 h5) ?_
    refine y_iln dX12_decide_18 rfl ?_
    refine y_zld dX12_decide_19 (ty_atChooses Wκ1 (ty_chAtlas Wκ1 h5)) F.1 ?_
    replace F := F.2
    refine y_i ((zA κ1 (zR κ1 atChooses (zR κ1 chAtlas a0)) (a1).toNatClampNeg) = (0 : Int32)) dX12_decide_20 (t := 39) rfl rfl (fun c9 => ?_) (fun c9 => ?_)
    · replace F := F.1 c9
      exact y_thr Wκ1 (dxat_yes dX12_decide_39 dX12_decide_42 dX12_decide_43 dX12_decide_45 dX12_decide_48 rfl rfl rfl) (Nat.le_of_ble_eq_true rfl) (Nat.le_of_ble_eq_true rfl) (fun κ9 e9 => Or.inr ⟨_, rfl, F κ9 e9⟩)
    · replace F := F.2 c9
      refine y_iln dX12_decide_23 rfl ?_
      refine y_i (a2 < (0 : Int32)) dX12_decide_24 (t := 39) rfl rfl (fun c9 => ?_) (fun c9 => ?_)
      · replace F := F.1 c9
        exact y_thr Wκ1 (dxat_yes dX12_decide_39 dX12_decide_42 dX12_decide_43 dX12_decide_45 dX12_decide_48 rfl rfl rfl) (Nat.le_of_ble_eq_true rfl) (Nat.le_of_ble_eq_true rfl) (fun κ9 e9 => Or.inr ⟨_, rfl, F κ9 e9⟩)
      · replace F := F.2 c9
        refine y_iln dX12_decide_27 rfl ?_
        refine y_aln dX12_decide_28 rfl ?_
        refine gf_X12_49 Wκ1 dX12_decide_29 rfl h5 ?_
        refine y_iln dX12_decide_32 rfl ?_
        replace F := F (ty_chAtlas Wκ1 h5)
        refine k_X12_186 Wκ1 dX12_decide_33 rfl (Nat.le_of_ble_eq_true rfl) (Nat.le_of_ble_eq_true rfl) (Or.inl (ty_chAtlas Wκ1 h5)) F (fun r9 κ8 Wκ8 Mκ8 F => ?_) (fun _ _ h9 => False.elim h9)
        replace F := F Wκ8 Mκ8
        refine y_ii (a2 < r9) dX12_decide_36 (t := 49) rfl rfl (fun c9 => ?_) (fun c9 => ?_)
        · replace F := F.1 c9
          refine y_aln dX12_decide_49 rfl ?_
          have h11 := (ztm Wκ1 Mκ8 h5)
          refine gf_X12_49 Wκ8 dX12_decide_50 rfl h11 ?_
          refine gf_X12_243 Wκ8 dX12_decide_53 rfl (ty_chAtlas Wκ8 h11) ?_
          refine y_iln dX12_decide_56 rfl ?_
          refine y_ald dX12_decide_57 (ty_atPlan Wκ8 (ty_chAtlas Wκ8 h11)) F.1 ?_
          replace F := F.2
          refine y_isnb dX12_decide_58 (Nat.le_of_ble_eq_true rfl) (fun v3_12 ev3_12 => ?_)
          replace F := F v3_12 ev3_12
          show zG _ _ _ _ _ [some (.ref a0), some (.int a1), some (.int a2), some (.int v3_12)] _ _ _
          refine y_aln dX12_decide_59 rfl ?_
          refine gf_X12_49 Wκ8 dX12_decide_60 rfl h11 ?_
          refine gf_X12_243 Wκ8 dX12_decide_63 rfl (ty_chAtlas Wκ8 h11) ?_
          refine y_iln dX12_decide_66 rfl ?_
          refine y_iln dX12_decide_67 rfl ?_
          refine y_ast Wκ8 dX12_decide_68 (ty_atPlan Wκ8 (ty_chAtlas Wκ8 h11)) F.1 (fun κ13 eκ13 => ?_)
          replace F := F.2 κ13 eκ13
          have Wκ13 : zW C n0 κ13 := zW_ua Wκ8 eκ13 (fun h => absurd (h.symm.trans (ty_atPlan Wκ8 (ty_chAtlas Wκ8 h11))) (by decide)) (fun h => absurd (h.symm.trans (ty_atPlan Wκ8 (ty_chAtlas Wκ8 h11))) (by decide))
          have Mκ13 : zM (zn κ8) κ8 κ13 := by rw [eκ13]; exact zM.of rfl rfl rfl
          replace F := F Wκ13
          refine y_aln dX12_decide_69 rfl ?_
          have h14 := (ztm Wκ8 Mκ13 h11)
          refine gf_X12_61 Wκ13 dX12_decide_70 rfl h14 ?_
          refine y_ic dX12_decide_73 zi_0 ?_
          refine pf_X12_142 Wκ13 dX12_decide_74 rfl (nb_nar nb_0) (Or.inl (ty_chSolver Wκ13 h14)) (fun κ15 eκ15 => ?_)
          replace F := F κ15 eκ15
          have Wκ15 : zW C n0 κ15 := zW_ui Wκ13 eκ15 (fun _ => nb_0)
          have Mκ15 : zM (zn κ13) κ13 κ15 := by rw [eκ15]; exact zM.of rfl rfl rfl
          replace F := F Wκ15
          refine y_iln dX12_decide_77 rfl ?_
          exact y_ri Wκ15 dX12_decide_78 rfl in_nar F
        · replace F := F.2 c9
          exact y_thr Wκ8 (dxat_yes dX12_decide_39 dX12_decide_42 dX12_decide_43 dX12_decide_45 dX12_decide_48 rfl rfl rfl) (Nat.le_of_ble_eq_true rfl) (Nat.le_of_ble_eq_true rfl) (fun κ9 e9 => Or.inr ⟨_, rfl, F κ9 e9⟩)

theorem Ch_decide_run {C : zC} {n0 : Nat} {Q : Int32 → zS → Prop} {X : zXp} {a0 : Nat} {a1 : Int32} {a2 : Int32} {κ : zS} (W : zW C n0 κ) (Ta0 : zT κ a0 = 15) (F : w_Ch_decide_0 C (zn κ) Q X a0 a1 a2 κ) : zRun C 8 mCh_decide [.ref a0, .int a1, .int a2] κ (oI Q X) := z_run (m_ent _ 1) (t_Ch_decide_0 (W.lo (Nat.le_trans W.1.2.1 W.1.2.2) (Nat.le_refl _)) Ta0 F)

theorem dX12_decided_0 : decode cX12_decided 0 = .ok (.aload_n 0, 1) := by decide +kernel
theorem dX12_decided_1 : decode cX12_decided 1 = .ok (.getfield 49, 3) := by decide +kernel
theorem dX12_decided_4 : decode cX12_decided 4 = .ok (.iload_n 1, 1) := by decide +kernel
theorem dX12_decided_5 : decode cX12_decided 5 = .ok (.invokevirtual 173, 3) := by decide +kernel
theorem dX12_decided_8 : decode cX12_decided 8 = .ok (.ifCond .eq 15, 3) := by decide +kernel
theorem dX12_decided_11 : decode cX12_decided 11 = .ok (.aload_n 0, 1) := by decide +kernel
theorem dX12_decided_12 : decode cX12_decided 12 = .ok (.getfield 49, 3) := by decide +kernel
theorem dX12_decided_15 : decode cX12_decided 15 = .ok (.getfield 189, 3) := by decide +kernel
theorem dX12_decided_18 : decode cX12_decided 18 = .ok (.iload_n 1, 1) := by decide +kernel
theorem dX12_decided_19 : decode cX12_decided 19 = .ok (.baload, 1) := by decide +kernel
theorem dX12_decided_20 : decode cX12_decided 20 = .ok (.ifCond .ne 13, 3) := by decide +kernel
theorem dX12_decided_23 : decode cX12_decided 23 = .ok (.new 154, 3) := by decide +kernel
theorem dX12_decided_26 : decode cX12_decided 26 = .ok (.dup, 1) := by decide +kernel
theorem dX12_decided_27 : decode cX12_decided 27 = .ok (.ldc 246, 2) := by decide +kernel
theorem dX12_decided_29 : decode cX12_decided 29 = .ok (.invokespecial 158, 3) := by decide +kernel
theorem dX12_decided_32 : decode cX12_decided 32 = .ok (.athrow, 1) := by decide +kernel
theorem dX12_decided_33 : decode cX12_decided 33 = .ok (.aload_n 0, 1) := by decide +kernel
theorem dX12_decided_34 : decode cX12_decided 34 = .ok (.getfield 49, 3) := by decide +kernel
theorem dX12_decided_37 : decode cX12_decided 37 = .ok (.getfield 243, 3) := by decide +kernel
theorem dX12_decided_40 : decode cX12_decided 40 = .ok (.iload_n 1, 1) := by decide +kernel
theorem dX12_decided_41 : decode cX12_decided 41 = .ok (.iaload, 1) := by decide +kernel
theorem dX12_decided_42 : decode cX12_decided 42 = .ok (.ireturn, 1) := by decide +kernel
def w_Ch_decided_0 (C : zC) (n0 : Nat) (Q : Int32 → zS → Prop) (X : zXp)  (a0 : Nat) (a1 : Int32) (κ : zS) : Prop :=
  ∀ _ : zT κ (zR κ chAtlas a0) = 3,
  zRun C 0 mAt_holds [.ref (zR κ chAtlas a0), .int a1] κ (oI (fun r2 κ1 =>
    ∀ _ : zW C n0 κ1,
    ∀ _ : zM (zn κ) κ κ1,
    (r2 = (0 : Int32) →
      ∀ κ4, κ4 = ut κ1 → X "java/lang/IndexOutOfBoundsException" κ4) ∧
    (¬ r2 = (0 : Int32) →
      inb a1 (zN κ1 (zR κ1 atChooses (zR κ1 chAtlas a0))) ∧
      (¬ (zA κ1 (zR κ1 atChooses (zR κ1 chAtlas a0)) (a1).toNatClampNeg) = (0 : Int32) →
        inb a1 (zN κ1 (zR κ1 atPlan (zR κ1 chAtlas a0))) ∧
        Q (zA κ1 (zR κ1 atPlan (zR κ1 chAtlas a0)) (a1).toNatClampNeg) κ1) ∧
      ((zA κ1 (zR κ1 atChooses (zR κ1 chAtlas a0)) (a1).toNatClampNeg) = (0 : Int32) →
        ∀ κ6, κ6 = ut κ1 → X "java/lang/IndexOutOfBoundsException" κ6))) noX)
theorem t_Ch_decided_0 {C : zC} {n0 : Nat} {Q : Int32 → zS → Prop} {X : zXp}   {a0 : Nat} {a1 : Int32} {κ : zS} (W : zW C n0 κ) (Ta0 : zT κ a0 = 15) (F : w_Ch_decided_0 C n0 Q X  a0 a1 κ) : zG C n0 8 mCh_decided 0 [some (.ref a0), some (.int a1)] [] κ (oI Q X) := by
  unfold w_Ch_decided_0 at F
  refine y_aln dX12_decided_0 rfl ?_
  refine gf_X12_49 W dX12_decided_1 rfl Ta0 ?_
  refine y_iln dX12_decided_4 rfl ?_
  replace F := F (ty_chAtlas W Ta0)
  refine k_X12_173 W dX12_decided_5 rfl (Nat.le_of_ble_eq_true rfl) (Nat.le_of_ble_eq_true rfl) (Or.inl (ty_chAtlas W Ta0)) F (fun r2 κ1 Wκ1 Mκ1 F => ?_) (fun _ _ h9 => False.elim h9)
  replace F := F Wκ1 Mκ1
  refine y_i (r2 = (0 : Int32)) dX12_decided_8 (t := 23) rfl rfl (fun c9 => ?_) (fun c9 => ?_)
  · replace F := F.1 c9
    exact y_thr Wκ1 (dxat_yes dX12_decided_23 dX12_decided_26 dX12_decided_27 dX12_decided_29 dX12_decided_32 rfl rfl rfl) (Nat.le_of_ble_eq_true rfl) (Nat.le_of_ble_eq_true rfl) (fun κ9 e9 => Or.inr ⟨_, rfl, F κ9 e9⟩)
  · replace F := F.2 c9
    refine y_aln dX12_decided_11 rfl ?_
    have h5 := (ztm W Mκ1 Ta0)
    refine gf_X12_49 Wκ1 dX12_decided_12 rfl h5 ?_
    refine gf_X12_189 Wκ1 dX12_decided_15 rfl (ty_chAtlas Wκ1 h5) ?_
    refine y_iln dX12_decided_18 rfl ?_
    refine y_zld dX12_decided_19 (ty_atChooses Wκ1 (ty_chAtlas Wκ1 h5)) F.1 ?_
    replace F := F.2
    refine y_in ((zA κ1 (zR κ1 atChooses (zR κ1 chAtlas a0)) (a1).toNatClampNeg) = (0 : Int32)) dX12_decided_20 (t := 33) rfl rfl (fun c9 => ?_) (fun c9 => ?_)
    · replace F := F.1 c9
      refine y_aln dX12_decided_33 rfl ?_
      refine gf_X12_49 Wκ1 dX12_decided_34 rfl h5 ?_
      refine gf_X12_243 Wκ1 dX12_decided_37 rfl (ty_chAtlas Wκ1 h5) ?_
      refine y_iln dX12_decided_40 rfl ?_
      refine y_ald dX12_decided_41 (ty_atPlan Wκ1 (ty_chAtlas Wκ1 h5)) F.1 ?_
      replace F := F.2
      exact y_ri Wκ1 dX12_decided_42 rfl in_nar F
    · replace F := F.2 c9
      exact y_thr Wκ1 (dxat_yes dX12_decided_23 dX12_decided_26 dX12_decided_27 dX12_decided_29 dX12_decided_32 rfl rfl rfl) (Nat.le_of_ble_eq_true rfl) (Nat.le_of_ble_eq_true rfl) (fun κ9 e9 => Or.inr ⟨_, rfl, F κ9 e9⟩)

theorem Ch_decided_run {C : zC} {n0 : Nat} {Q : Int32 → zS → Prop} {X : zXp} {a0 : Nat} {a1 : Int32} {κ : zS} (W : zW C n0 κ) (Ta0 : zT κ a0 = 15) (F : w_Ch_decided_0 C (zn κ) Q X a0 a1 κ) : zRun C 8 mCh_decided [.ref a0, .int a1] κ (oI Q X) := z_run (m_ent _ 0) (t_Ch_decided_0 (W.lo (Nat.le_trans W.1.2.1 W.1.2.2) (Nat.le_refl _)) Ta0 F)

theorem dX12_best_0 : decode cX12_best 0 = .ok (.aload_n 0, 1) := by decide +kernel
theorem dX12_best_1 : decode cX12_best 1 = .ok (.getfield 49, 3) := by decide +kernel
theorem dX12_best_4 : decode cX12_best 4 = .ok (.getfield 139, 3) := by decide +kernel
theorem dX12_best_7 : decode cX12_best 7 = .ok (.ifCond .ne 13, 3) := by decide +kernel
theorem dX12_best_10 : decode cX12_best 10 = .ok (.new 126, 3) := by decide +kernel
theorem dX12_best_13 : decode cX12_best 13 = .ok (.dup, 1) := by decide +kernel
theorem dX12_best_14 : decode cX12_best 14 = .ok (.ldc 248, 2) := by decide +kernel
theorem dX12_best_16 : decode cX12_best 16 = .ok (.invokespecial 166, 3) := by decide +kernel
theorem dX12_best_19 : decode cX12_best 19 = .ok (.athrow, 1) := by decide +kernel
theorem dX12_best_20 : decode cX12_best 20 = .ok (.aload_n 0, 1) := by decide +kernel
theorem dX12_best_21 : decode cX12_best 21 = .ok (.getfield 61, 3) := by decide +kernel
theorem dX12_best_24 : decode cX12_best 24 = .ok (.invokevirtual 250, 3) := by decide +kernel
theorem dX12_best_27 : decode cX12_best 27 = .ok (.ireturn, 1) := by decide +kernel
def w_Ch_best_0 (C : zC) (n0 : Nat) (Q : Int32 → zS → Prop) (X : zXp)  (a0 : Nat) (κ : zS) : Prop :=
  (¬ (zI κ atExplored (zR κ chAtlas a0)) = (0 : Int32) →
    ∀ _ : zT κ (zR κ chSolver a0) = 12,
    zRun C 8 mSo_makePlan [.ref (zR κ chSolver a0)] κ (oI (fun r2 κ1 =>
      ∀ _ : zW C n0 κ1,
      ∀ _ : zM (zn κ) κ κ1,
      Q r2 κ1) noX)) ∧
  ((zI κ atExplored (zR κ chAtlas a0)) = (0 : Int32) →
    ∀ κ4, κ4 = ut κ → X "java/lang/IllegalStateException" κ4)
theorem t_Ch_best_0 {C : zC} {n0 : Nat} {Q : Int32 → zS → Prop} {X : zXp}   {a0 : Nat} {κ : zS} (W : zW C n0 κ) (Ta0 : zT κ a0 = 15) (F : w_Ch_best_0 C n0 Q X  a0 κ) : zG C n0 9 mCh_best 0 [some (.ref a0)] [] κ (oI Q X) := by
  unfold w_Ch_best_0 at F
  refine y_aln dX12_best_0 rfl ?_
  refine gf_X12_49 W dX12_best_1 rfl Ta0 ?_
  refine gf_X12_139 dX12_best_4 rfl (Or.inl (ty_chAtlas W Ta0)) ?_
  refine y_in ((zI κ atExplored (zR κ chAtlas a0)) = (0 : Int32)) dX12_best_7 (t := 20) rfl rfl (fun c9 => ?_) (fun c9 => ?_)
  · replace F := F.1 c9
    refine y_aln dX12_best_20 rfl ?_
    refine gf_X12_61 W dX12_best_21 rfl Ta0 ?_
    replace F := F (ty_chSolver W Ta0)
    refine k_X12_250 W dX12_best_24 rfl (Nat.le_of_ble_eq_true rfl) (Nat.le_of_ble_eq_true rfl) (Or.inl (ty_chSolver W Ta0)) F (fun r2 κ1 Wκ1 Mκ1 F => ?_) (fun _ _ h9 => False.elim h9)
    replace F := F Wκ1 Mκ1
    exact y_ri Wκ1 dX12_best_27 rfl in_nar F
  · replace F := F.2 c9
    exact y_thr W (dxat_yes dX12_best_10 dX12_best_13 dX12_best_14 dX12_best_16 dX12_best_19 rfl rfl rfl) (Nat.le_of_ble_eq_true rfl) (Nat.le_of_ble_eq_true rfl) (fun κ9 e9 => Or.inr ⟨_, rfl, F κ9 e9⟩)

theorem Ch_best_run {C : zC} {n0 : Nat} {Q : Int32 → zS → Prop} {X : zXp} {a0 : Nat} {κ : zS} (W : zW C n0 κ) (Ta0 : zT κ a0 = 15) (F : w_Ch_best_0 C (zn κ) Q X a0 κ) : zRun C 9 mCh_best [.ref a0] κ (oI Q X) := z_run (m_ent _ 0) (t_Ch_best_0 (W.lo (Nat.le_trans W.1.2.1 W.1.2.2) (Nat.le_refl _)) Ta0 F)

theorem dX12_solve_0 : decode cX12_solve 0 = .ok (.aload_n 0, 1) := by decide +kernel
theorem dX12_solve_1 : decode cX12_solve 1 = .ok (.getfield 49, 3) := by decide +kernel
theorem dX12_solve_4 : decode cX12_solve 4 = .ok (.getfield 139, 3) := by decide +kernel
theorem dX12_solve_7 : decode cX12_solve 7 = .ok (.ifCond .ne 13, 3) := by decide +kernel
theorem dX12_solve_10 : decode cX12_solve 10 = .ok (.new 126, 3) := by decide +kernel
theorem dX12_solve_13 : decode cX12_solve 13 = .ok (.dup, 1) := by decide +kernel
theorem dX12_solve_14 : decode cX12_solve 14 = .ok (.ldc 248, 2) := by decide +kernel
theorem dX12_solve_16 : decode cX12_solve 16 = .ok (.invokespecial 166, 3) := by decide +kernel
theorem dX12_solve_19 : decode cX12_solve 19 = .ok (.athrow, 1) := by decide +kernel
theorem dX12_solve_20 : decode cX12_solve 20 = .ok (.aload_n 0, 1) := by decide +kernel
theorem dX12_solve_21 : decode cX12_solve 21 = .ok (.getfield 61, 3) := by decide +kernel
theorem dX12_solve_24 : decode cX12_solve 24 = .ok (.invokevirtual 253, 3) := by decide +kernel
theorem dX12_solve_27 : decode cX12_solve 27 = .ok (.ireturn, 1) := by decide +kernel
def w_Ch_solve_0 (C : zC) (n0 : Nat) (Q : Int32 → zS → Prop) (X : zXp)  (a0 : Nat) (κ : zS) : Prop :=
  (¬ (zI κ atExplored (zR κ chAtlas a0)) = (0 : Int32) →
    ∀ _ : zT κ (zR κ chSolver a0) = 12,
    zRun C 8 mSo_findVisits [.ref (zR κ chSolver a0)] κ (oI (fun r2 κ1 =>
      ∀ _ : zW C n0 κ1,
      ∀ _ : zM (zn κ) κ κ1,
      Q r2 κ1) noX)) ∧
  ((zI κ atExplored (zR κ chAtlas a0)) = (0 : Int32) →
    ∀ κ4, κ4 = ut κ → X "java/lang/IllegalStateException" κ4)
theorem t_Ch_solve_0 {C : zC} {n0 : Nat} {Q : Int32 → zS → Prop} {X : zXp}   {a0 : Nat} {κ : zS} (W : zW C n0 κ) (Ta0 : zT κ a0 = 15) (F : w_Ch_solve_0 C n0 Q X  a0 κ) : zG C n0 9 mCh_solve 0 [some (.ref a0)] [] κ (oI Q X) := by
  unfold w_Ch_solve_0 at F
  refine y_aln dX12_solve_0 rfl ?_
  refine gf_X12_49 W dX12_solve_1 rfl Ta0 ?_
  refine gf_X12_139 dX12_solve_4 rfl (Or.inl (ty_chAtlas W Ta0)) ?_
  refine y_in ((zI κ atExplored (zR κ chAtlas a0)) = (0 : Int32)) dX12_solve_7 (t := 20) rfl rfl (fun c9 => ?_) (fun c9 => ?_)
  · replace F := F.1 c9
    refine y_aln dX12_solve_20 rfl ?_
    refine gf_X12_61 W dX12_solve_21 rfl Ta0 ?_
    replace F := F (ty_chSolver W Ta0)
    refine k_X12_253 W dX12_solve_24 rfl (Nat.le_of_ble_eq_true rfl) (Nat.le_of_ble_eq_true rfl) (Or.inl (ty_chSolver W Ta0)) F (fun r2 κ1 Wκ1 Mκ1 F => ?_) (fun _ _ h9 => False.elim h9)
    replace F := F Wκ1 Mκ1
    exact y_ri Wκ1 dX12_solve_27 rfl in_nar F
  · replace F := F.2 c9
    exact y_thr W (dxat_yes dX12_solve_10 dX12_solve_13 dX12_solve_14 dX12_solve_16 dX12_solve_19 rfl rfl rfl) (Nat.le_of_ble_eq_true rfl) (Nat.le_of_ble_eq_true rfl) (fun κ9 e9 => Or.inr ⟨_, rfl, F κ9 e9⟩)

theorem Ch_solve_run {C : zC} {n0 : Nat} {Q : Int32 → zS → Prop} {X : zXp} {a0 : Nat} {κ : zS} (W : zW C n0 κ) (Ta0 : zT κ a0 = 15) (F : w_Ch_solve_0 C (zn κ) Q X a0 κ) : zRun C 9 mCh_solve [.ref a0] κ (oI Q X) := z_run (m_ent _ 0) (t_Ch_solve_0 (W.lo (Nat.le_trans W.1.2.1 W.1.2.2) (Nat.le_refl _)) Ta0 F)

theorem dX12_showsNow_0 : decode cX12_showsNow 0 = .ok (.iload_n 1, 1) := by decide +kernel
theorem dX12_showsNow_1 : decode cX12_showsNow 1 = .ok (.bipush 12, 2) := by decide +kernel
theorem dX12_showsNow_3 : decode cX12_showsNow 3 = .ok (.if_icmp .ne 8, 3) := by decide +kernel
theorem dX12_showsNow_6 : decode cX12_showsNow 6 = .ok (.aload_n 0, 1) := by decide +kernel
theorem dX12_showsNow_7 : decode cX12_showsNow 7 = .ok (.getfield 148, 3) := by decide +kernel
theorem dX12_showsNow_10 : decode cX12_showsNow 10 = .ok (.ireturn, 1) := by decide +kernel
theorem dX12_showsNow_11 : decode cX12_showsNow 11 = .ok (.iload_n 1, 1) := by decide +kernel
theorem dX12_showsNow_12 : decode cX12_showsNow 12 = .ok (.bipush 11, 2) := by decide +kernel
theorem dX12_showsNow_14 : decode cX12_showsNow 14 = .ok (.if_icmp .ne 11, 3) := by decide +kernel
theorem dX12_showsNow_17 : decode cX12_showsNow 17 = .ok (.aload_n 0, 1) := by decide +kernel
theorem dX12_showsNow_18 : decode cX12_showsNow 18 = .ok (.getfield 61, 3) := by decide +kernel
theorem dX12_showsNow_21 : decode cX12_showsNow 21 = .ok (.getfield 145, 3) := by decide +kernel
theorem dX12_showsNow_24 : decode cX12_showsNow 24 = .ok (.ireturn, 1) := by decide +kernel
theorem dX12_showsNow_25 : decode cX12_showsNow 25 = .ok (.aload_n 0, 1) := by decide +kernel
theorem dX12_showsNow_26 : decode cX12_showsNow 26 = .ok (.getfield 61, 3) := by decide +kernel
theorem dX12_showsNow_29 : decode cX12_showsNow 29 = .ok (.getfield 142, 3) := by decide +kernel
theorem dX12_showsNow_32 : decode cX12_showsNow 32 = .ok (.ifCond .ne 5, 3) := by decide +kernel
theorem dX12_showsNow_35 : decode cX12_showsNow 35 = .ok (.iconst 0, 1) := by decide +kernel
theorem dX12_showsNow_36 : decode cX12_showsNow 36 = .ok (.ireturn, 1) := by decide +kernel
theorem dX12_showsNow_37 : decode cX12_showsNow 37 = .ok (.iload_n 1, 1) := by decide +kernel
theorem dX12_showsNow_38 : decode cX12_showsNow 38 = .ok (.iconst 1, 1) := by decide +kernel
theorem dX12_showsNow_39 : decode cX12_showsNow 39 = .ok (.if_icmp .gt 13, 3) := by decide +kernel
theorem dX12_showsNow_42 : decode cX12_showsNow 42 = .ok (.aload_n 0, 1) := by decide +kernel
theorem dX12_showsNow_43 : decode cX12_showsNow 43 = .ok (.getfield 70, 3) := by decide +kernel
theorem dX12_showsNow_46 : decode cX12_showsNow 46 = .ok (.bipush 6, 2) := by decide +kernel
theorem dX12_showsNow_48 : decode cX12_showsNow 48 = .ok (.invokevirtual 332, 3) := by decide +kernel
theorem dX12_showsNow_51 : decode cX12_showsNow 51 = .ok (.ireturn, 1) := by decide +kernel
theorem dX12_showsNow_52 : decode cX12_showsNow 52 = .ok (.iload_n 1, 1) := by decide +kernel
theorem dX12_showsNow_53 : decode cX12_showsNow 53 = .ok (.bipush 10, 2) := by decide +kernel
theorem dX12_showsNow_55 : decode cX12_showsNow 55 = .ok (.if_icmp .ne 15, 3) := by decide +kernel
theorem dX12_showsNow_58 : decode cX12_showsNow 58 = .ok (.aload_n 0, 1) := by decide +kernel
theorem dX12_showsNow_59 : decode cX12_showsNow 59 = .ok (.getfield 70, 3) := by decide +kernel
theorem dX12_showsNow_62 : decode cX12_showsNow 62 = .ok (.bipush 7, 2) := by decide +kernel
theorem dX12_showsNow_64 : decode cX12_showsNow 64 = .ok (.invokevirtual 332, 3) := by decide +kernel
theorem dX12_showsNow_67 : decode cX12_showsNow 67 = .ok (.ifCond .eq 7, 3) := by decide +kernel
theorem dX12_showsNow_70 : decode cX12_showsNow 70 = .ok (.iconst 1, 1) := by decide +kernel
theorem dX12_showsNow_71 : decode cX12_showsNow 71 = .ok (.goto 4, 3) := by decide +kernel
theorem dX12_showsNow_74 : decode cX12_showsNow 74 = .ok (.iconst 0, 1) := by decide +kernel
theorem dX12_showsNow_75 : decode cX12_showsNow 75 = .ok (.ireturn, 1) := by decide +kernel
def w_Ch_showsNow_0 (C : zC) (n0 : Nat) (Q : Int32 → zS → Prop)  (a0 : Nat) (a1 : Int32) (κ : zS) : Prop :=
  (¬ a1 = (12 : Int32) →
    (¬ a1 = (11 : Int32) →
      (¬ (zI κ soSolved (zR κ chSolver a0)) = (0 : Int32) →
        ((1 : Int32) < a1 →
          (¬ a1 = (10 : Int32) →
            Q (1 : Int32) κ) ∧
          (a1 = (10 : Int32) →
            ∀ _ : zT κ (zR κ chOdds a0) = 9,
            zRun C 5 mOd_weighs [.ref (zR κ chOdds a0), .int (7 : Int32)] κ (oI (fun r2 κ1 =>
              ∀ _ : zW C n0 κ1,
              ∀ _ : zM (zn κ) κ κ1,
              (r2 = (0 : Int32) →
                Q (0 : Int32) κ1) ∧
              (¬ r2 = (0 : Int32) →
                Q (1 : Int32) κ1)) noX))) ∧
        (¬ (1 : Int32) < a1 →
          ∀ _ : zT κ (zR κ chOdds a0) = 9,
          zRun C 5 mOd_weighs [.ref (zR κ chOdds a0), .int (6 : Int32)] κ (oI (fun r5 κ4 =>
            ∀ _ : zW C n0 κ4,
            ∀ _ : zM (zn κ) κ κ4,
            nb r5 ∧ Q r5 κ4) noX))) ∧
      ((zI κ soSolved (zR κ chSolver a0)) = (0 : Int32) →
        Q (0 : Int32) κ)) ∧
    (a1 = (11 : Int32) →
      nb (zI κ soPlanned (zR κ chSolver a0)) ∧ Q (zI κ soPlanned (zR κ chSolver a0)) κ)) ∧
  (a1 = (12 : Int32) →
    nb (zI κ chPlayMade a0) ∧ Q (zI κ chPlayMade a0) κ)
theorem t_Ch_showsNow_0 {C : zC} {n0 : Nat} {Q : Int32 → zS → Prop}   {a0 : Nat} {a1 : Int32} {κ : zS} (W : zW C n0 κ) (Ta0 : zT κ a0 = 15) (F : w_Ch_showsNow_0 C n0 Q  a0 a1 κ) : zG C n0 6 mCh_showsNow 0 [some (.ref a0), some (.int a1)] [] κ (oI Q noX) := by
  unfold w_Ch_showsNow_0 at F
  refine y_iln dX12_showsNow_0 rfl ?_
  refine y_bi1 dX12_showsNow_1 zb_12 ?_
  refine y_iin (a1 = (12 : Int32)) dX12_showsNow_3 (t := 11) rfl rfl (fun c9 => ?_) (fun c9 => ?_)
  · replace F := F.1 c9
    refine y_iln dX12_showsNow_11 rfl ?_
    refine y_bi1 dX12_showsNow_12 zb_11 ?_
    refine y_iin (a1 = (11 : Int32)) dX12_showsNow_14 (t := 25) rfl rfl (fun c9 => ?_) (fun c9 => ?_)
    · replace F := F.1 c9
      refine y_aln dX12_showsNow_25 rfl ?_
      refine gf_X12_61 W dX12_showsNow_26 rfl Ta0 ?_
      refine gf_X12_142 dX12_showsNow_29 rfl (Or.inl (ty_chSolver W Ta0)) ?_
      refine y_in ((zI κ soSolved (zR κ chSolver a0)) = (0 : Int32)) dX12_showsNow_32 (t := 37) rfl rfl (fun c9 => ?_) (fun c9 => ?_)
      · replace F := F.1 c9
        refine y_iln dX12_showsNow_37 rfl ?_
        refine y_ic dX12_showsNow_38 zi_1 ?_
        refine y_ii ((1 : Int32) < a1) dX12_showsNow_39 (t := 52) rfl rfl (fun c9 => ?_) (fun c9 => ?_)
        · replace F := F.1 c9
          refine y_iln dX12_showsNow_52 rfl ?_
          refine y_bi1 dX12_showsNow_53 zb_10 ?_
          refine y_iin (a1 = (10 : Int32)) dX12_showsNow_55 (t := 70) rfl rfl (fun c9 => ?_) (fun c9 => ?_)
          · replace F := F.1 c9
            refine y_ic dX12_showsNow_70 zi_1 ?_
            refine y_goto dX12_showsNow_71 (t := 75) rfl ?_
            exact y_ri W dX12_showsNow_75 rfl (nb_nar nb_1) F
          · replace F := F.2 c9
            refine y_aln dX12_showsNow_58 rfl ?_
            refine gf_X12_70 W dX12_showsNow_59 rfl Ta0 ?_
            refine y_bi1 dX12_showsNow_62 zb_7 ?_
            replace F := F (ty_chOdds W Ta0)
            refine k_X12_332 W dX12_showsNow_64 rfl (Nat.le_of_ble_eq_true rfl) (Nat.le_of_ble_eq_true rfl) (Or.inl (ty_chOdds W Ta0)) F (fun r2 κ1 Wκ1 Mκ1 F => ?_) (fun _ _ h9 => False.elim h9)
            replace F := F Wκ1 Mκ1
            refine y_i (r2 = (0 : Int32)) dX12_showsNow_67 (t := 74) rfl rfl (fun c9 => ?_) (fun c9 => ?_)
            · replace F := F.1 c9
              refine y_ic dX12_showsNow_74 zi_0 ?_
              exact y_ri Wκ1 dX12_showsNow_75 rfl (nb_nar nb_0) F
            · replace F := F.2 c9
              refine y_ic dX12_showsNow_70 zi_1 ?_
              refine y_goto dX12_showsNow_71 (t := 75) rfl ?_
              exact y_ri Wκ1 dX12_showsNow_75 rfl (nb_nar nb_1) F
        · replace F := F.2 c9
          refine y_aln dX12_showsNow_42 rfl ?_
          refine gf_X12_70 W dX12_showsNow_43 rfl Ta0 ?_
          refine y_bi1 dX12_showsNow_46 zb_6 ?_
          replace F := F (ty_chOdds W Ta0)
          refine k_X12_332 W dX12_showsNow_48 rfl (Nat.le_of_ble_eq_true rfl) (Nat.le_of_ble_eq_true rfl) (Or.inl (ty_chOdds W Ta0)) F (fun r5 κ4 Wκ4 Mκ4 F => ?_) (fun _ _ h9 => False.elim h9)
          replace F := F Wκ4 Mκ4
          exact y_ri Wκ4 dX12_showsNow_51 rfl (nb_nar F.1) F.2
      · replace F := F.2 c9
        refine y_ic dX12_showsNow_35 zi_0 ?_
        exact y_ri W dX12_showsNow_36 rfl (nb_nar nb_0) F
    · replace F := F.2 c9
      refine y_aln dX12_showsNow_17 rfl ?_
      refine gf_X12_61 W dX12_showsNow_18 rfl Ta0 ?_
      refine gf_X12_145 dX12_showsNow_21 rfl (Or.inl (ty_chSolver W Ta0)) ?_
      exact y_ri W dX12_showsNow_24 rfl (nb_nar F.1) F.2
  · replace F := F.2 c9
    refine y_aln dX12_showsNow_6 rfl ?_
    refine gf_X12_148 dX12_showsNow_7 rfl (Or.inl Ta0) ?_
    exact y_ri W dX12_showsNow_10 rfl (nb_nar F.1) F.2

theorem Ch_showsNow_run {C : zC} {n0 : Nat} {Q : Int32 → zS → Prop} {a0 : Nat} {a1 : Int32} {κ : zS} (W : zW C n0 κ) (Ta0 : zT κ a0 = 15) (F : w_Ch_showsNow_0 C (zn κ) Q a0 a1 κ) : zRun C 6 mCh_showsNow [.ref a0, .int a1] κ (oI Q noX) := z_run (m_ent _ 0) (t_Ch_showsNow_0 (W.lo (Nat.le_trans W.1.2.1 W.1.2.2) (Nat.le_refl _)) Ta0 F)

theorem dX12_showPlay_0 : decode cX12_showPlay 0 = .ok (.aload_n 0, 1) := by decide +kernel
theorem dX12_showPlay_1 : decode cX12_showPlay 1 = .ok (.getfield 79, 3) := by decide +kernel
theorem dX12_showPlay_4 : decode cX12_showPlay 4 = .ok (.invokevirtual 335, 3) := by decide +kernel
theorem dX12_showPlay_7 : decode cX12_showPlay 7 = .ok (.aload_n 0, 1) := by decide +kernel
theorem dX12_showPlay_8 : decode cX12_showPlay 8 = .ok (.getfield 87, 3) := by decide +kernel
theorem dX12_showPlay_11 : decode cX12_showPlay 11 = .ok (.iconst 3, 1) := by decide +kernel
theorem dX12_showPlay_12 : decode cX12_showPlay 12 = .ok (.laload, 1) := by decide +kernel
theorem dX12_showPlay_13 : decode cX12_showPlay 13 = .ok (.lstore_n 1, 1) := by decide +kernel
theorem dX12_showPlay_14 : decode cX12_showPlay 14 = .ok (.iconst 0, 1) := by decide +kernel
theorem dX12_showPlay_15 : decode cX12_showPlay 15 = .ok (.istore_n 3, 1) := by decide +kernel
theorem dX12_showPlay_16 : decode cX12_showPlay 16 = .ok (.iload_n 3, 1) := by decide +kernel
theorem dX12_showPlay_17 : decode cX12_showPlay 17 = .ok (.i2l, 1) := by decide +kernel
theorem dX12_showPlay_18 : decode cX12_showPlay 18 = .ok (.lload_n 1, 1) := by decide +kernel
theorem dX12_showPlay_19 : decode cX12_showPlay 19 = .ok (.lcmp, 1) := by decide +kernel
theorem dX12_showPlay_20 : decode cX12_showPlay 20 = .ok (.ifCond .ge 46, 3) := by decide +kernel
theorem dX12_showPlay_23 : decode cX12_showPlay 23 = .ok (.iload_n 3, 1) := by decide +kernel
theorem dX12_showPlay_24 : decode cX12_showPlay 24 = .ok (.aload_n 0, 1) := by decide +kernel
theorem dX12_showPlay_25 : decode cX12_showPlay 25 = .ok (.getfield 94, 3) := by decide +kernel
theorem dX12_showPlay_28 : decode cX12_showPlay 28 = .ok (.arraylength, 1) := by decide +kernel
theorem dX12_showPlay_29 : decode cX12_showPlay 29 = .ok (.if_icmp .ge 37, 3) := by decide +kernel
theorem dX12_showPlay_32 : decode cX12_showPlay 32 = .ok (.iload_n 3, 1) := by decide +kernel
theorem dX12_showPlay_33 : decode cX12_showPlay 33 = .ok (.aload_n 0, 1) := by decide +kernel
theorem dX12_showPlay_34 : decode cX12_showPlay 34 = .ok (.getfield 97, 3) := by decide +kernel
theorem dX12_showPlay_37 : decode cX12_showPlay 37 = .ok (.arraylength, 1) := by decide +kernel
theorem dX12_showPlay_38 : decode cX12_showPlay 38 = .ok (.if_icmp .ge 28, 3) := by decide +kernel
theorem dX12_showPlay_41 : decode cX12_showPlay 41 = .ok (.aload_n 0, 1) := by decide +kernel
theorem dX12_showPlay_42 : decode cX12_showPlay 42 = .ok (.getfield 79, 3) := by decide +kernel
theorem dX12_showPlay_45 : decode cX12_showPlay 45 = .ok (.aload_n 0, 1) := by decide +kernel
theorem dX12_showPlay_46 : decode cX12_showPlay 46 = .ok (.getfield 94, 3) := by decide +kernel
theorem dX12_showPlay_49 : decode cX12_showPlay 49 = .ok (.iload_n 3, 1) := by decide +kernel
theorem dX12_showPlay_50 : decode cX12_showPlay 50 = .ok (.iaload, 1) := by decide +kernel
theorem dX12_showPlay_51 : decode cX12_showPlay 51 = .ok (.aload_n 0, 1) := by decide +kernel
theorem dX12_showPlay_52 : decode cX12_showPlay 52 = .ok (.getfield 97, 3) := by decide +kernel
theorem dX12_showPlay_55 : decode cX12_showPlay 55 = .ok (.iload_n 3, 1) := by decide +kernel
theorem dX12_showPlay_56 : decode cX12_showPlay 56 = .ok (.iaload, 1) := by decide +kernel
theorem dX12_showPlay_57 : decode cX12_showPlay 57 = .ok (.invokevirtual 338, 3) := by decide +kernel
theorem dX12_showPlay_60 : decode cX12_showPlay 60 = .ok (.iinc 3 1, 3) := by decide +kernel
theorem dX12_showPlay_63 : decode cX12_showPlay 63 = .ok (.goto (-47), 3) := by decide +kernel
theorem dX12_showPlay_66 : decode cX12_showPlay 66 = .ok (.return_, 1) := by decide +kernel
def w_Ch_showPlay_16 (C : zC) (n0 : Nat) (Q : zS → Prop)  (a0 : Nat) (a1 : Int64) (a3 : Int32) (κ : zS) : Prop :=
  ∃ I : Nat → Nat → Int64 → Int32 → zS → Prop, (∃ n, I n a0 a1 a3 κ) ∧ ∀ n a0 a1 a3 κ, zW C n0 κ → zT κ a0 = 15 → I n a0 a1 a3 κ →
    ((0 : Int32) ≤ (lg_cmp (Int32.toInt64 a3) a1) →
      Q κ) ∧
    (¬ (0 : Int32) ≤ (lg_cmp (Int32.toInt64 a3) a1) →
      ((Int32.ofNat (zN κ (zR κ chDrawnWeights a0))) ≤ a3 →
        Q κ) ∧
      (¬ (Int32.ofNat (zN κ (zR κ chDrawnWeights a0))) ≤ a3 →
        ((Int32.ofNat (zN κ (zR κ chDrawnTotals a0))) ≤ a3 →
          Q κ) ∧
        (¬ (Int32.ofNat (zN κ (zR κ chDrawnTotals a0))) ≤ a3 →
          inb a3 (zN κ (zR κ chDrawnWeights a0)) ∧
          inb a3 (zN κ (zR κ chDrawnTotals a0)) ∧
          ∀ _ : zT κ (zR κ chShown a0) = 11,
          zRun C 4 mRa_scale [.ref (zR κ chShown a0), .int (zA κ (zR κ chDrawnWeights a0) (a3).toNatClampNeg), .int (zA κ (zR κ chDrawnTotals a0) (a3).toNatClampNeg)] κ (oV (fun κ1 =>
            ∀ _ : zW C n0 κ1,
            ∀ _ : zM (zn κ) κ κ1,
            ∀ v3_4 : Int32, v3_4 = a3 + (1 : Int32) →
            ∃ k < n, I k a0 a1 v3_4 κ1) noX))))
theorem t_Ch_showPlay_16 {C : zC} {n0 : Nat} {Q : zS → Prop}   {a0 : Nat} {a1 : Int64} {a3 : Int32} {κ : zS} (W : zW C n0 κ) (Ta0 : zT κ a0 = 15) (F : w_Ch_showPlay_16 C n0 Q  a0 a1 a3 κ) : zG C n0 5 mCh_showPlay 16 [some (.ref a0), some (.long a1), none, some (.int a3)] [] κ (oV Q noX) := by
  obtain ⟨I, ⟨m0, hI0⟩, F0⟩ := F
  have key : ∀ n a0 a1 a3 κ, zW C n0 κ → zT κ a0 = 15 → I n a0 a1 a3 κ → zG C n0 5 mCh_showPlay 16 [some (.ref a0), some (.long a1), none, some (.int a3)] [] κ (oV Q noX) := by
    intro n
    induction n using Nat.strongRecOn with
    | _ n ih =>
      intro a0 a1 a3 κ W Ta0 hI
      have F := F0 n a0 a1 a3 κ W Ta0 hI
      clear hI hI0
      refine y_iln dX12_showPlay_16 rfl ?_
      refine y_i2l dX12_showPlay_17 ?_
      refine y_lln dX12_showPlay_18 rfl ?_
      refine y_lcmp dX12_showPlay_19 ?_
      refine y_i ((0 : Int32) ≤ (lg_cmp (Int32.toInt64 a3) a1)) dX12_showPlay_20 (t := 66) rfl rfl (fun c9 => ?_) (fun c9 => ?_)
      · replace F := F.1 c9
        exact y_rv W dX12_showPlay_66 rfl F
      · replace F := F.2 c9
        refine y_iln dX12_showPlay_23 rfl ?_
        refine y_aln dX12_showPlay_24 rfl ?_
        refine gf_X12_94 W dX12_showPlay_25 rfl Ta0 ?_
        refine y_alen (t := 0) dX12_showPlay_28 (ty_chDrawnWeights W Ta0) (by decide) ?_
        refine y_ii ((Int32.ofNat (zN κ (zR κ chDrawnWeights a0))) ≤ a3) dX12_showPlay_29 (t := 66) rfl rfl (fun c9 => ?_) (fun c9 => ?_)
        · replace F := F.1 c9
          exact y_rv W dX12_showPlay_66 rfl F
        · replace F := F.2 c9
          refine y_iln dX12_showPlay_32 rfl ?_
          refine y_aln dX12_showPlay_33 rfl ?_
          refine gf_X12_97 W dX12_showPlay_34 rfl Ta0 ?_
          refine y_alen (t := 0) dX12_showPlay_37 (ty_chDrawnTotals W Ta0) (by decide) ?_
          refine y_ii ((Int32.ofNat (zN κ (zR κ chDrawnTotals a0))) ≤ a3) dX12_showPlay_38 (t := 66) rfl rfl (fun c9 => ?_) (fun c9 => ?_)
          · replace F := F.1 c9
            exact y_rv W dX12_showPlay_66 rfl F
          · replace F := F.2 c9
            refine y_aln dX12_showPlay_41 rfl ?_
            refine gf_X12_79 W dX12_showPlay_42 rfl Ta0 ?_
            refine y_aln dX12_showPlay_45 rfl ?_
            refine gf_X12_94 W dX12_showPlay_46 rfl Ta0 ?_
            refine y_iln dX12_showPlay_49 rfl ?_
            refine y_ald dX12_showPlay_50 (ty_chDrawnWeights W Ta0) F.1 ?_
            replace F := F.2
            refine y_aln dX12_showPlay_51 rfl ?_
            refine gf_X12_97 W dX12_showPlay_52 rfl Ta0 ?_
            refine y_iln dX12_showPlay_55 rfl ?_
            refine y_ald dX12_showPlay_56 (ty_chDrawnTotals W Ta0) F.1 ?_
            replace F := F.2
            replace F := F (ty_chShown W Ta0)
            refine k_X12_338 W dX12_showPlay_57 rfl (Nat.le_of_ble_eq_true rfl) (Nat.le_of_ble_eq_true rfl) (Or.inl (ty_chShown W Ta0)) F (fun  κ1 Wκ1 Mκ1 F => ?_) (fun _ _ h9 => False.elim h9)
            replace F := F Wκ1 Mκ1
            refine y_incb dX12_showPlay_60 zi_1 rfl (Nat.le_of_ble_eq_true rfl) (fun v3_4 ev3_4 => ?_)
            replace F := F v3_4 ev3_4
            show zG _ _ _ _ _ [some (.ref a0), some (.long a1), none, some (.int v3_4)] _ _ _
            refine y_goto dX12_showPlay_63 (t := 16) rfl ?_
            have h5 := (ztm W Mκ1 Ta0)
            obtain ⟨k, hk, hI⟩ := F
            exact y_k (ih k hk _ _ _ _ Wκ1 h5 hI) ⟨rfl, rfl, rfl, trivial⟩
  exact key m0 a0 a1 a3 κ W Ta0 hI0

def w_Ch_showPlay_0 (C : zC) (n0 : Nat) (Q : zS → Prop)  (a0 : Nat) (κ : zS) : Prop :=
  ∀ _ : zT κ (zR κ chShown a0) = 11,
  zRun C 1 mRa_putOne [.ref (zR κ chShown a0)] κ (oV (fun κ1 =>
    ∀ _ : zW C n0 κ1,
    ∀ _ : zM (zn κ) κ κ1,
    inb (3 : Int32) (zN κ1 (zR κ1 chRecord a0)) ∧
    ∀ v1_5 : Int64, v1_5 = (zJ κ1 (zR κ1 chRecord a0) ((3 : Int32)).toNatClampNeg) →
    w_Ch_showPlay_16 C n0 Q  a0 v1_5 (0 : Int32) κ1) noX)
theorem t_Ch_showPlay_0 {C : zC} {n0 : Nat} {Q : zS → Prop}   {a0 : Nat} {κ : zS} (W : zW C n0 κ) (Ta0 : zT κ a0 = 15) (F : w_Ch_showPlay_0 C n0 Q  a0 κ) : zG C n0 5 mCh_showPlay 0 [some (.ref a0), none, none, none] [] κ (oV Q noX) := by
  unfold w_Ch_showPlay_0 at F
  refine y_aln dX12_showPlay_0 rfl ?_
  refine gf_X12_79 W dX12_showPlay_1 rfl Ta0 ?_
  replace F := F (ty_chShown W Ta0)
  refine k_X12_335 W dX12_showPlay_4 rfl (Nat.le_of_ble_eq_true rfl) (Nat.le_of_ble_eq_true rfl) (Or.inl (ty_chShown W Ta0)) F (fun  κ1 Wκ1 Mκ1 F => ?_) (fun _ _ h9 => False.elim h9)
  replace F := F Wκ1 Mκ1
  refine y_aln dX12_showPlay_7 rfl ?_
  have h4 := (ztm W Mκ1 Ta0)
  refine gf_X12_87 Wκ1 dX12_showPlay_8 rfl h4 ?_
  refine y_ic dX12_showPlay_11 zi_3 ?_
  refine y_lld dX12_showPlay_12 (ty_chRecord Wκ1 h4) F.1 ?_
  replace F := F.2
  refine y_lsnb dX12_showPlay_13 (Nat.le_of_ble_eq_true rfl) (fun v1_5 ev1_5 => ?_)
  replace F := F v1_5 ev1_5
  show zG _ _ _ _ _ [some (.ref a0), some (.long v1_5), none, none] _ _ _
  refine y_ic dX12_showPlay_14 zi_0 ?_
  refine y_isn dX12_showPlay_15 (Nat.le_of_ble_eq_true rfl) rfl ?_
  show zG _ _ _ _ _ [some (.ref a0), some (.long v1_5), none, some (.int (0 : Int32))] _ _ _
  exact y_k (t_Ch_showPlay_16  Wκ1 h4 F) ⟨rfl, rfl, rfl, trivial⟩

theorem Ch_showPlay_run {C : zC} {n0 : Nat} {Q : zS → Prop} {a0 : Nat} {κ : zS} (W : zW C n0 κ) (Ta0 : zT κ a0 = 15) (F : w_Ch_showPlay_0 C (zn κ) Q a0 κ) : zRun C 5 mCh_showPlay [.ref a0] κ (oV Q noX) := z_run (m_ent _ 3) (t_Ch_showPlay_0 (W.lo (Nat.le_trans W.1.2.1 W.1.2.2) (Nat.le_refl _)) Ta0 F)

theorem dX12_show_0 : decode cX12_show 0 = .ok (.iload_n 1, 1) := by decide +kernel
theorem dX12_show_1 : decode cX12_show 1 = .ok (.ifCond .lt 9, 3) := by decide +kernel
theorem dX12_show_4 : decode cX12_show 4 = .ok (.iload_n 1, 1) := by decide +kernel
theorem dX12_show_5 : decode cX12_show 5 = .ok (.bipush 12, 2) := by decide +kernel
theorem dX12_show_7 : decode cX12_show 7 = .ok (.if_icmp .le 14, 3) := by decide +kernel
theorem dX12_show_10 : decode cX12_show 10 = .ok (.new 118, 3) := by decide +kernel
theorem dX12_show_13 : decode cX12_show 13 = .ok (.dup, 1) := by decide +kernel
theorem dX12_show_14 : decode cX12_show 14 = .ok (.ldc_w 256, 3) := by decide +kernel
theorem dX12_show_17 : decode cX12_show 17 = .ok (.invokespecial 122, 3) := by decide +kernel
theorem dX12_show_20 : decode cX12_show 20 = .ok (.athrow, 1) := by decide +kernel
theorem dX12_show_21 : decode cX12_show 21 = .ok (.aload_n 0, 1) := by decide +kernel
theorem dX12_show_22 : decode cX12_show 22 = .ok (.iload_n 1, 1) := by decide +kernel
theorem dX12_show_23 : decode cX12_show 23 = .ok (.invokevirtual 258, 3) := by decide +kernel
theorem dX12_show_26 : decode cX12_show 26 = .ok (.ifCond .ne 14, 3) := by decide +kernel
theorem dX12_show_29 : decode cX12_show 29 = .ok (.new 126, 3) := by decide +kernel
theorem dX12_show_32 : decode cX12_show 32 = .ok (.dup, 1) := by decide +kernel
theorem dX12_show_33 : decode cX12_show 33 = .ok (.ldc_w 261, 3) := by decide +kernel
theorem dX12_show_36 : decode cX12_show 36 = .ok (.invokespecial 166, 3) := by decide +kernel
theorem dX12_show_39 : decode cX12_show 39 = .ok (.athrow, 1) := by decide +kernel
theorem dX12_show_40 : decode cX12_show 40 = .ok (.iload_n 1, 1) := by decide +kernel
theorem dX12_show_41 : decode cX12_show 41 = .ok (.iconst 2, 1) := by decide +kernel
theorem dX12_show_42 : decode cX12_show 42 = .ok (.if_icmp .ne 14, 3) := by decide +kernel
theorem dX12_show_45 : decode cX12_show 45 = .ok (.aload_n 0, 1) := by decide +kernel
theorem dX12_show_46 : decode cX12_show 46 = .ok (.getfield 49, 3) := by decide +kernel
theorem dX12_show_49 : decode cX12_show 49 = .ok (.iload_n 2, 1) := by decide +kernel
theorem dX12_show_50 : decode cX12_show 50 = .ok (.invokevirtual 223, 3) := by decide +kernel
theorem dX12_show_53 : decode cX12_show 53 = .ok (.ifCond .eq 26, 3) := by decide +kernel
theorem dX12_show_56 : decode cX12_show 56 = .ok (.iload_n 1, 1) := by decide +kernel
theorem dX12_show_57 : decode cX12_show 57 = .ok (.bipush 8, 2) := by decide +kernel
theorem dX12_show_59 : decode cX12_show 59 = .ok (.if_icmp .eq 9, 3) := by decide +kernel
theorem dX12_show_62 : decode cX12_show 62 = .ok (.iload_n 1, 1) := by decide +kernel
theorem dX12_show_63 : decode cX12_show 63 = .ok (.bipush 11, 2) := by decide +kernel
theorem dX12_show_65 : decode cX12_show 65 = .ok (.if_icmp .ne 25, 3) := by decide +kernel
theorem dX12_show_68 : decode cX12_show 68 = .ok (.aload_n 0, 1) := by decide +kernel
theorem dX12_show_69 : decode cX12_show 69 = .ok (.getfield 49, 3) := by decide +kernel
theorem dX12_show_72 : decode cX12_show 72 = .ok (.iload_n 2, 1) := by decide +kernel
theorem dX12_show_73 : decode cX12_show 73 = .ok (.invokevirtual 173, 3) := by decide +kernel
theorem dX12_show_76 : decode cX12_show 76 = .ok (.ifCond .ne 14, 3) := by decide +kernel
theorem dX12_show_79 : decode cX12_show 79 = .ok (.new 154, 3) := by decide +kernel
theorem dX12_show_82 : decode cX12_show 82 = .ok (.dup, 1) := by decide +kernel
theorem dX12_show_83 : decode cX12_show 83 = .ok (.ldc_w 263, 3) := by decide +kernel
theorem dX12_show_86 : decode cX12_show 86 = .ok (.invokespecial 158, 3) := by decide +kernel
theorem dX12_show_89 : decode cX12_show 89 = .ok (.athrow, 1) := by decide +kernel
theorem dX12_show_90 : decode cX12_show 90 = .ok (.iload_n 1, 1) := by decide +kernel
theorem dX12_show_91 : decode cX12_show 91 = .ok (.bipush 12, 2) := by decide +kernel
theorem dX12_show_93 : decode cX12_show 93 = .ok (.if_icmp .ne 10, 3) := by decide +kernel
theorem dX12_show_96 : decode cX12_show 96 = .ok (.aload_n 0, 1) := by decide +kernel
theorem dX12_show_97 : decode cX12_show 97 = .ok (.invokevirtual 265, 3) := by decide +kernel
theorem dX12_show_100 : decode cX12_show 100 = .ok (.goto 69, 3) := by decide +kernel
theorem dX12_show_103 : decode cX12_show 103 = .ok (.iload_n 1, 1) := by decide +kernel
theorem dX12_show_104 : decode cX12_show 104 = .ok (.bipush 11, 2) := by decide +kernel
theorem dX12_show_106 : decode cX12_show 106 = .ok (.if_icmp .ne 22, 3) := by decide +kernel
theorem dX12_show_109 : decode cX12_show 109 = .ok (.aload_n 0, 1) := by decide +kernel
theorem dX12_show_110 : decode cX12_show 110 = .ok (.getfield 79, 3) := by decide +kernel
theorem dX12_show_113 : decode cX12_show 113 = .ok (.aload_n 0, 1) := by decide +kernel
theorem dX12_show_114 : decode cX12_show 114 = .ok (.getfield 61, 3) := by decide +kernel
theorem dX12_show_117 : decode cX12_show 117 = .ok (.getfield 268, 3) := by decide +kernel
theorem dX12_show_120 : decode cX12_show 120 = .ok (.iload_n 2, 1) := by decide +kernel
theorem dX12_show_121 : decode cX12_show 121 = .ok (.aaload, 1) := by decide +kernel
theorem dX12_show_122 : decode cX12_show 122 = .ok (.invokevirtual 272, 3) := by decide +kernel
theorem dX12_show_125 : decode cX12_show 125 = .ok (.goto 44, 3) := by decide +kernel
theorem dX12_show_128 : decode cX12_show 128 = .ok (.iload_n 1, 1) := by decide +kernel
theorem dX12_show_129 : decode cX12_show 129 = .ok (.bipush 7, 2) := by decide +kernel
theorem dX12_show_131 : decode cX12_show 131 = .ok (.if_icmp .lt 25, 3) := by decide +kernel
theorem dX12_show_134 : decode cX12_show 134 = .ok (.iload_n 1, 1) := by decide +kernel
theorem dX12_show_135 : decode cX12_show 135 = .ok (.bipush 9, 2) := by decide +kernel
theorem dX12_show_137 : decode cX12_show 137 = .ok (.if_icmp .gt 19, 3) := by decide +kernel
theorem dX12_show_140 : decode cX12_show 140 = .ok (.aload_n 0, 1) := by decide +kernel
theorem dX12_show_141 : decode cX12_show 141 = .ok (.getfield 61, 3) := by decide +kernel
theorem dX12_show_144 : decode cX12_show 144 = .ok (.iload_n 1, 1) := by decide +kernel
theorem dX12_show_145 : decode cX12_show 145 = .ok (.iload_n 2, 1) := by decide +kernel
theorem dX12_show_146 : decode cX12_show 146 = .ok (.aload_n 0, 1) := by decide +kernel
theorem dX12_show_147 : decode cX12_show 147 = .ok (.getfield 79, 3) := by decide +kernel
theorem dX12_show_150 : decode cX12_show 150 = .ok (.invokevirtual 276, 3) := by decide +kernel
theorem dX12_show_153 : decode cX12_show 153 = .ok (.goto 16, 3) := by decide +kernel
theorem dX12_show_156 : decode cX12_show 156 = .ok (.aload_n 0, 1) := by decide +kernel
theorem dX12_show_157 : decode cX12_show 157 = .ok (.getfield 70, 3) := by decide +kernel
theorem dX12_show_160 : decode cX12_show 160 = .ok (.iload_n 1, 1) := by decide +kernel
theorem dX12_show_161 : decode cX12_show 161 = .ok (.iload_n 2, 1) := by decide +kernel
theorem dX12_show_162 : decode cX12_show 162 = .ok (.aload_n 0, 1) := by decide +kernel
theorem dX12_show_163 : decode cX12_show 163 = .ok (.getfield 79, 3) := by decide +kernel
theorem dX12_show_166 : decode cX12_show 166 = .ok (.invokevirtual 280, 3) := by decide +kernel
theorem dX12_show_169 : decode cX12_show 169 = .ok (.aload_n 0, 1) := by decide +kernel
theorem dX12_show_170 : decode cX12_show 170 = .ok (.getfield 79, 3) := by decide +kernel
theorem dX12_show_173 : decode cX12_show 173 = .ok (.getfield 283, 3) := by decide +kernel
theorem dX12_show_176 : decode cX12_show 176 = .ok (.ireturn, 1) := by decide +kernel
def w_Ch_show_156 (C : zC) (n0 : Nat) (Q : Int32 → zS → Prop) (X : zXp)  (a0 : Nat) (a1 : Int32) (a2 : Int32) (κ : zS) : Prop :=
  ∀ _ : zT κ (zR κ chOdds a0) = 9,
  ∀ _ : zT κ (zR κ chShown a0) = 11,
  zRun C 7 mOd_showWeight [.ref (zR κ chOdds a0), .int a1, .int a2, .ref (zR κ chShown a0)] κ (oV (fun κ1 =>
    ∀ _ : zW C n0 κ1,
    ∀ _ : zM (zn κ) κ κ1,
    Q (zI κ1 raSign (zR κ1 chShown a0)) κ1) noX)
theorem t_Ch_show_156 {C : zC} {n0 : Nat} {Q : Int32 → zS → Prop} {X : zXp}   {a0 : Nat} {a1 : Int32} {a2 : Int32} {κ : zS} (W : zW C n0 κ) (Ta0 : zT κ a0 = 15) (F : w_Ch_show_156 C n0 Q X  a0 a1 a2 κ) : zG C n0 8 mCh_show 156 [some (.ref a0), some (.int a1), some (.int a2)] [] κ (oI Q X) := by
  unfold w_Ch_show_156 at F
  refine y_aln dX12_show_156 rfl ?_
  refine gf_X12_70 W dX12_show_157 rfl Ta0 ?_
  refine y_iln dX12_show_160 rfl ?_
  refine y_iln dX12_show_161 rfl ?_
  refine y_aln dX12_show_162 rfl ?_
  refine gf_X12_79 W dX12_show_163 rfl Ta0 ?_
  replace F := F (ty_chOdds W Ta0)
  replace F := F (ty_chShown W Ta0)
  refine k_X12_280 W dX12_show_166 rfl (Nat.le_of_ble_eq_true rfl) (Nat.le_of_ble_eq_true rfl) (Or.inl (ty_chOdds W Ta0)) F (fun  κ1 Wκ1 Mκ1 F => ?_) (fun _ _ h9 => False.elim h9)
  replace F := F Wκ1 Mκ1
  refine y_aln dX12_show_169 rfl ?_
  have h4 := (ztm W Mκ1 Ta0)
  refine gf_X12_79 Wκ1 dX12_show_170 rfl h4 ?_
  refine gf_X12_283 dX12_show_173 rfl (Or.inl (ty_chShown Wκ1 h4)) ?_
  exact y_ri Wκ1 dX12_show_176 rfl in_nar F

def w_Ch_show_90 (C : zC) (n0 : Nat) (Q : Int32 → zS → Prop) (X : zXp)  (a0 : Nat) (a1 : Int32) (a2 : Int32) (κ : zS) : Prop :=
  (¬ a1 = (12 : Int32) →
    (¬ a1 = (11 : Int32) →
      (a1 < (7 : Int32) →
        w_Ch_show_156 C n0 Q X  a0 a1 a2 κ) ∧
      (¬ a1 < (7 : Int32) →
        ((9 : Int32) < a1 →
          w_Ch_show_156 C n0 Q X  a0 a1 a2 κ) ∧
        (¬ (9 : Int32) < a1 →
          ∀ _ : zT κ (zR κ chSolver a0) = 12,
          ∀ _ : zT κ (zR κ chShown a0) = 11,
          zRun C 7 mSo_showVisits [.ref (zR κ chSolver a0), .int a1, .int a2, .ref (zR κ chShown a0)] κ (oV (fun κ1 =>
            ∀ _ : zW C n0 κ1,
            ∀ _ : zM (zn κ) κ κ1,
            Q (zI κ1 raSign (zR κ1 chShown a0)) κ1) noX)))) ∧
    (a1 = (11 : Int32) →
      inb a2 (zN κ (zR κ soWorths (zR κ chSolver a0))) ∧
      ∃ u5, (zQ κ (zR κ soWorths (zR κ chSolver a0)) (a2).toNatClampNeg) = some u5 ∧
      ∀ _ : zT κ (zR κ chShown a0) = 11,
      ∀ _ : zT κ u5 = 11,
      zRun C 2 mRa_copy [.ref (zR κ chShown a0), .ref u5] κ (oV (fun κ6 =>
        ∀ _ : zW C n0 κ6,
        ∀ _ : zM (zn κ) κ κ6,
        Q (zI κ6 raSign (zR κ6 chShown a0)) κ6) noX))) ∧
  (a1 = (12 : Int32) →
    ∀ _ : zT κ a0 = 15,
    zRun C 5 mCh_showPlay [.ref a0] κ (oV (fun κ10 =>
      ∀ _ : zW C n0 κ10,
      ∀ _ : zM (zn κ) κ κ10,
      Q (zI κ10 raSign (zR κ10 chShown a0)) κ10) noX))
theorem t_Ch_show_90 {C : zC} {n0 : Nat} {Q : Int32 → zS → Prop} {X : zXp}   {a0 : Nat} {a1 : Int32} {a2 : Int32} {κ : zS} (W : zW C n0 κ) (Ta0 : zT κ a0 = 15) (F : w_Ch_show_90 C n0 Q X  a0 a1 a2 κ) : zG C n0 8 mCh_show 90 [some (.ref a0), some (.int a1), some (.int a2)] [] κ (oI Q X) := by
  unfold w_Ch_show_90 at F
  refine y_iln dX12_show_90 rfl ?_
  refine y_bi1 dX12_show_91 zb_12 ?_
  refine y_iin (a1 = (12 : Int32)) dX12_show_93 (t := 103) rfl rfl (fun c9 => ?_) (fun c9 => ?_)
  · replace F := F.1 c9
    refine y_iln dX12_show_103 rfl ?_
    refine y_bi1 dX12_show_104 zb_11 ?_
    refine y_iin (a1 = (11 : Int32)) dX12_show_106 (t := 128) rfl rfl (fun c9 => ?_) (fun c9 => ?_)
    · replace F := F.1 c9
      refine y_iln dX12_show_128 rfl ?_
      refine y_bi1 dX12_show_129 zb_7 ?_
      refine y_ii (a1 < (7 : Int32)) dX12_show_131 (t := 156) rfl rfl (fun c9 => ?_) (fun c9 => ?_)
      · replace F := F.1 c9
        exact y_k (t_Ch_show_156  W Ta0 F) ⟨rfl, rfl, rfl, trivial⟩
      · replace F := F.2 c9
        refine y_iln dX12_show_134 rfl ?_
        refine y_bi1 dX12_show_135 zb_9 ?_
        refine y_ii ((9 : Int32) < a1) dX12_show_137 (t := 156) rfl rfl (fun c9 => ?_) (fun c9 => ?_)
        · replace F := F.1 c9
          exact y_k (t_Ch_show_156  W Ta0 F) ⟨rfl, rfl, rfl, trivial⟩
        · replace F := F.2 c9
          refine y_aln dX12_show_140 rfl ?_
          refine gf_X12_61 W dX12_show_141 rfl Ta0 ?_
          refine y_iln dX12_show_144 rfl ?_
          refine y_iln dX12_show_145 rfl ?_
          refine y_aln dX12_show_146 rfl ?_
          refine gf_X12_79 W dX12_show_147 rfl Ta0 ?_
          replace F := F (ty_chSolver W Ta0)
          replace F := F (ty_chShown W Ta0)
          refine k_X12_276 W dX12_show_150 rfl (Nat.le_of_ble_eq_true rfl) (Nat.le_of_ble_eq_true rfl) (Or.inl (ty_chSolver W Ta0)) F (fun  κ1 Wκ1 Mκ1 F => ?_) (fun _ _ h9 => False.elim h9)
          replace F := F Wκ1 Mκ1
          refine y_goto dX12_show_153 (t := 169) rfl ?_
          refine y_aln dX12_show_169 rfl ?_
          have h4 := (ztm W Mκ1 Ta0)
          refine gf_X12_79 Wκ1 dX12_show_170 rfl h4 ?_
          refine gf_X12_283 dX12_show_173 rfl (Or.inl (ty_chShown Wκ1 h4)) ?_
          exact y_ri Wκ1 dX12_show_176 rfl in_nar F
    · replace F := F.2 c9
      refine y_aln dX12_show_109 rfl ?_
      refine gf_X12_79 W dX12_show_110 rfl Ta0 ?_
      refine y_aln dX12_show_113 rfl ?_
      refine gf_X12_61 W dX12_show_114 rfl Ta0 ?_
      refine gf_X12_268 W dX12_show_117 rfl (ty_chSolver W Ta0) ?_
      refine y_iln dX12_show_120 rfl ?_
      refine y_qld (t := 5) dX12_show_121 (ty_soWorths W (ty_chSolver W Ta0)) (by decide) F.1 ?_
      replace F := F.2
      obtain ⟨u5, Eu5, F⟩ := F
      have Tu5 : zT κ u5 = 11 := (fun v hv => W.2.2.2.2.1 _ _ v (ty_soWorths W (ty_chSolver W Ta0)) hv) u5 Eu5
      refine y_uq0 Eu5 ?_
      replace F := F (ty_chShown W Ta0)
      replace F := F Tu5
      refine k_X12_272 W dX12_show_122 rfl (Nat.le_of_ble_eq_true rfl) (Nat.le_of_ble_eq_true rfl) (Or.inl (ty_chShown W Ta0)) F (fun  κ6 Wκ6 Mκ6 F => ?_) (fun _ _ h9 => False.elim h9)
      replace F := F Wκ6 Mκ6
      refine y_goto dX12_show_125 (t := 169) rfl ?_
      refine y_aln dX12_show_169 rfl ?_
      have h9 := (ztm W Mκ6 Ta0)
      refine gf_X12_79 Wκ6 dX12_show_170 rfl h9 ?_
      refine gf_X12_283 dX12_show_173 rfl (Or.inl (ty_chShown Wκ6 h9)) ?_
      exact y_ri Wκ6 dX12_show_176 rfl in_nar F
  · replace F := F.2 c9
    refine y_aln dX12_show_96 rfl ?_
    replace F := F Ta0
    refine k_X12_265 W dX12_show_97 rfl (Nat.le_of_ble_eq_true rfl) (Nat.le_of_ble_eq_true rfl) (Or.inl Ta0) F (fun  κ10 Wκ10 Mκ10 F => ?_) (fun _ _ h9 => False.elim h9)
    replace F := F Wκ10 Mκ10
    refine y_goto dX12_show_100 (t := 169) rfl ?_
    refine y_aln dX12_show_169 rfl ?_
    have h13 := (ztm W Mκ10 Ta0)
    refine gf_X12_79 Wκ10 dX12_show_170 rfl h13 ?_
    refine gf_X12_283 dX12_show_173 rfl (Or.inl (ty_chShown Wκ10 h13)) ?_
    exact y_ri Wκ10 dX12_show_176 rfl in_nar F

def w_Ch_show_68 (C : zC) (n0 : Nat) (Q : Int32 → zS → Prop) (X : zXp)  (a0 : Nat) (a1 : Int32) (a2 : Int32) (κ : zS) : Prop :=
  ∀ _ : zT κ (zR κ chAtlas a0) = 3,
  zRun C 0 mAt_holds [.ref (zR κ chAtlas a0), .int a2] κ (oI (fun r2 κ1 =>
    ∀ _ : zW C n0 κ1,
    ∀ _ : zM (zn κ) κ κ1,
    (¬ r2 = (0 : Int32) →
      w_Ch_show_90 C n0 Q X  a0 a1 a2 κ1) ∧
    (r2 = (0 : Int32) →
      ∀ κ5, κ5 = ut κ1 → X "java/lang/IndexOutOfBoundsException" κ5)) noX)
theorem t_Ch_show_68 {C : zC} {n0 : Nat} {Q : Int32 → zS → Prop} {X : zXp}   {a0 : Nat} {a1 : Int32} {a2 : Int32} {κ : zS} (W : zW C n0 κ) (Ta0 : zT κ a0 = 15) (F : w_Ch_show_68 C n0 Q X  a0 a1 a2 κ) : zG C n0 8 mCh_show 68 [some (.ref a0), some (.int a1), some (.int a2)] [] κ (oI Q X) := by
  unfold w_Ch_show_68 at F
  refine y_aln dX12_show_68 rfl ?_
  refine gf_X12_49 W dX12_show_69 rfl Ta0 ?_
  refine y_iln dX12_show_72 rfl ?_
  replace F := F (ty_chAtlas W Ta0)
  refine k_X12_173 W dX12_show_73 rfl (Nat.le_of_ble_eq_true rfl) (Nat.le_of_ble_eq_true rfl) (Or.inl (ty_chAtlas W Ta0)) F (fun r2 κ1 Wκ1 Mκ1 F => ?_) (fun _ _ h9 => False.elim h9)
  replace F := F Wκ1 Mκ1
  refine y_in (r2 = (0 : Int32)) dX12_show_76 (t := 90) rfl rfl (fun c9 => ?_) (fun c9 => ?_)
  · replace F := F.1 c9
    have h4 := (ztm W Mκ1 Ta0)
    exact y_k (t_Ch_show_90  Wκ1 h4 F) ⟨rfl, rfl, rfl, trivial⟩
  · replace F := F.2 c9
    exact y_thr Wκ1 (dxat_yesw dX12_show_79 dX12_show_82 dX12_show_83 dX12_show_86 dX12_show_89 rfl rfl rfl) (Nat.le_of_ble_eq_true rfl) (Nat.le_of_ble_eq_true rfl) (fun κ9 e9 => Or.inr ⟨_, rfl, F κ9 e9⟩)

def w_Ch_show_56 (C : zC) (n0 : Nat) (Q : Int32 → zS → Prop) (X : zXp)  (a0 : Nat) (a1 : Int32) (a2 : Int32) (κ : zS) : Prop :=
  (a1 = (8 : Int32) →
    w_Ch_show_68 C n0 Q X  a0 a1 a2 κ) ∧
  (¬ a1 = (8 : Int32) →
    (¬ a1 = (11 : Int32) →
      w_Ch_show_90 C n0 Q X  a0 a1 a2 κ) ∧
    (a1 = (11 : Int32) →
      w_Ch_show_68 C n0 Q X  a0 a1 a2 κ))
theorem t_Ch_show_56 {C : zC} {n0 : Nat} {Q : Int32 → zS → Prop} {X : zXp}   {a0 : Nat} {a1 : Int32} {a2 : Int32} {κ : zS} (W : zW C n0 κ) (Ta0 : zT κ a0 = 15) (F : w_Ch_show_56 C n0 Q X  a0 a1 a2 κ) : zG C n0 8 mCh_show 56 [some (.ref a0), some (.int a1), some (.int a2)] [] κ (oI Q X) := by
  unfold w_Ch_show_56 at F
  refine y_iln dX12_show_56 rfl ?_
  refine y_bi1 dX12_show_57 zb_8 ?_
  refine y_ii (a1 = (8 : Int32)) dX12_show_59 (t := 68) rfl rfl (fun c9 => ?_) (fun c9 => ?_)
  · replace F := F.1 c9
    exact y_k (t_Ch_show_68  W Ta0 F) ⟨rfl, rfl, rfl, trivial⟩
  · replace F := F.2 c9
    refine y_iln dX12_show_62 rfl ?_
    refine y_bi1 dX12_show_63 zb_11 ?_
    refine y_iin (a1 = (11 : Int32)) dX12_show_65 (t := 90) rfl rfl (fun c9 => ?_) (fun c9 => ?_)
    · replace F := F.1 c9
      exact y_k (t_Ch_show_90  W Ta0 F) ⟨rfl, rfl, rfl, trivial⟩
    · replace F := F.2 c9
      exact y_k (t_Ch_show_68  W Ta0 F) ⟨rfl, rfl, rfl, trivial⟩

def w_Ch_show_0 (C : zC) (n0 : Nat) (Q : Int32 → zS → Prop) (X : zXp)  (a0 : Nat) (a1 : Int32) (a2 : Int32) (κ : zS) : Prop :=
  (a1 < (0 : Int32) →
    ∀ κ1, κ1 = ut κ → X "java/lang/IllegalArgumentException" κ1) ∧
  (¬ a1 < (0 : Int32) →
    (a1 ≤ (12 : Int32) →
      ∀ _ : zT κ a0 = 15,
      zRun C 6 mCh_showsNow [.ref a0, .int a1] κ (oI (fun r3 κ2 =>
        ∀ _ : zW C n0 κ2,
        ∀ _ : zM (zn κ) κ κ2,
        (¬ r3 = (0 : Int32) →
          (¬ a1 = (2 : Int32) →
            w_Ch_show_56 C n0 Q X  a0 a1 a2 κ2) ∧
          (a1 = (2 : Int32) →
            ∀ _ : zT κ2 (zR κ2 chAtlas a0) = 3,
            zRun C 0 mAt_holdsEnding [.ref (zR κ2 chAtlas a0), .int a2] κ2 (oI (fun r8 κ7 =>
              ∀ _ : zW C n0 κ7,
              ∀ _ : zM (zn κ2) κ2 κ7,
              (r8 = (0 : Int32) →
                ∀ κ10, κ10 = ut κ7 → X "java/lang/IndexOutOfBoundsException" κ10) ∧
              (¬ r8 = (0 : Int32) →
                w_Ch_show_56 C n0 Q X  a0 a1 a2 κ7)) noX))) ∧
        (r3 = (0 : Int32) →
          ∀ κ12, κ12 = ut κ2 → X "java/lang/IllegalStateException" κ12)) noX)) ∧
    (¬ a1 ≤ (12 : Int32) →
      ∀ κ13, κ13 = ut κ → X "java/lang/IllegalArgumentException" κ13))
theorem t_Ch_show_0 {C : zC} {n0 : Nat} {Q : Int32 → zS → Prop} {X : zXp}   {a0 : Nat} {a1 : Int32} {a2 : Int32} {κ : zS} (W : zW C n0 κ) (Ta0 : zT κ a0 = 15) (F : w_Ch_show_0 C n0 Q X  a0 a1 a2 κ) : zG C n0 8 mCh_show 0 [some (.ref a0), some (.int a1), some (.int a2)] [] κ (oI Q X) := by
  unfold w_Ch_show_0 at F
  refine y_iln dX12_show_0 rfl ?_
  refine y_i (a1 < (0 : Int32)) dX12_show_1 (t := 10) rfl rfl (fun c9 => ?_) (fun c9 => ?_)
  · replace F := F.1 c9
    exact y_thr W (dxat_yesw dX12_show_10 dX12_show_13 dX12_show_14 dX12_show_17 dX12_show_20 rfl rfl rfl) (Nat.le_of_ble_eq_true rfl) (Nat.le_of_ble_eq_true rfl) (fun κ9 e9 => Or.inr ⟨_, rfl, F κ9 e9⟩)
  · replace F := F.2 c9
    refine y_iln dX12_show_4 rfl ?_
    refine y_bi1 dX12_show_5 zb_12 ?_
    refine y_ii (a1 ≤ (12 : Int32)) dX12_show_7 (t := 21) rfl rfl (fun c9 => ?_) (fun c9 => ?_)
    · replace F := F.1 c9
      refine y_aln dX12_show_21 rfl ?_
      refine y_iln dX12_show_22 rfl ?_
      replace F := F Ta0
      refine k_X12_258 W dX12_show_23 rfl (Nat.le_of_ble_eq_true rfl) (Nat.le_of_ble_eq_true rfl) (Or.inl Ta0) F (fun r3 κ2 Wκ2 Mκ2 F => ?_) (fun _ _ h9 => False.elim h9)
      replace F := F Wκ2 Mκ2
      refine y_in (r3 = (0 : Int32)) dX12_show_26 (t := 40) rfl rfl (fun c9 => ?_) (fun c9 => ?_)
      · replace F := F.1 c9
        refine y_iln dX12_show_40 rfl ?_
        refine y_ic dX12_show_41 zi_2 ?_
        refine y_iin (a1 = (2 : Int32)) dX12_show_42 (t := 56) rfl rfl (fun c9 => ?_) (fun c9 => ?_)
        · replace F := F.1 c9
          have h5 := (ztm W Mκ2 Ta0)
          exact y_k (t_Ch_show_56  Wκ2 h5 F) ⟨rfl, rfl, rfl, trivial⟩
        · replace F := F.2 c9
          refine y_aln dX12_show_45 rfl ?_
          have h6 := (ztm W Mκ2 Ta0)
          refine gf_X12_49 Wκ2 dX12_show_46 rfl h6 ?_
          refine y_iln dX12_show_49 rfl ?_
          replace F := F (ty_chAtlas Wκ2 h6)
          refine k_X12_223 Wκ2 dX12_show_50 rfl (Nat.le_of_ble_eq_true rfl) (Nat.le_of_ble_eq_true rfl) (Or.inl (ty_chAtlas Wκ2 h6)) F (fun r8 κ7 Wκ7 Mκ7 F => ?_) (fun _ _ h9 => False.elim h9)
          replace F := F Wκ7 Mκ7
          refine y_i (r8 = (0 : Int32)) dX12_show_53 (t := 79) rfl rfl (fun c9 => ?_) (fun c9 => ?_)
          · replace F := F.1 c9
            exact y_thr Wκ7 (dxat_yesw dX12_show_79 dX12_show_82 dX12_show_83 dX12_show_86 dX12_show_89 rfl rfl rfl) (Nat.le_of_ble_eq_true rfl) (Nat.le_of_ble_eq_true rfl) (fun κ9 e9 => Or.inr ⟨_, rfl, F κ9 e9⟩)
          · replace F := F.2 c9
            have h11 := (ztm Wκ2 Mκ7 h6)
            exact y_k (t_Ch_show_56  Wκ7 h11 F) ⟨rfl, rfl, rfl, trivial⟩
      · replace F := F.2 c9
        exact y_thr Wκ2 (dxat_yesw dX12_show_29 dX12_show_32 dX12_show_33 dX12_show_36 dX12_show_39 rfl rfl rfl) (Nat.le_of_ble_eq_true rfl) (Nat.le_of_ble_eq_true rfl) (fun κ9 e9 => Or.inr ⟨_, rfl, F κ9 e9⟩)
    · replace F := F.2 c9
      exact y_thr W (dxat_yesw dX12_show_10 dX12_show_13 dX12_show_14 dX12_show_17 dX12_show_20 rfl rfl rfl) (Nat.le_of_ble_eq_true rfl) (Nat.le_of_ble_eq_true rfl) (fun κ9 e9 => Or.inr ⟨_, rfl, F κ9 e9⟩)

theorem Ch_show_run {C : zC} {n0 : Nat} {Q : Int32 → zS → Prop} {X : zXp} {a0 : Nat} {a1 : Int32} {a2 : Int32} {κ : zS} (W : zW C n0 κ) (Ta0 : zT κ a0 = 15) (F : w_Ch_show_0 C (zn κ) Q X a0 a1 a2 κ) : zRun C 8 mCh_show [.ref a0, .int a1, .int a2] κ (oI Q X) := z_run (m_ent _ 0) (t_Ch_show_0 (W.lo (Nat.le_trans W.1.2.1 W.1.2.2) (Nat.le_refl _)) Ta0 F)

theorem dX12_size_0 : decode cX12_size 0 = .ok (.iload_n 1, 1) := by decide +kernel
theorem dX12_size_1 : decode cX12_size 1 = .ok (.ifCond .lt 8, 3) := by decide +kernel
theorem dX12_size_4 : decode cX12_size 4 = .ok (.iload_n 1, 1) := by decide +kernel
theorem dX12_size_5 : decode cX12_size 5 = .ok (.iconst 1, 1) := by decide +kernel
theorem dX12_size_6 : decode cX12_size 6 = .ok (.if_icmp .le 14, 3) := by decide +kernel
theorem dX12_size_9 : decode cX12_size 9 = .ok (.new 154, 3) := by decide +kernel
theorem dX12_size_12 : decode cX12_size 12 = .ok (.dup, 1) := by decide +kernel
theorem dX12_size_13 : decode cX12_size 13 = .ok (.ldc_w 286, 3) := by decide +kernel
theorem dX12_size_16 : decode cX12_size 16 = .ok (.invokespecial 158, 3) := by decide +kernel
theorem dX12_size_19 : decode cX12_size 19 = .ok (.athrow, 1) := by decide +kernel
theorem dX12_size_20 : decode cX12_size 20 = .ok (.iload_n 1, 1) := by decide +kernel
theorem dX12_size_21 : decode cX12_size 21 = .ok (.ifCond .ne 16, 3) := by decide +kernel
theorem dX12_size_24 : decode cX12_size 24 = .ok (.aload_n 0, 1) := by decide +kernel
theorem dX12_size_25 : decode cX12_size 25 = .ok (.getfield 79, 3) := by decide +kernel
theorem dX12_size_28 : decode cX12_size 28 = .ok (.getfield 288, 3) := by decide +kernel
theorem dX12_size_31 : decode cX12_size 31 = .ok (.invokevirtual 292, 3) := by decide +kernel
theorem dX12_size_34 : decode cX12_size 34 = .ok (.goto 13, 3) := by decide +kernel
theorem dX12_size_37 : decode cX12_size 37 = .ok (.aload_n 0, 1) := by decide +kernel
theorem dX12_size_38 : decode cX12_size 38 = .ok (.getfield 79, 3) := by decide +kernel
theorem dX12_size_41 : decode cX12_size 41 = .ok (.getfield 297, 3) := by decide +kernel
theorem dX12_size_44 : decode cX12_size 44 = .ok (.invokevirtual 292, 3) := by decide +kernel
theorem dX12_size_47 : decode cX12_size 47 = .ok (.ireturn, 1) := by decide +kernel
def w_Ch_size_0 (C : zC) (n0 : Nat) (Q : Int32 → zS → Prop) (X : zXp)  (a0 : Nat) (a1 : Int32) (κ : zS) : Prop :=
  (a1 < (0 : Int32) →
    ∀ κ1, κ1 = ut κ → X "java/lang/IndexOutOfBoundsException" κ1) ∧
  (¬ a1 < (0 : Int32) →
    (a1 ≤ (1 : Int32) →
      (¬ a1 = (0 : Int32) →
        ∀ _ : zT κ (zR κ raBottom (zR κ chShown a0)) = 8,
        zRun C 1 mNu_words [.ref (zR κ raBottom (zR κ chShown a0))] κ (oI (fun r3 κ2 =>
          ∀ _ : zW C n0 κ2,
          ∀ _ : zM (zn κ) κ κ2,
          Q r3 κ2) noX)) ∧
      (a1 = (0 : Int32) →
        ∀ _ : zT κ (zR κ raTop (zR κ chShown a0)) = 8,
        zRun C 1 mNu_words [.ref (zR κ raTop (zR κ chShown a0))] κ (oI (fun r6 κ5 =>
          ∀ _ : zW C n0 κ5,
          ∀ _ : zM (zn κ) κ κ5,
          Q r6 κ5) noX))) ∧
    (¬ a1 ≤ (1 : Int32) →
      ∀ κ8, κ8 = ut κ → X "java/lang/IndexOutOfBoundsException" κ8))
theorem t_Ch_size_0 {C : zC} {n0 : Nat} {Q : Int32 → zS → Prop} {X : zXp}   {a0 : Nat} {a1 : Int32} {κ : zS} (W : zW C n0 κ) (Ta0 : zT κ a0 = 15) (F : w_Ch_size_0 C n0 Q X  a0 a1 κ) : zG C n0 8 mCh_size 0 [some (.ref a0), some (.int a1)] [] κ (oI Q X) := by
  unfold w_Ch_size_0 at F
  refine y_iln dX12_size_0 rfl ?_
  refine y_i (a1 < (0 : Int32)) dX12_size_1 (t := 9) rfl rfl (fun c9 => ?_) (fun c9 => ?_)
  · replace F := F.1 c9
    exact y_thr W (dxat_yesw dX12_size_9 dX12_size_12 dX12_size_13 dX12_size_16 dX12_size_19 rfl rfl rfl) (Nat.le_of_ble_eq_true rfl) (Nat.le_of_ble_eq_true rfl) (fun κ9 e9 => Or.inr ⟨_, rfl, F κ9 e9⟩)
  · replace F := F.2 c9
    refine y_iln dX12_size_4 rfl ?_
    refine y_ic dX12_size_5 zi_1 ?_
    refine y_ii (a1 ≤ (1 : Int32)) dX12_size_6 (t := 20) rfl rfl (fun c9 => ?_) (fun c9 => ?_)
    · replace F := F.1 c9
      refine y_iln dX12_size_20 rfl ?_
      refine y_in (a1 = (0 : Int32)) dX12_size_21 (t := 37) rfl rfl (fun c9 => ?_) (fun c9 => ?_)
      · replace F := F.1 c9
        refine y_aln dX12_size_37 rfl ?_
        refine gf_X12_79 W dX12_size_38 rfl Ta0 ?_
        refine gf_X12_297 W dX12_size_41 rfl (ty_chShown W Ta0) ?_
        replace F := F (ty_raBottom W (ty_chShown W Ta0))
        refine k_X12_292 W dX12_size_44 rfl (Nat.le_of_ble_eq_true rfl) (Nat.le_of_ble_eq_true rfl) (Or.inl (ty_raBottom W (ty_chShown W Ta0))) F (fun r3 κ2 Wκ2 Mκ2 F => ?_) (fun _ _ h9 => False.elim h9)
        replace F := F Wκ2 Mκ2
        exact y_ri Wκ2 dX12_size_47 rfl in_nar F
      · replace F := F.2 c9
        refine y_aln dX12_size_24 rfl ?_
        refine gf_X12_79 W dX12_size_25 rfl Ta0 ?_
        refine gf_X12_288 W dX12_size_28 rfl (ty_chShown W Ta0) ?_
        replace F := F (ty_raTop W (ty_chShown W Ta0))
        refine k_X12_292 W dX12_size_31 rfl (Nat.le_of_ble_eq_true rfl) (Nat.le_of_ble_eq_true rfl) (Or.inl (ty_raTop W (ty_chShown W Ta0))) F (fun r6 κ5 Wκ5 Mκ5 F => ?_) (fun _ _ h9 => False.elim h9)
        replace F := F Wκ5 Mκ5
        refine y_goto dX12_size_34 (t := 47) rfl ?_
        exact y_ri Wκ5 dX12_size_47 rfl in_nar F
    · replace F := F.2 c9
      exact y_thr W (dxat_yesw dX12_size_9 dX12_size_12 dX12_size_13 dX12_size_16 dX12_size_19 rfl rfl rfl) (Nat.le_of_ble_eq_true rfl) (Nat.le_of_ble_eq_true rfl) (fun κ9 e9 => Or.inr ⟨_, rfl, F κ9 e9⟩)

theorem Ch_size_run {C : zC} {n0 : Nat} {Q : Int32 → zS → Prop} {X : zXp} {a0 : Nat} {a1 : Int32} {κ : zS} (W : zW C n0 κ) (Ta0 : zT κ a0 = 15) (F : w_Ch_size_0 C (zn κ) Q X a0 a1 κ) : zRun C 8 mCh_size [.ref a0, .int a1] κ (oI Q X) := z_run (m_ent _ 0) (t_Ch_size_0 (W.lo (Nat.le_trans W.1.2.1 W.1.2.2) (Nat.le_refl _)) Ta0 F)

theorem dX12_limb_0 : decode cX12_limb 0 = .ok (.iload_n 1, 1) := by decide +kernel
theorem dX12_limb_1 : decode cX12_limb 1 = .ok (.ifCond .lt 8, 3) := by decide +kernel
theorem dX12_limb_4 : decode cX12_limb 4 = .ok (.iload_n 1, 1) := by decide +kernel
theorem dX12_limb_5 : decode cX12_limb 5 = .ok (.iconst 1, 1) := by decide +kernel
theorem dX12_limb_6 : decode cX12_limb 6 = .ok (.if_icmp .le 14, 3) := by decide +kernel
theorem dX12_limb_9 : decode cX12_limb 9 = .ok (.new 154, 3) := by decide +kernel
theorem dX12_limb_12 : decode cX12_limb 12 = .ok (.dup, 1) := by decide +kernel
theorem dX12_limb_13 : decode cX12_limb 13 = .ok (.ldc_w 286, 3) := by decide +kernel
theorem dX12_limb_16 : decode cX12_limb 16 = .ok (.invokespecial 158, 3) := by decide +kernel
theorem dX12_limb_19 : decode cX12_limb 19 = .ok (.athrow, 1) := by decide +kernel
theorem dX12_limb_20 : decode cX12_limb 20 = .ok (.iload_n 1, 1) := by decide +kernel
theorem dX12_limb_21 : decode cX12_limb 21 = .ok (.ifCond .ne 13, 3) := by decide +kernel
theorem dX12_limb_24 : decode cX12_limb 24 = .ok (.aload_n 0, 1) := by decide +kernel
theorem dX12_limb_25 : decode cX12_limb 25 = .ok (.getfield 79, 3) := by decide +kernel
theorem dX12_limb_28 : decode cX12_limb 28 = .ok (.getfield 288, 3) := by decide +kernel
theorem dX12_limb_31 : decode cX12_limb 31 = .ok (.goto 10, 3) := by decide +kernel
theorem dX12_limb_34 : decode cX12_limb 34 = .ok (.aload_n 0, 1) := by decide +kernel
theorem dX12_limb_35 : decode cX12_limb 35 = .ok (.getfield 79, 3) := by decide +kernel
theorem dX12_limb_38 : decode cX12_limb 38 = .ok (.getfield 297, 3) := by decide +kernel
theorem dX12_limb_41 : decode cX12_limb 41 = .ok (.astore_n 3, 1) := by decide +kernel
theorem dX12_limb_42 : decode cX12_limb 42 = .ok (.iload_n 2, 1) := by decide +kernel
theorem dX12_limb_43 : decode cX12_limb 43 = .ok (.ifCond .lt 11, 3) := by decide +kernel
theorem dX12_limb_46 : decode cX12_limb 46 = .ok (.iload_n 2, 1) := by decide +kernel
theorem dX12_limb_47 : decode cX12_limb 47 = .ok (.aload_n 3, 1) := by decide +kernel
theorem dX12_limb_48 : decode cX12_limb 48 = .ok (.invokevirtual 292, 3) := by decide +kernel
theorem dX12_limb_51 : decode cX12_limb 51 = .ok (.if_icmp .lt 14, 3) := by decide +kernel
theorem dX12_limb_54 : decode cX12_limb 54 = .ok (.new 154, 3) := by decide +kernel
theorem dX12_limb_57 : decode cX12_limb 57 = .ok (.dup, 1) := by decide +kernel
theorem dX12_limb_58 : decode cX12_limb 58 = .ok (.ldc_w 300, 3) := by decide +kernel
theorem dX12_limb_61 : decode cX12_limb 61 = .ok (.invokespecial 158, 3) := by decide +kernel
theorem dX12_limb_64 : decode cX12_limb 64 = .ok (.athrow, 1) := by decide +kernel
theorem dX12_limb_65 : decode cX12_limb 65 = .ok (.aload_n 3, 1) := by decide +kernel
theorem dX12_limb_66 : decode cX12_limb 66 = .ok (.iload_n 2, 1) := by decide +kernel
theorem dX12_limb_67 : decode cX12_limb 67 = .ok (.invokevirtual 302, 3) := by decide +kernel
theorem dX12_limb_70 : decode cX12_limb 70 = .ok (.ireturn, 1) := by decide +kernel
def w_Ch_limb_41 (C : zC) (n0 : Nat) (Q : Int32 → zS → Prop) (X : zXp)  (a0 : Nat) (a2 : Int32) (s0 : Nat) (κ : zS) : Prop :=
  (a2 < (0 : Int32) →
    ∀ κ1, κ1 = ut κ → X "java/lang/IndexOutOfBoundsException" κ1) ∧
  (¬ a2 < (0 : Int32) →
    ∀ _ : zT κ s0 = 8,
    zRun C 1 mNu_words [.ref s0] κ (oI (fun r3 κ2 =>
      ∀ _ : zW C n0 κ2,
      ∀ _ : zM (zn κ) κ κ2,
      (a2 < r3 →
        ∀ _ : zT κ2 s0 = 8,
        zRun C 0 mNu_word [.ref s0, .int a2] κ2 (oI (fun r6 κ5 =>
          ∀ _ : zW C n0 κ5,
          ∀ _ : zM (zn κ2) κ2 κ5,
          Q r6 κ5) noX)) ∧
      (¬ a2 < r3 →
        ∀ κ9, κ9 = ut κ2 → X "java/lang/IndexOutOfBoundsException" κ9)) noX))
theorem t_Ch_limb_41 {C : zC} {n0 : Nat} {Q : Int32 → zS → Prop} {X : zXp}   {a0 : Nat} {a2 : Int32} {s0 : Nat} {κ : zS} (W : zW C n0 κ) (Ta0 : zT κ a0 = 15) (Ts0 : zT κ s0 = 8) (F : w_Ch_limb_41 C n0 Q X  a0 a2 s0 κ) : zG C n0 8 mCh_limb 41 [some (.ref a0), none, some (.int a2), none] [.ref s0] κ (oI Q X) := by
  unfold w_Ch_limb_41 at F
  refine y_asn dX12_limb_41 (Nat.le_of_ble_eq_true rfl) rfl ?_
  show zG _ _ _ _ _ [some (.ref a0), none, some (.int a2), some (.ref s0)] _ _ _
  refine y_iln dX12_limb_42 rfl ?_
  refine y_i (a2 < (0 : Int32)) dX12_limb_43 (t := 54) rfl rfl (fun c9 => ?_) (fun c9 => ?_)
  · replace F := F.1 c9
    exact y_thr W (dxat_yesw dX12_limb_54 dX12_limb_57 dX12_limb_58 dX12_limb_61 dX12_limb_64 rfl rfl rfl) (Nat.le_of_ble_eq_true rfl) (Nat.le_of_ble_eq_true rfl) (fun κ9 e9 => Or.inr ⟨_, rfl, F κ9 e9⟩)
  · replace F := F.2 c9
    refine y_iln dX12_limb_46 rfl ?_
    refine y_aln dX12_limb_47 rfl ?_
    replace F := F Ts0
    refine k_X12_292 W dX12_limb_48 rfl (Nat.le_of_ble_eq_true rfl) (Nat.le_of_ble_eq_true rfl) (Or.inl Ts0) F (fun r3 κ2 Wκ2 Mκ2 F => ?_) (fun _ _ h9 => False.elim h9)
    replace F := F Wκ2 Mκ2
    refine y_ii (a2 < r3) dX12_limb_51 (t := 65) rfl rfl (fun c9 => ?_) (fun c9 => ?_)
    · replace F := F.1 c9
      refine y_aln dX12_limb_65 rfl ?_
      refine y_iln dX12_limb_66 rfl ?_
      have h7 := (ztm W Mκ2 Ts0)
      replace F := F h7
      refine k_X12_302 Wκ2 dX12_limb_67 rfl (Nat.le_of_ble_eq_true rfl) (Nat.le_of_ble_eq_true rfl) (Or.inl h7) F (fun r6 κ5 Wκ5 Mκ5 F => ?_) (fun _ _ h9 => False.elim h9)
      replace F := F Wκ5 Mκ5
      exact y_ri Wκ5 dX12_limb_70 rfl in_nar F
    · replace F := F.2 c9
      exact y_thr Wκ2 (dxat_yesw dX12_limb_54 dX12_limb_57 dX12_limb_58 dX12_limb_61 dX12_limb_64 rfl rfl rfl) (Nat.le_of_ble_eq_true rfl) (Nat.le_of_ble_eq_true rfl) (fun κ9 e9 => Or.inr ⟨_, rfl, F κ9 e9⟩)

def w_Ch_limb_0 (C : zC) (n0 : Nat) (Q : Int32 → zS → Prop) (X : zXp)  (a0 : Nat) (a1 : Int32) (a2 : Int32) (κ : zS) : Prop :=
  (a1 < (0 : Int32) →
    ∀ κ1, κ1 = ut κ → X "java/lang/IndexOutOfBoundsException" κ1) ∧
  (¬ a1 < (0 : Int32) →
    (a1 ≤ (1 : Int32) →
      (¬ a1 = (0 : Int32) →
        w_Ch_limb_41 C n0 Q X  a0 a2 (zR κ raBottom (zR κ chShown a0)) κ) ∧
      (a1 = (0 : Int32) →
        w_Ch_limb_41 C n0 Q X  a0 a2 (zR κ raTop (zR κ chShown a0)) κ)) ∧
    (¬ a1 ≤ (1 : Int32) →
      ∀ κ2, κ2 = ut κ → X "java/lang/IndexOutOfBoundsException" κ2))
theorem t_Ch_limb_0 {C : zC} {n0 : Nat} {Q : Int32 → zS → Prop} {X : zXp}   {a0 : Nat} {a1 : Int32} {a2 : Int32} {κ : zS} (W : zW C n0 κ) (Ta0 : zT κ a0 = 15) (F : w_Ch_limb_0 C n0 Q X  a0 a1 a2 κ) : zG C n0 8 mCh_limb 0 [some (.ref a0), some (.int a1), some (.int a2), none] [] κ (oI Q X) := by
  unfold w_Ch_limb_0 at F
  refine y_iln dX12_limb_0 rfl ?_
  refine y_i (a1 < (0 : Int32)) dX12_limb_1 (t := 9) rfl rfl (fun c9 => ?_) (fun c9 => ?_)
  · replace F := F.1 c9
    exact y_thr W (dxat_yesw dX12_limb_9 dX12_limb_12 dX12_limb_13 dX12_limb_16 dX12_limb_19 rfl rfl rfl) (Nat.le_of_ble_eq_true rfl) (Nat.le_of_ble_eq_true rfl) (fun κ9 e9 => Or.inr ⟨_, rfl, F κ9 e9⟩)
  · replace F := F.2 c9
    refine y_iln dX12_limb_4 rfl ?_
    refine y_ic dX12_limb_5 zi_1 ?_
    refine y_ii (a1 ≤ (1 : Int32)) dX12_limb_6 (t := 20) rfl rfl (fun c9 => ?_) (fun c9 => ?_)
    · replace F := F.1 c9
      refine y_iln dX12_limb_20 rfl ?_
      refine y_in (a1 = (0 : Int32)) dX12_limb_21 (t := 34) rfl rfl (fun c9 => ?_) (fun c9 => ?_)
      · replace F := F.1 c9
        refine y_aln dX12_limb_34 rfl ?_
        refine gf_X12_79 W dX12_limb_35 rfl Ta0 ?_
        refine gf_X12_297 W dX12_limb_38 rfl (ty_chShown W Ta0) ?_
        exact y_k (t_Ch_limb_41  W Ta0 (ty_raBottom W (ty_chShown W Ta0)) F) ⟨rfl, rfl, trivial⟩
      · replace F := F.2 c9
        refine y_aln dX12_limb_24 rfl ?_
        refine gf_X12_79 W dX12_limb_25 rfl Ta0 ?_
        refine gf_X12_288 W dX12_limb_28 rfl (ty_chShown W Ta0) ?_
        refine y_goto dX12_limb_31 (t := 41) rfl ?_
        exact y_k (t_Ch_limb_41  W Ta0 (ty_raTop W (ty_chShown W Ta0)) F) ⟨rfl, rfl, trivial⟩
    · replace F := F.2 c9
      exact y_thr W (dxat_yesw dX12_limb_9 dX12_limb_12 dX12_limb_13 dX12_limb_16 dX12_limb_19 rfl rfl rfl) (Nat.le_of_ble_eq_true rfl) (Nat.le_of_ble_eq_true rfl) (fun κ9 e9 => Or.inr ⟨_, rfl, F κ9 e9⟩)

theorem Ch_limb_run {C : zC} {n0 : Nat} {Q : Int32 → zS → Prop} {X : zXp} {a0 : Nat} {a1 : Int32} {a2 : Int32} {κ : zS} (W : zW C n0 κ) (Ta0 : zT κ a0 = 15) (F : w_Ch_limb_0 C (zn κ) Q X a0 a1 a2 κ) : zRun C 8 mCh_limb [.ref a0, .int a1, .int a2] κ (oI Q X) := z_run (m_ent _ 1) (t_Ch_limb_0 (W.lo (Nat.le_trans W.1.2.1 W.1.2.2) (Nat.le_refl _)) Ta0 F)

theorem dX12_tell_0 : decode cX12_tell 0 = .ok (.aload_n 0, 1) := by decide +kernel
theorem dX12_tell_1 : decode cX12_tell 1 = .ok (.getfield 305, 3) := by decide +kernel
theorem dX12_tell_4 : decode cX12_tell 4 = .ok (.sipush 200, 3) := by decide +kernel
theorem dX12_tell_7 : decode cX12_tell 7 = .ok (.if_icmp .lt 14, 3) := by decide +kernel
theorem dX12_tell_10 : decode cX12_tell 10 = .ok (.new 105, 3) := by decide +kernel
theorem dX12_tell_13 : decode cX12_tell 13 = .ok (.dup, 1) := by decide +kernel
theorem dX12_tell_14 : decode cX12_tell 14 = .ok (.ldc_w 308, 3) := by decide +kernel
theorem dX12_tell_17 : decode cX12_tell 17 = .ok (.invokespecial 109, 3) := by decide +kernel
theorem dX12_tell_20 : decode cX12_tell 20 = .ok (.athrow, 1) := by decide +kernel
theorem dX12_tell_21 : decode cX12_tell 21 = .ok (.aload_n 0, 1) := by decide +kernel
theorem dX12_tell_22 : decode cX12_tell 22 = .ok (.getfield 83, 3) := by decide +kernel
theorem dX12_tell_25 : decode cX12_tell 25 = .ok (.aload_n 0, 1) := by decide +kernel
theorem dX12_tell_26 : decode cX12_tell 26 = .ok (.getfield 305, 3) := by decide +kernel
theorem dX12_tell_29 : decode cX12_tell 29 = .ok (.iload_n 1, 1) := by decide +kernel
theorem dX12_tell_30 : decode cX12_tell 30 = .ok (.iastore, 1) := by decide +kernel
theorem dX12_tell_31 : decode cX12_tell 31 = .ok (.aload_n 0, 1) := by decide +kernel
theorem dX12_tell_32 : decode cX12_tell 32 = .ok (.dup, 1) := by decide +kernel
theorem dX12_tell_33 : decode cX12_tell 33 = .ok (.getfield 305, 3) := by decide +kernel
theorem dX12_tell_36 : decode cX12_tell 36 = .ok (.iconst 1, 1) := by decide +kernel
theorem dX12_tell_37 : decode cX12_tell 37 = .ok (.iadd, 1) := by decide +kernel
theorem dX12_tell_38 : decode cX12_tell 38 = .ok (.putfield 305, 3) := by decide +kernel
theorem dX12_tell_41 : decode cX12_tell 41 = .ok (.aload_n 0, 1) := by decide +kernel
theorem dX12_tell_42 : decode cX12_tell 42 = .ok (.getfield 305, 3) := by decide +kernel
theorem dX12_tell_45 : decode cX12_tell 45 = .ok (.ireturn, 1) := by decide +kernel
def w_Ch_tell_0 (C : zC) (n0 : Nat) (Q : Int32 → zS → Prop) (X : zXp)  (a0 : Nat) (a1 : Int32) (κ : zS) : Prop :=
  ((zI κ chTolds a0) < (200 : Int32) →
    inb (zI κ chTolds a0) (zN κ (zR κ chTold a0)) ∧
    ∀ κ1, κ1 = ua κ (zR κ chTold a0) ((zI κ chTolds a0)).toNatClampNeg a1 →
    ∀ _ : zW C n0 κ1,
    ∀ κ3, κ3 = ui κ1 chTolds a0 ((zI κ1 chTolds a0) + (1 : Int32)) →
    ∀ _ : zW C n0 κ3,
    Q (zI κ3 chTolds a0) κ3) ∧
  (¬ (zI κ chTolds a0) < (200 : Int32) →
    ∀ κ5, κ5 = ut κ → X "java/lang/UnsupportedOperationException" κ5)
theorem t_Ch_tell_0 {C : zC} {n0 : Nat} {Q : Int32 → zS → Prop} {X : zXp}   {a0 : Nat} {a1 : Int32} {κ : zS} (W : zW C n0 κ) (Ta0 : zT κ a0 = 15) (F : w_Ch_tell_0 C n0 Q X  a0 a1 κ) : zG C n0 8 mCh_tell 0 [some (.ref a0), some (.int a1)] [] κ (oI Q X) := by
  unfold w_Ch_tell_0 at F
  refine y_aln dX12_tell_0 rfl ?_
  refine gf_X12_305 dX12_tell_1 rfl (Or.inl Ta0) ?_
  refine y_si dX12_tell_4 zs_200 ?_
  refine y_ii ((zI κ chTolds a0) < (200 : Int32)) dX12_tell_7 (t := 21) rfl rfl (fun c9 => ?_) (fun c9 => ?_)
  · replace F := F.1 c9
    refine y_aln dX12_tell_21 rfl ?_
    refine gf_X12_83 W dX12_tell_22 rfl Ta0 ?_
    refine y_aln dX12_tell_25 rfl ?_
    refine gf_X12_305 dX12_tell_26 rfl (Or.inl Ta0) ?_
    refine y_iln dX12_tell_29 rfl ?_
    refine y_ast W dX12_tell_30 (ty_chTold W Ta0) F.1 (fun κ1 eκ1 => ?_)
    replace F := F.2 κ1 eκ1
    have Wκ1 : zW C n0 κ1 := zW_ua W eκ1 (fun h => absurd (h.symm.trans (ty_chTold W Ta0)) (by decide)) (fun h => absurd (h.symm.trans (ty_chTold W Ta0)) (by decide))
    have Mκ1 : zM (zn κ) κ κ1 := by rw [eκ1]; exact zM.of rfl rfl rfl
    replace F := F Wκ1
    refine y_aln dX12_tell_31 rfl ?_
    refine y_dup dX12_tell_32 rfl ?_
    have h2 := (ztm W Mκ1 Ta0)
    refine gf_X12_305 dX12_tell_33 rfl (Or.inl h2) ?_
    refine y_ic dX12_tell_36 zi_1 ?_
    refine y_iadd dX12_tell_37 ?_
    refine pf_X12_305 Wκ1 dX12_tell_38 rfl (Or.inl h2) (fun κ3 eκ3 => ?_)
    replace F := F κ3 eκ3
    have Wκ3 : zW C n0 κ3 := zW_ui Wκ1 eκ3 (fun h => absurd h (by decide))
    have Mκ3 : zM (zn κ1) κ1 κ3 := by rw [eκ3]; exact zM.of rfl rfl rfl
    replace F := F Wκ3
    refine y_aln dX12_tell_41 rfl ?_
    have h4 := (ztm Wκ1 Mκ3 h2)
    refine gf_X12_305 dX12_tell_42 rfl (Or.inl h4) ?_
    exact y_ri Wκ3 dX12_tell_45 rfl in_nar F
  · replace F := F.2 c9
    exact y_thr W (dxat_yesw dX12_tell_10 dX12_tell_13 dX12_tell_14 dX12_tell_17 dX12_tell_20 rfl rfl rfl) (Nat.le_of_ble_eq_true rfl) (Nat.le_of_ble_eq_true rfl) (fun κ9 e9 => Or.inr ⟨_, rfl, F κ9 e9⟩)

theorem Ch_tell_run {C : zC} {n0 : Nat} {Q : Int32 → zS → Prop} {X : zXp} {a0 : Nat} {a1 : Int32} {κ : zS} (W : zW C n0 κ) (Ta0 : zT κ a0 = 15) (F : w_Ch_tell_0 C (zn κ) Q X a0 a1 κ) : zRun C 8 mCh_tell [.ref a0, .int a1] κ (oI Q X) := z_run (m_ent _ 0) (t_Ch_tell_0 (W.lo (Nat.le_trans W.1.2.1 W.1.2.2) (Nat.le_refl _)) Ta0 F)

theorem dX12_forget_0 : decode cX12_forget 0 = .ok (.aload_n 0, 1) := by decide +kernel
theorem dX12_forget_1 : decode cX12_forget 1 = .ok (.getfield 305, 3) := by decide +kernel
theorem dX12_forget_4 : decode cX12_forget 4 = .ok (.istore_n 1, 1) := by decide +kernel
theorem dX12_forget_5 : decode cX12_forget 5 = .ok (.aload_n 0, 1) := by decide +kernel
theorem dX12_forget_6 : decode cX12_forget 6 = .ok (.iconst 0, 1) := by decide +kernel
theorem dX12_forget_7 : decode cX12_forget 7 = .ok (.putfield 305, 3) := by decide +kernel
theorem dX12_forget_10 : decode cX12_forget 10 = .ok (.iload_n 1, 1) := by decide +kernel
theorem dX12_forget_11 : decode cX12_forget 11 = .ok (.ireturn, 1) := by decide +kernel
def w_Ch_forget_0 (C : zC) (n0 : Nat) (Q : Int32 → zS → Prop)  (a0 : Nat) (κ : zS) : Prop :=
  ∀ v1_1 : Int32, v1_1 = (zI κ chTolds a0) →
  ∀ κ2, κ2 = ui κ chTolds a0 (0 : Int32) →
  ∀ _ : zW C n0 κ2,
  Q v1_1 κ2
theorem t_Ch_forget_0 {C : zC} {n0 : Nat} {Q : Int32 → zS → Prop}   {a0 : Nat} {κ : zS} (W : zW C n0 κ) (Ta0 : zT κ a0 = 15) (F : w_Ch_forget_0 C n0 Q  a0 κ) : zG C n0 0 mCh_forget 0 [some (.ref a0), none] [] κ (oI Q noX) := by
  unfold w_Ch_forget_0 at F
  refine y_aln dX12_forget_0 rfl ?_
  refine gf_X12_305 dX12_forget_1 rfl (Or.inl Ta0) ?_
  refine y_isnb dX12_forget_4 (Nat.le_of_ble_eq_true rfl) (fun v1_1 ev1_1 => ?_)
  replace F := F v1_1 ev1_1
  show zG _ _ _ _ _ [some (.ref a0), some (.int v1_1)] _ _ _
  refine y_aln dX12_forget_5 rfl ?_
  refine y_ic dX12_forget_6 zi_0 ?_
  refine pf_X12_305 W dX12_forget_7 rfl (Or.inl Ta0) (fun κ2 eκ2 => ?_)
  replace F := F κ2 eκ2
  have Wκ2 : zW C n0 κ2 := zW_ui W eκ2 (fun h => absurd h (by decide))
  have Mκ2 : zM (zn κ) κ κ2 := by rw [eκ2]; exact zM.of rfl rfl rfl
  replace F := F Wκ2
  refine y_iln dX12_forget_10 rfl ?_
  exact y_ri Wκ2 dX12_forget_11 rfl in_nar F

theorem Ch_forget_run {C : zC} {n0 : Nat} {Q : Int32 → zS → Prop} {a0 : Nat} {κ : zS} (W : zW C n0 κ) (Ta0 : zT κ a0 = 15) (F : w_Ch_forget_0 C (zn κ) Q a0 κ) : zRun C 0 mCh_forget [.ref a0] κ (oI Q noX) := z_run (m_ent _ 1) (t_Ch_forget_0 (W.lo (Nat.le_trans W.1.2.1 W.1.2.2) (Nat.le_refl _)) Ta0 F)

theorem dX12_drawn_0 : decode cX12_drawn 0 = .ok (.iload_n 1, 1) := by decide +kernel
theorem dX12_drawn_1 : decode cX12_drawn 1 = .ok (.ifCond .lt 14, 3) := by decide +kernel
theorem dX12_drawn_4 : decode cX12_drawn 4 = .ok (.iload_n 1, 1) := by decide +kernel
theorem dX12_drawn_5 : decode cX12_drawn 5 = .ok (.aload_n 0, 1) := by decide +kernel
theorem dX12_drawn_6 : decode cX12_drawn 6 = .ok (.getfield 40, 3) := by decide +kernel
theorem dX12_drawn_9 : decode cX12_drawn 9 = .ok (.getfield 379, 3) := by decide +kernel
theorem dX12_drawn_12 : decode cX12_drawn 12 = .ok (.if_icmp .lt 14, 3) := by decide +kernel
theorem dX12_drawn_15 : decode cX12_drawn 15 = .ok (.aload_n 0, 1) := by decide +kernel
theorem dX12_drawn_16 : decode cX12_drawn 16 = .ok (.getfield 40, 3) := by decide +kernel
theorem dX12_drawn_19 : decode cX12_drawn 19 = .ok (.bipush 6, 2) := by decide +kernel
theorem dX12_drawn_21 : decode cX12_drawn 21 = .ok (.invokevirtual 382, 3) := by decide +kernel
theorem dX12_drawn_24 : decode cX12_drawn 24 = .ok (.iconst 0, 1) := by decide +kernel
theorem dX12_drawn_25 : decode cX12_drawn 25 = .ok (.ireturn, 1) := by decide +kernel
theorem dX12_drawn_26 : decode cX12_drawn 26 = .ok (.iload_n 2, 1) := by decide +kernel
theorem dX12_drawn_27 : decode cX12_drawn 27 = .ok (.aload_n 0, 1) := by decide +kernel
theorem dX12_drawn_28 : decode cX12_drawn 28 = .ok (.getfield 94, 3) := by decide +kernel
theorem dX12_drawn_31 : decode cX12_drawn 31 = .ok (.arraylength, 1) := by decide +kernel
theorem dX12_drawn_32 : decode cX12_drawn 32 = .ok (.if_icmp .lt 31, 3) := by decide +kernel
theorem dX12_drawn_35 : decode cX12_drawn 35 = .ok (.aload_n 0, 1) := by decide +kernel
theorem dX12_drawn_36 : decode cX12_drawn 36 = .ok (.aload_n 0, 1) := by decide +kernel
theorem dX12_drawn_37 : decode cX12_drawn 37 = .ok (.getfield 94, 3) := by decide +kernel
theorem dX12_drawn_40 : decode cX12_drawn 40 = .ok (.iload_n 2, 1) := by decide +kernel
theorem dX12_drawn_41 : decode cX12_drawn 41 = .ok (.iconst 2, 1) := by decide +kernel
theorem dX12_drawn_42 : decode cX12_drawn 42 = .ok (.imul, 1) := by decide +kernel
theorem dX12_drawn_43 : decode cX12_drawn 43 = .ok (.invokestatic 385, 3) := by decide +kernel
theorem dX12_drawn_46 : decode cX12_drawn 46 = .ok (.putfield 94, 3) := by decide +kernel
theorem dX12_drawn_49 : decode cX12_drawn 49 = .ok (.aload_n 0, 1) := by decide +kernel
theorem dX12_drawn_50 : decode cX12_drawn 50 = .ok (.aload_n 0, 1) := by decide +kernel
theorem dX12_drawn_51 : decode cX12_drawn 51 = .ok (.getfield 97, 3) := by decide +kernel
theorem dX12_drawn_54 : decode cX12_drawn 54 = .ok (.iload_n 2, 1) := by decide +kernel
theorem dX12_drawn_55 : decode cX12_drawn 55 = .ok (.iconst 2, 1) := by decide +kernel
theorem dX12_drawn_56 : decode cX12_drawn 56 = .ok (.imul, 1) := by decide +kernel
theorem dX12_drawn_57 : decode cX12_drawn 57 = .ok (.invokestatic 385, 3) := by decide +kernel
theorem dX12_drawn_60 : decode cX12_drawn 60 = .ok (.putfield 97, 3) := by decide +kernel
theorem dX12_drawn_63 : decode cX12_drawn 63 = .ok (.aload_n 0, 1) := by decide +kernel
theorem dX12_drawn_64 : decode cX12_drawn 64 = .ok (.getfield 94, 3) := by decide +kernel
theorem dX12_drawn_67 : decode cX12_drawn 67 = .ok (.iload_n 2, 1) := by decide +kernel
theorem dX12_drawn_68 : decode cX12_drawn 68 = .ok (.aload_n 0, 1) := by decide +kernel
theorem dX12_drawn_69 : decode cX12_drawn 69 = .ok (.getfield 40, 3) := by decide +kernel
theorem dX12_drawn_72 : decode cX12_drawn 72 = .ok (.getfield 391, 3) := by decide +kernel
theorem dX12_drawn_75 : decode cX12_drawn 75 = .ok (.iload_n 1, 1) := by decide +kernel
theorem dX12_drawn_76 : decode cX12_drawn 76 = .ok (.iaload, 1) := by decide +kernel
theorem dX12_drawn_77 : decode cX12_drawn 77 = .ok (.iastore, 1) := by decide +kernel
theorem dX12_drawn_78 : decode cX12_drawn 78 = .ok (.aload_n 0, 1) := by decide +kernel
theorem dX12_drawn_79 : decode cX12_drawn 79 = .ok (.getfield 97, 3) := by decide +kernel
theorem dX12_drawn_82 : decode cX12_drawn 82 = .ok (.iload_n 2, 1) := by decide +kernel
theorem dX12_drawn_83 : decode cX12_drawn 83 = .ok (.aload_n 0, 1) := by decide +kernel
theorem dX12_drawn_84 : decode cX12_drawn 84 = .ok (.getfield 40, 3) := by decide +kernel
theorem dX12_drawn_87 : decode cX12_drawn 87 = .ok (.getfield 392, 3) := by decide +kernel
theorem dX12_drawn_90 : decode cX12_drawn 90 = .ok (.iastore, 1) := by decide +kernel
theorem dX12_drawn_91 : decode cX12_drawn 91 = .ok (.aload_n 0, 1) := by decide +kernel
theorem dX12_drawn_92 : decode cX12_drawn 92 = .ok (.getfield 40, 3) := by decide +kernel
theorem dX12_drawn_95 : decode cX12_drawn 95 = .ok (.iload_n 1, 1) := by decide +kernel
theorem dX12_drawn_96 : decode cX12_drawn 96 = .ok (.invokevirtual 358, 3) := by decide +kernel
theorem dX12_drawn_99 : decode cX12_drawn 99 = .ok (.iconst 1, 1) := by decide +kernel
theorem dX12_drawn_100 : decode cX12_drawn 100 = .ok (.ireturn, 1) := by decide +kernel
def w_Ch_drawn_15 (C : zC) (n0 : Nat) (Q : Int32 → zS → Prop)  (a0 : Nat) (κ : zS) : Prop :=
  ∀ _ : zT κ (zR κ chMachine a0) = 7,
  zRun C 0 mMa_fail [.ref (zR κ chMachine a0), .int (6 : Int32)] κ (oV (fun κ1 =>
    ∀ _ : zW C n0 κ1,
    ∀ _ : zM (zn κ) κ κ1,
    Q (0 : Int32) κ1) noX)
theorem t_Ch_drawn_15 {C : zC} {n0 : Nat} {Q : Int32 → zS → Prop}   {a0 : Nat} {κ : zS} (W : zW C n0 κ) (Ta0 : zT κ a0 = 15) (F : w_Ch_drawn_15 C n0 Q  a0 κ) : zG C n0 3 mCh_drawn 15 [some (.ref a0), none, none] [] κ (oI Q noX) := by
  unfold w_Ch_drawn_15 at F
  refine y_aln dX12_drawn_15 rfl ?_
  refine gf_X12_40 W dX12_drawn_16 rfl Ta0 ?_
  refine y_bi1 dX12_drawn_19 zb_6 ?_
  replace F := F (ty_chMachine W Ta0)
  refine k_X12_382 W dX12_drawn_21 rfl (Nat.le_of_ble_eq_true rfl) (Nat.le_of_ble_eq_true rfl) (Or.inl (ty_chMachine W Ta0)) F (fun  κ1 Wκ1 Mκ1 F => ?_) (fun _ _ h9 => False.elim h9)
  replace F := F Wκ1 Mκ1
  refine y_ic dX12_drawn_24 zi_0 ?_
  exact y_ri Wκ1 dX12_drawn_25 rfl in_nar F

def w_Ch_drawn_63 (C : zC) (n0 : Nat) (Q : Int32 → zS → Prop)  (a0 : Nat) (a1 : Int32) (a2 : Int32) (κ : zS) : Prop :=
  inb a1 (zN κ (zR κ maWeights (zR κ chMachine a0))) ∧
  inb a2 (zN κ (zR κ chDrawnWeights a0)) ∧
  ∀ κ1, κ1 = ua κ (zR κ chDrawnWeights a0) (a2).toNatClampNeg (zA κ (zR κ maWeights (zR κ chMachine a0)) (a1).toNatClampNeg) →
  ∀ _ : zW C n0 κ1,
  inb a2 (zN κ1 (zR κ1 chDrawnTotals a0)) ∧
  ∀ κ3, κ3 = ua κ1 (zR κ1 chDrawnTotals a0) (a2).toNatClampNeg (zI κ1 maTotal (zR κ1 chMachine a0)) →
  ∀ _ : zW C n0 κ3,
  ∀ _ : zT κ3 (zR κ3 chMachine a0) = 7,
  zRun C 2 mMa_settle [.ref (zR κ3 chMachine a0), .int a1] κ3 (oV (fun κ5 =>
    ∀ _ : zW C n0 κ5,
    ∀ _ : zM (zn κ3) κ3 κ5,
    Q (1 : Int32) κ5) noX)
theorem t_Ch_drawn_63 {C : zC} {n0 : Nat} {Q : Int32 → zS → Prop}   {a0 : Nat} {a1 : Int32} {a2 : Int32} {κ : zS} (W : zW C n0 κ) (Ta0 : zT κ a0 = 15) (F : w_Ch_drawn_63 C n0 Q  a0 a1 a2 κ) : zG C n0 3 mCh_drawn 63 [some (.ref a0), some (.int a1), some (.int a2)] [] κ (oI Q noX) := by
  unfold w_Ch_drawn_63 at F
  refine y_aln dX12_drawn_63 rfl ?_
  refine gf_X12_94 W dX12_drawn_64 rfl Ta0 ?_
  refine y_iln dX12_drawn_67 rfl ?_
  refine y_aln dX12_drawn_68 rfl ?_
  refine gf_X12_40 W dX12_drawn_69 rfl Ta0 ?_
  refine gf_X12_391 W dX12_drawn_72 rfl (ty_chMachine W Ta0) ?_
  refine y_iln dX12_drawn_75 rfl ?_
  refine y_ald dX12_drawn_76 (ty_maWeights W (ty_chMachine W Ta0)) F.1 ?_
  replace F := F.2
  refine y_ast W dX12_drawn_77 (ty_chDrawnWeights W Ta0) F.1 (fun κ1 eκ1 => ?_)
  replace F := F.2 κ1 eκ1
  have Wκ1 : zW C n0 κ1 := zW_ua W eκ1 (fun h => absurd (h.symm.trans (ty_chDrawnWeights W Ta0)) (by decide)) (fun h => absurd (h.symm.trans (ty_chDrawnWeights W Ta0)) (by decide))
  have Mκ1 : zM (zn κ) κ κ1 := by rw [eκ1]; exact zM.of rfl rfl rfl
  replace F := F Wκ1
  refine y_aln dX12_drawn_78 rfl ?_
  have h2 := (ztm W Mκ1 Ta0)
  refine gf_X12_97 Wκ1 dX12_drawn_79 rfl h2 ?_
  refine y_iln dX12_drawn_82 rfl ?_
  refine y_aln dX12_drawn_83 rfl ?_
  refine gf_X12_40 Wκ1 dX12_drawn_84 rfl h2 ?_
  refine gf_X12_392 dX12_drawn_87 rfl (Or.inl (ty_chMachine Wκ1 h2)) ?_
  refine y_ast Wκ1 dX12_drawn_90 (ty_chDrawnTotals Wκ1 h2) F.1 (fun κ3 eκ3 => ?_)
  replace F := F.2 κ3 eκ3
  have Wκ3 : zW C n0 κ3 := zW_ua Wκ1 eκ3 (fun h => absurd (h.symm.trans (ty_chDrawnTotals Wκ1 h2)) (by decide)) (fun h => absurd (h.symm.trans (ty_chDrawnTotals Wκ1 h2)) (by decide))
  have Mκ3 : zM (zn κ1) κ1 κ3 := by rw [eκ3]; exact zM.of rfl rfl rfl
  replace F := F Wκ3
  refine y_aln dX12_drawn_91 rfl ?_
  have h4 := (ztm Wκ1 Mκ3 h2)
  refine gf_X12_40 Wκ3 dX12_drawn_92 rfl h4 ?_
  refine y_iln dX12_drawn_95 rfl ?_
  replace F := F (ty_chMachine Wκ3 h4)
  refine k_X12_358 Wκ3 dX12_drawn_96 rfl (Nat.le_of_ble_eq_true rfl) (Nat.le_of_ble_eq_true rfl) (Or.inl (ty_chMachine Wκ3 h4)) F (fun  κ5 Wκ5 Mκ5 F => ?_) (fun _ _ h9 => False.elim h9)
  replace F := F Wκ5 Mκ5
  refine y_ic dX12_drawn_99 zi_1 ?_
  exact y_ri Wκ5 dX12_drawn_100 rfl in_nar F

def w_Ch_drawn_0 (C : zC) (n0 : Nat) (Q : Int32 → zS → Prop)  (a0 : Nat) (a1 : Int32) (a2 : Int32) (κ : zS) : Prop :=
  (a1 < (0 : Int32) →
    w_Ch_drawn_15 C n0 Q  a0 κ) ∧
  (¬ a1 < (0 : Int32) →
    (a1 < (zI κ maWays (zR κ chMachine a0)) →
      (a2 < (Int32.ofNat (zN κ (zR κ chDrawnWeights a0))) →
        w_Ch_drawn_63 C n0 Q  a0 a1 a2 κ) ∧
      (¬ a2 < (Int32.ofNat (zN κ (zR κ chDrawnWeights a0))) →
        ∀ _ : zT κ (zR κ chDrawnWeights a0) = 20,
        zRun C 1 mAr_copyOf [.ref (zR κ chDrawnWeights a0), .int (a2 * (2 : Int32))] κ (oR 20 (fun r2 κ1 =>
          ∀ _ : zW C n0 κ1,
          ∀ _ : zM (zn κ) κ κ1,
          ∀ _ : zT κ1 r2 = 20,
          zO κ1 r2 = (0, 0) ∧
          ∀ κ4, κ4 = uo κ1 chDrawnWeights a0 r2 →
          ∀ _ : zW C n0 κ4,
          ∀ _ : zT κ4 (zR κ4 chDrawnTotals a0) = 20,
          zRun C 1 mAr_copyOf [.ref (zR κ4 chDrawnTotals a0), .int (a2 * (2 : Int32))] κ4 (oR 20 (fun r9 κ8 =>
            ∀ _ : zW C n0 κ8,
            ∀ _ : zM (zn κ4) κ4 κ8,
            ∀ _ : zT κ8 r9 = 20,
            zO κ8 r9 = (0, 0) ∧
            ∀ κ11, κ11 = uo κ8 chDrawnTotals a0 r9 →
            ∀ _ : zW C n0 κ11,
            w_Ch_drawn_63 C n0 Q  a0 a1 a2 κ11) noX)) noX))) ∧
    (¬ a1 < (zI κ maWays (zR κ chMachine a0)) →
      w_Ch_drawn_15 C n0 Q  a0 κ))
theorem t_Ch_drawn_0 {C : zC} {n0 : Nat} {Q : Int32 → zS → Prop}   {a0 : Nat} {a1 : Int32} {a2 : Int32} {κ : zS} (W : zW C n0 κ) (Ta0 : zT κ a0 = 15) (F : w_Ch_drawn_0 C n0 Q  a0 a1 a2 κ) : zG C n0 3 mCh_drawn 0 [some (.ref a0), some (.int a1), some (.int a2)] [] κ (oI Q noX) := by
  unfold w_Ch_drawn_0 at F
  refine y_iln dX12_drawn_0 rfl ?_
  refine y_i (a1 < (0 : Int32)) dX12_drawn_1 (t := 15) rfl rfl (fun c9 => ?_) (fun c9 => ?_)
  · replace F := F.1 c9
    exact y_k (t_Ch_drawn_15  W Ta0 F) ⟨rfl, trivial⟩
  · replace F := F.2 c9
    refine y_iln dX12_drawn_4 rfl ?_
    refine y_aln dX12_drawn_5 rfl ?_
    refine gf_X12_40 W dX12_drawn_6 rfl Ta0 ?_
    refine gf_X12_379 dX12_drawn_9 rfl (Or.inl (ty_chMachine W Ta0)) ?_
    refine y_ii (a1 < (zI κ maWays (zR κ chMachine a0))) dX12_drawn_12 (t := 26) rfl rfl (fun c9 => ?_) (fun c9 => ?_)
    · replace F := F.1 c9
      refine y_iln dX12_drawn_26 rfl ?_
      refine y_aln dX12_drawn_27 rfl ?_
      refine gf_X12_94 W dX12_drawn_28 rfl Ta0 ?_
      refine y_alen (t := 0) dX12_drawn_31 (ty_chDrawnWeights W Ta0) (by decide) ?_
      refine y_ii (a2 < (Int32.ofNat (zN κ (zR κ chDrawnWeights a0)))) dX12_drawn_32 (t := 63) rfl rfl (fun c9 => ?_) (fun c9 => ?_)
      · replace F := F.1 c9
        exact y_k (t_Ch_drawn_63  W Ta0 F) ⟨rfl, rfl, rfl, trivial⟩
      · replace F := F.2 c9
        refine y_aln dX12_drawn_35 rfl ?_
        refine y_aln dX12_drawn_36 rfl ?_
        refine gf_X12_94 W dX12_drawn_37 rfl Ta0 ?_
        refine y_iln dX12_drawn_40 rfl ?_
        refine y_ic dX12_drawn_41 zi_2 ?_
        refine y_imul dX12_drawn_42 ?_
        replace F := F (ty_chDrawnWeights W Ta0)
        refine k_X12_385 W dX12_drawn_43 rfl (Nat.le_of_ble_eq_true rfl) (Nat.le_of_ble_eq_true rfl)  F (fun r2 κ1 Wκ1 Mκ1 g3 F => ?_) (fun _ _ h9 => False.elim h9)
        replace F := F Wκ1 Mκ1 g3
        have b5 := F.1
        replace F := F.2
        have h6 := (ztm W Mκ1 Ta0)
        refine pf_X12_94 Wκ1 dX12_drawn_46 rfl (Or.inl h6) g3 (fun κ4 eκ4 => ?_)
        replace F := F κ4 eκ4
        have Wκ4 : zW C n0 κ4 := zW_uo Wκ1 eκ4 (fun t ht => by cases ht; exact g3) b5
        have Mκ4 : zM (zn κ1) κ1 κ4 := by rw [eκ4]; exact zM.of rfl rfl rfl
        replace F := F Wκ4
        refine y_aln dX12_drawn_49 rfl ?_
        refine y_aln dX12_drawn_50 rfl ?_
        have h7 := (ztm Wκ1 Mκ4 h6)
        refine gf_X12_97 Wκ4 dX12_drawn_51 rfl h7 ?_
        refine y_iln dX12_drawn_54 rfl ?_
        refine y_ic dX12_drawn_55 zi_2 ?_
        refine y_imul dX12_drawn_56 ?_
        replace F := F (ty_chDrawnTotals Wκ4 h7)
        refine k_X12_385 Wκ4 dX12_drawn_57 rfl (Nat.le_of_ble_eq_true rfl) (Nat.le_of_ble_eq_true rfl)  F (fun r9 κ8 Wκ8 Mκ8 g10 F => ?_) (fun _ _ h9 => False.elim h9)
        replace F := F Wκ8 Mκ8 g10
        have b12 := F.1
        replace F := F.2
        have h13 := (ztm Wκ4 Mκ8 h7)
        refine pf_X12_97 Wκ8 dX12_drawn_60 rfl (Or.inl h13) g10 (fun κ11 eκ11 => ?_)
        replace F := F κ11 eκ11
        have Wκ11 : zW C n0 κ11 := zW_uo Wκ8 eκ11 (fun t ht => by cases ht; exact g10) b12
        have Mκ11 : zM (zn κ8) κ8 κ11 := by rw [eκ11]; exact zM.of rfl rfl rfl
        replace F := F Wκ11
        have h14 := (ztm Wκ8 Mκ11 h13)
        exact y_k (t_Ch_drawn_63  Wκ11 h14 F) ⟨rfl, rfl, rfl, trivial⟩
    · replace F := F.2 c9
      exact y_k (t_Ch_drawn_15  W Ta0 F) ⟨rfl, trivial⟩

theorem Ch_drawn_run {C : zC} {n0 : Nat} {Q : Int32 → zS → Prop} {a0 : Nat} {a1 : Int32} {a2 : Int32} {κ : zS} (W : zW C n0 κ) (Ta0 : zT κ a0 = 15) (F : w_Ch_drawn_0 C (zn κ) Q a0 a1 a2 κ) : zRun C 3 mCh_drawn [.ref a0, .int a1, .int a2] κ (oI Q noX) := z_run (m_ent _ 0) (t_Ch_drawn_0 (W.lo (Nat.le_trans W.1.2.1 W.1.2.2) (Nat.le_refl _)) Ta0 F)

