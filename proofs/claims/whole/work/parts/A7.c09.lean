/-! methods of the class: Od_lastOf, Od_share, Od_unitsOf, Od_weighs, So_addTerm, Ch_commonInt, Ra_copy, So_unit, Od_weigh, Ra_putZero, So_settle, Od_showWeight -/
theorem dX6_lastOf_0 : decode cX6_lastOf 0 = .ok (.aload_n 0, 1) := by decide +kernel
theorem dX6_lastOf_1 : decode cX6_lastOf 1 = .ok (.getfield 9, 3) := by decide +kernel
theorem dX6_lastOf_4 : decode cX6_lastOf 4 = .ok (.getfield 74, 3) := by decide +kernel
theorem dX6_lastOf_7 : decode cX6_lastOf 7 = .ok (.iload_n 1, 1) := by decide +kernel
theorem dX6_lastOf_8 : decode cX6_lastOf 8 = .ok (.aload_n 0, 1) := by decide +kernel
theorem dX6_lastOf_9 : decode cX6_lastOf 9 = .ok (.getfield 9, 3) := by decide +kernel
theorem dX6_lastOf_12 : decode cX6_lastOf 12 = .ok (.getfield 79, 3) := by decide +kernel
theorem dX6_lastOf_15 : decode cX6_lastOf 15 = .ok (.invokevirtual 83, 3) := by decide +kernel
theorem dX6_lastOf_18 : decode cX6_lastOf 18 = .ok (.invokevirtual 89, 3) := by decide +kernel
theorem dX6_lastOf_21 : decode cX6_lastOf 21 = .ok (.ireturn, 1) := by decide +kernel
def w_Od_lastOf_0 (C : zC) (n0 : Nat) (Q : Int32 → zS → Prop)  (a0 : Nat) (a1 : Int32) (κ : zS) : Prop :=
  ∀ _ : zT κ (zR κ atCode (zR κ odAtlas a0)) = 5,
  zRun C 0 mCo_shared [.ref (zR κ atCode (zR κ odAtlas a0))] κ (oI (fun r2 κ1 =>
    ∀ _ : zW C n0 κ1,
    ∀ _ : zM (zn κ) κ κ1,
    ∀ _ : zT κ1 (zR κ atEndings (zR κ odAtlas a0)) = 6,
    zRun C 1 mHo_part [.ref (zR κ atEndings (zR κ odAtlas a0)), .int a1, .int r2] κ1 (oI (fun r5 κ4 =>
      ∀ _ : zW C n0 κ4,
      ∀ _ : zM (zn κ1) κ1 κ4,
      Q r5 κ4) noX)) noX)
theorem t_Od_lastOf_0 {C : zC} {n0 : Nat} {Q : Int32 → zS → Prop}   {a0 : Nat} {a1 : Int32} {κ : zS} (W : zW C n0 κ) (Ta0 : zT κ a0 = 9) (F : w_Od_lastOf_0 C n0 Q  a0 a1 κ) : zG C n0 2 mOd_lastOf 0 [some (.ref a0), some (.int a1)] [] κ (oI Q noX) := by
  unfold w_Od_lastOf_0 at F
  refine y_aln dX6_lastOf_0 rfl ?_
  refine gf_X6_9 W dX6_lastOf_1 rfl Ta0 ?_
  refine gf_X6_74 W dX6_lastOf_4 rfl (ty_odAtlas W Ta0) ?_
  refine y_iln dX6_lastOf_7 rfl ?_
  refine y_aln dX6_lastOf_8 rfl ?_
  refine gf_X6_9 W dX6_lastOf_9 rfl Ta0 ?_
  refine gf_X6_79 W dX6_lastOf_12 rfl (ty_odAtlas W Ta0) ?_
  replace F := F (ty_atCode W (ty_odAtlas W Ta0))
  refine k_X6_83 W dX6_lastOf_15 rfl (Nat.le_of_ble_eq_true rfl) (Nat.le_of_ble_eq_true rfl) (Or.inl (ty_atCode W (ty_odAtlas W Ta0))) F (fun r2 κ1 Wκ1 Mκ1 F => ?_) (fun _ _ h9 => False.elim h9)
  replace F := F Wκ1 Mκ1
  have h6 := (ztm W Mκ1 (ty_atEndings W (ty_odAtlas W Ta0)))
  replace F := F h6
  refine k_X6_89 Wκ1 dX6_lastOf_18 rfl (Nat.le_of_ble_eq_true rfl) (Nat.le_of_ble_eq_true rfl) (Or.inl h6) F (fun r5 κ4 Wκ4 Mκ4 F => ?_) (fun _ _ h9 => False.elim h9)
  replace F := F Wκ4 Mκ4
  exact y_ri Wκ4 dX6_lastOf_21 rfl in_nar F

theorem Od_lastOf_run {C : zC} {n0 : Nat} {Q : Int32 → zS → Prop} {a0 : Nat} {a1 : Int32} {κ : zS} (W : zW C n0 κ) (Ta0 : zT κ a0 = 9) (F : w_Od_lastOf_0 C (zn κ) Q a0 a1 κ) : zRun C 2 mOd_lastOf [.ref a0, .int a1] κ (oI Q noX) := z_run (m_ent _ 0) (t_Od_lastOf_0 (W.lo (Nat.le_trans W.1.2.1 W.1.2.2) (Nat.le_refl _)) Ta0 F)

theorem dX6_share_0 : decode cX6_share 0 = .ok (.iload_n 3, 1) := by decide +kernel
theorem dX6_share_1 : decode cX6_share 1 = .ok (.iconst 1, 1) := by decide +kernel
theorem dX6_share_2 : decode cX6_share 2 = .ok (.if_icmp .ne 7, 3) := by decide +kernel
theorem dX6_share_5 : decode cX6_share 5 = .ok (.iconst 1, 1) := by decide +kernel
theorem dX6_share_6 : decode cX6_share 6 = .ok (.goto 4, 3) := by decide +kernel
theorem dX6_share_9 : decode cX6_share 9 = .ok (.iconst 0, 1) := by decide +kernel
theorem dX6_share_10 : decode cX6_share 10 = .ok (.istore 5, 2) := by decide +kernel
theorem dX6_share_12 : decode cX6_share 12 = .ok (.iload_n 1, 1) := by decide +kernel
theorem dX6_share_13 : decode cX6_share 13 = .ok (.tableswitch 150 0 7 #[47, 68, 85, 68, 102, 113, 123, 139], 47) := by decide +kernel
theorem dX6_share_60 : decode cX6_share 60 = .ok (.iload 5, 2) := by decide +kernel
theorem dX6_share_62 : decode cX6_share 62 = .ok (.ifCond .eq 17, 3) := by decide +kernel
theorem dX6_share_65 : decode cX6_share 65 = .ok (.aload_n 0, 1) := by decide +kernel
theorem dX6_share_66 : decode cX6_share 66 = .ok (.iload 4, 2) := by decide +kernel
theorem dX6_share_68 : decode cX6_share 68 = .ok (.invokevirtual 70, 3) := by decide +kernel
theorem dX6_share_71 : decode cX6_share 71 = .ok (.iload_n 2, 1) := by decide +kernel
theorem dX6_share_72 : decode cX6_share 72 = .ok (.if_icmp .ne 7, 3) := by decide +kernel
theorem dX6_share_75 : decode cX6_share 75 = .ok (.lconst 1, 1) := by decide +kernel
theorem dX6_share_76 : decode cX6_share 76 = .ok (.goto 4, 3) := by decide +kernel
theorem dX6_share_79 : decode cX6_share 79 = .ok (.lconst 0, 1) := by decide +kernel
theorem dX6_share_80 : decode cX6_share 80 = .ok (.lreturn, 1) := by decide +kernel
theorem dX6_share_81 : decode cX6_share 81 = .ok (.iload_n 3, 1) := by decide +kernel
theorem dX6_share_82 : decode cX6_share 82 = .ok (.iconst 2, 1) := by decide +kernel
theorem dX6_share_83 : decode cX6_share 83 = .ok (.if_icmp .ne 13, 3) := by decide +kernel
theorem dX6_share_86 : decode cX6_share 86 = .ok (.iload 4, 2) := by decide +kernel
theorem dX6_share_88 : decode cX6_share 88 = .ok (.iload_n 2, 1) := by decide +kernel
theorem dX6_share_89 : decode cX6_share 89 = .ok (.if_icmp .ne 7, 3) := by decide +kernel
theorem dX6_share_92 : decode cX6_share 92 = .ok (.lconst 1, 1) := by decide +kernel
theorem dX6_share_93 : decode cX6_share 93 = .ok (.goto 4, 3) := by decide +kernel
theorem dX6_share_96 : decode cX6_share 96 = .ok (.lconst 0, 1) := by decide +kernel
theorem dX6_share_97 : decode cX6_share 97 = .ok (.lreturn, 1) := by decide +kernel
theorem dX6_share_98 : decode cX6_share 98 = .ok (.iload 5, 2) := by decide +kernel
theorem dX6_share_100 : decode cX6_share 100 = .ok (.ifCond .eq 13, 3) := by decide +kernel
theorem dX6_share_103 : decode cX6_share 103 = .ok (.iload 4, 2) := by decide +kernel
theorem dX6_share_105 : decode cX6_share 105 = .ok (.iload_n 2, 1) := by decide +kernel
theorem dX6_share_106 : decode cX6_share 106 = .ok (.if_icmp .ne 7, 3) := by decide +kernel
theorem dX6_share_109 : decode cX6_share 109 = .ok (.lconst 1, 1) := by decide +kernel
theorem dX6_share_110 : decode cX6_share 110 = .ok (.goto 4, 3) := by decide +kernel
theorem dX6_share_113 : decode cX6_share 113 = .ok (.lconst 0, 1) := by decide +kernel
theorem dX6_share_114 : decode cX6_share 114 = .ok (.lreturn, 1) := by decide +kernel
theorem dX6_share_115 : decode cX6_share 115 = .ok (.iload_n 3, 1) := by decide +kernel
theorem dX6_share_116 : decode cX6_share 116 = .ok (.iconst 3, 1) := by decide +kernel
theorem dX6_share_117 : decode cX6_share 117 = .ok (.if_icmp .ne 7, 3) := by decide +kernel
theorem dX6_share_120 : decode cX6_share 120 = .ok (.lconst 1, 1) := by decide +kernel
theorem dX6_share_121 : decode cX6_share 121 = .ok (.goto 4, 3) := by decide +kernel
theorem dX6_share_124 : decode cX6_share 124 = .ok (.lconst 0, 1) := by decide +kernel
theorem dX6_share_125 : decode cX6_share 125 = .ok (.lreturn, 1) := by decide +kernel
theorem dX6_share_126 : decode cX6_share 126 = .ok (.iload_n 3, 1) := by decide +kernel
theorem dX6_share_127 : decode cX6_share 127 = .ok (.ifCond .eq 7, 3) := by decide +kernel
theorem dX6_share_130 : decode cX6_share 130 = .ok (.lconst 1, 1) := by decide +kernel
theorem dX6_share_131 : decode cX6_share 131 = .ok (.goto 4, 3) := by decide +kernel
theorem dX6_share_134 : decode cX6_share 134 = .ok (.lconst 0, 1) := by decide +kernel
theorem dX6_share_135 : decode cX6_share 135 = .ok (.lreturn, 1) := by decide +kernel
theorem dX6_share_136 : decode cX6_share 136 = .ok (.iload 5, 2) := by decide +kernel
theorem dX6_share_138 : decode cX6_share 138 = .ok (.ifCond .ne 8, 3) := by decide +kernel
theorem dX6_share_141 : decode cX6_share 141 = .ok (.iload_n 3, 1) := by decide +kernel
theorem dX6_share_142 : decode cX6_share 142 = .ok (.iconst 2, 1) := by decide +kernel
theorem dX6_share_143 : decode cX6_share 143 = .ok (.if_icmp .ne 7, 3) := by decide +kernel
theorem dX6_share_146 : decode cX6_share 146 = .ok (.lconst 1, 1) := by decide +kernel
theorem dX6_share_147 : decode cX6_share 147 = .ok (.goto 4, 3) := by decide +kernel
theorem dX6_share_150 : decode cX6_share 150 = .ok (.lconst 0, 1) := by decide +kernel
theorem dX6_share_151 : decode cX6_share 151 = .ok (.lreturn, 1) := by decide +kernel
theorem dX6_share_152 : decode cX6_share 152 = .ok (.iload 5, 2) := by decide +kernel
theorem dX6_share_154 : decode cX6_share 154 = .ok (.ifCond .eq 7, 3) := by decide +kernel
theorem dX6_share_157 : decode cX6_share 157 = .ok (.lconst 1, 1) := by decide +kernel
theorem dX6_share_158 : decode cX6_share 158 = .ok (.goto 4, 3) := by decide +kernel
theorem dX6_share_161 : decode cX6_share 161 = .ok (.lconst 0, 1) := by decide +kernel
theorem dX6_share_162 : decode cX6_share 162 = .ok (.lreturn, 1) := by decide +kernel
theorem dX6_share_163 : decode cX6_share 163 = .ok (.iload 5, 2) := by decide +kernel
theorem dX6_share_165 : decode cX6_share 165 = .ok (.ifCond .eq 13, 3) := by decide +kernel
theorem dX6_share_168 : decode cX6_share 168 = .ok (.aload_n 0, 1) := by decide +kernel
theorem dX6_share_169 : decode cX6_share 169 = .ok (.iload 4, 2) := by decide +kernel
theorem dX6_share_171 : decode cX6_share 171 = .ok (.invokevirtual 70, 3) := by decide +kernel
theorem dX6_share_174 : decode cX6_share 174 = .ok (.i2l, 1) := by decide +kernel
theorem dX6_share_175 : decode cX6_share 175 = .ok (.goto 4, 3) := by decide +kernel
theorem dX6_share_178 : decode cX6_share 178 = .ok (.lconst 0, 1) := by decide +kernel
theorem dX6_share_179 : decode cX6_share 179 = .ok (.lreturn, 1) := by decide +kernel
def w_Od_share_10 (C : zC) (n0 : Nat) (Q : Int64 → zS → Prop)  (a0 : Nat) (a1 : Int32) (a2 : Int32) (a3 : Int32) (a4 : Int32) (s0 : Int32) (κ : zS) : Prop :=
  ((a1).toInt < 0 ∨ 7 < (a1).toInt →
    (s0 = (0 : Int32) →
      Q (0 : Int64) κ) ∧
    (¬ s0 = (0 : Int32) →
      ∀ _ : zT κ a0 = 9,
      zRun C 2 mOd_lastOf [.ref a0, .int a4] κ (oI (fun r2 κ1 =>
        ∀ _ : zW C n0 κ1,
        ∀ _ : zM (zn κ) κ κ1,
        Q (Int32.toInt64 r2) κ1) noX))) ∧
  ((a1).toInt = 0 →
    (s0 = (0 : Int32) →
      Q (0 : Int64) κ) ∧
    (¬ s0 = (0 : Int32) →
      ∀ _ : zT κ a0 = 9,
      zRun C 2 mOd_lastOf [.ref a0, .int a4] κ (oI (fun r5 κ4 =>
        ∀ _ : zW C n0 κ4,
        ∀ _ : zM (zn κ) κ κ4,
        (¬ r5 = a2 →
          Q (0 : Int64) κ4) ∧
        (r5 = a2 →
          Q (1 : Int64) κ4)) noX))) ∧
  ((a1).toInt = 1 →
    (¬ a3 = (2 : Int32) →
      Q (0 : Int64) κ) ∧
    (a3 = (2 : Int32) →
      (¬ a4 = a2 →
        Q (0 : Int64) κ) ∧
      (a4 = a2 →
        Q (1 : Int64) κ))) ∧
  ((a1).toInt = 2 →
    (s0 = (0 : Int32) →
      Q (0 : Int64) κ) ∧
    (¬ s0 = (0 : Int32) →
      (¬ a4 = a2 →
        Q (0 : Int64) κ) ∧
      (a4 = a2 →
        Q (1 : Int64) κ))) ∧
  ((a1).toInt = 3 →
    (¬ a3 = (2 : Int32) →
      Q (0 : Int64) κ) ∧
    (a3 = (2 : Int32) →
      (¬ a4 = a2 →
        Q (0 : Int64) κ) ∧
      (a4 = a2 →
        Q (1 : Int64) κ))) ∧
  ((a1).toInt = 4 →
    (¬ a3 = (3 : Int32) →
      Q (0 : Int64) κ) ∧
    (a3 = (3 : Int32) →
      Q (1 : Int64) κ)) ∧
  ((a1).toInt = 5 →
    (a3 = (0 : Int32) →
      Q (0 : Int64) κ) ∧
    (¬ a3 = (0 : Int32) →
      Q (1 : Int64) κ)) ∧
  ((a1).toInt = 6 →
    (¬ s0 = (0 : Int32) →
      Q (1 : Int64) κ) ∧
    (s0 = (0 : Int32) →
      (¬ a3 = (2 : Int32) →
        Q (0 : Int64) κ) ∧
      (a3 = (2 : Int32) →
        Q (1 : Int64) κ))) ∧
  ((a1).toInt = 7 →
    (s0 = (0 : Int32) →
      Q (0 : Int64) κ) ∧
    (¬ s0 = (0 : Int32) →
      Q (1 : Int64) κ))
theorem t_Od_share_10 {C : zC} {n0 : Nat} {Q : Int64 → zS → Prop}   {a0 : Nat} {a1 : Int32} {a2 : Int32} {a3 : Int32} {a4 : Int32} {s0 : Int32} {κ : zS} (W : zW C n0 κ) (Ta0 : zT κ a0 = 9) (F : w_Od_share_10 C n0 Q  a0 a1 a2 a3 a4 s0 κ) : zG C n0 3 mOd_share 10 [some (.ref a0), some (.int a1), some (.int a2), some (.int a3), some (.int a4), none] [.int s0] κ (oJ Q noX) := by
  unfold w_Od_share_10 at F
  refine y_is dX6_share_10 (Nat.le_of_ble_eq_true rfl) rfl ?_
  show zG _ _ _ _ _ [some (.ref a0), some (.int a1), some (.int a2), some (.int a3), some (.int a4), some (.int s0)] _ _ _
  refine y_iln dX6_share_12 rfl ?_
  by_cases hsw : (a1).toInt < 0 ∨ 7 < (a1).toInt
  · refine y_swd (t := 163) dX6_share_13 hsw rfl ?_
    replace F := F.1 hsw
    refine y_il dX6_share_163 rfl ?_
    refine y_i (s0 = (0 : Int32)) dX6_share_165 (t := 178) rfl rfl (fun c9 => ?_) (fun c9 => ?_)
    · replace F := F.1 c9
      refine y_lc dX6_share_178 zl_0 ?_
      exact y_rl W dX6_share_179 rfl F
    · replace F := F.2 c9
      refine y_aln dX6_share_168 rfl ?_
      refine y_il dX6_share_169 rfl ?_
      replace F := F Ta0
      refine k_X6_70 W dX6_share_171 rfl (Nat.le_of_ble_eq_true rfl) (Nat.le_of_ble_eq_true rfl) (Or.inl Ta0) F (fun r2 κ1 Wκ1 Mκ1 F => ?_) (fun _ _ h9 => False.elim h9)
      replace F := F Wκ1 Mκ1
      refine y_i2l dX6_share_174 ?_
      refine y_goto dX6_share_175 (t := 179) rfl ?_
      exact y_rl Wκ1 dX6_share_179 rfl F
  replace F := F.2
  by_cases hs0 : (a1).toInt = 0
  · refine y_p (pc' := 60) dX6_share_13 rfl (fun lo => sw_at (k := 0) hs0 (eq_true (by decide)) rfl rfl) ?_
    replace F := F.1 hs0
    refine y_il dX6_share_60 rfl ?_
    refine y_i (s0 = (0 : Int32)) dX6_share_62 (t := 79) rfl rfl (fun c9 => ?_) (fun c9 => ?_)
    · replace F := F.1 c9
      refine y_lc dX6_share_79 zl_0 ?_
      exact y_rl W dX6_share_80 rfl F
    · replace F := F.2 c9
      refine y_aln dX6_share_65 rfl ?_
      refine y_il dX6_share_66 rfl ?_
      replace F := F Ta0
      refine k_X6_70 W dX6_share_68 rfl (Nat.le_of_ble_eq_true rfl) (Nat.le_of_ble_eq_true rfl) (Or.inl Ta0) F (fun r5 κ4 Wκ4 Mκ4 F => ?_) (fun _ _ h9 => False.elim h9)
      replace F := F Wκ4 Mκ4
      refine y_iln dX6_share_71 rfl ?_
      refine y_iin (r5 = a2) dX6_share_72 (t := 79) rfl rfl (fun c9 => ?_) (fun c9 => ?_)
      · replace F := F.1 c9
        refine y_lc dX6_share_79 zl_0 ?_
        exact y_rl Wκ4 dX6_share_80 rfl F
      · replace F := F.2 c9
        refine y_lc dX6_share_75 zl_1 ?_
        refine y_goto dX6_share_76 (t := 80) rfl ?_
        exact y_rl Wκ4 dX6_share_80 rfl F
  replace F := F.2
  by_cases hs1 : (a1).toInt = 1
  · refine y_p (pc' := 81) dX6_share_13 rfl (fun lo => sw_at (k := 0) hs1 (eq_true (by decide)) rfl rfl) ?_
    replace F := F.1 hs1
    refine y_iln dX6_share_81 rfl ?_
    refine y_ic dX6_share_82 zi_2 ?_
    refine y_iin (a3 = (2 : Int32)) dX6_share_83 (t := 96) rfl rfl (fun c9 => ?_) (fun c9 => ?_)
    · replace F := F.1 c9
      refine y_lc dX6_share_96 zl_0 ?_
      exact y_rl W dX6_share_97 rfl F
    · replace F := F.2 c9
      refine y_il dX6_share_86 rfl ?_
      refine y_iln dX6_share_88 rfl ?_
      refine y_iin (a4 = a2) dX6_share_89 (t := 96) rfl rfl (fun c9 => ?_) (fun c9 => ?_)
      · replace F := F.1 c9
        refine y_lc dX6_share_96 zl_0 ?_
        exact y_rl W dX6_share_97 rfl F
      · replace F := F.2 c9
        refine y_lc dX6_share_92 zl_1 ?_
        refine y_goto dX6_share_93 (t := 97) rfl ?_
        exact y_rl W dX6_share_97 rfl F
  replace F := F.2
  by_cases hs2 : (a1).toInt = 2
  · refine y_p (pc' := 98) dX6_share_13 rfl (fun lo => sw_at (k := 0) hs2 (eq_true (by decide)) rfl rfl) ?_
    replace F := F.1 hs2
    refine y_il dX6_share_98 rfl ?_
    refine y_i (s0 = (0 : Int32)) dX6_share_100 (t := 113) rfl rfl (fun c9 => ?_) (fun c9 => ?_)
    · replace F := F.1 c9
      refine y_lc dX6_share_113 zl_0 ?_
      exact y_rl W dX6_share_114 rfl F
    · replace F := F.2 c9
      refine y_il dX6_share_103 rfl ?_
      refine y_iln dX6_share_105 rfl ?_
      refine y_iin (a4 = a2) dX6_share_106 (t := 113) rfl rfl (fun c9 => ?_) (fun c9 => ?_)
      · replace F := F.1 c9
        refine y_lc dX6_share_113 zl_0 ?_
        exact y_rl W dX6_share_114 rfl F
      · replace F := F.2 c9
        refine y_lc dX6_share_109 zl_1 ?_
        refine y_goto dX6_share_110 (t := 114) rfl ?_
        exact y_rl W dX6_share_114 rfl F
  replace F := F.2
  by_cases hs3 : (a1).toInt = 3
  · refine y_p (pc' := 81) dX6_share_13 rfl (fun lo => sw_at (k := 0) hs3 (eq_true (by decide)) rfl rfl) ?_
    replace F := F.1 hs3
    refine y_iln dX6_share_81 rfl ?_
    refine y_ic dX6_share_82 zi_2 ?_
    refine y_iin (a3 = (2 : Int32)) dX6_share_83 (t := 96) rfl rfl (fun c9 => ?_) (fun c9 => ?_)
    · replace F := F.1 c9
      refine y_lc dX6_share_96 zl_0 ?_
      exact y_rl W dX6_share_97 rfl F
    · replace F := F.2 c9
      refine y_il dX6_share_86 rfl ?_
      refine y_iln dX6_share_88 rfl ?_
      refine y_iin (a4 = a2) dX6_share_89 (t := 96) rfl rfl (fun c9 => ?_) (fun c9 => ?_)
      · replace F := F.1 c9
        refine y_lc dX6_share_96 zl_0 ?_
        exact y_rl W dX6_share_97 rfl F
      · replace F := F.2 c9
        refine y_lc dX6_share_92 zl_1 ?_
        refine y_goto dX6_share_93 (t := 97) rfl ?_
        exact y_rl W dX6_share_97 rfl F
  replace F := F.2
  by_cases hs4 : (a1).toInt = 4
  · refine y_p (pc' := 115) dX6_share_13 rfl (fun lo => sw_at (k := 0) hs4 (eq_true (by decide)) rfl rfl) ?_
    replace F := F.1 hs4
    refine y_iln dX6_share_115 rfl ?_
    refine y_ic dX6_share_116 zi_3 ?_
    refine y_iin (a3 = (3 : Int32)) dX6_share_117 (t := 124) rfl rfl (fun c9 => ?_) (fun c9 => ?_)
    · replace F := F.1 c9
      refine y_lc dX6_share_124 zl_0 ?_
      exact y_rl W dX6_share_125 rfl F
    · replace F := F.2 c9
      refine y_lc dX6_share_120 zl_1 ?_
      refine y_goto dX6_share_121 (t := 125) rfl ?_
      exact y_rl W dX6_share_125 rfl F
  replace F := F.2
  by_cases hs5 : (a1).toInt = 5
  · refine y_p (pc' := 126) dX6_share_13 rfl (fun lo => sw_at (k := 0) hs5 (eq_true (by decide)) rfl rfl) ?_
    replace F := F.1 hs5
    refine y_iln dX6_share_126 rfl ?_
    refine y_i (a3 = (0 : Int32)) dX6_share_127 (t := 134) rfl rfl (fun c9 => ?_) (fun c9 => ?_)
    · replace F := F.1 c9
      refine y_lc dX6_share_134 zl_0 ?_
      exact y_rl W dX6_share_135 rfl F
    · replace F := F.2 c9
      refine y_lc dX6_share_130 zl_1 ?_
      refine y_goto dX6_share_131 (t := 135) rfl ?_
      exact y_rl W dX6_share_135 rfl F
  replace F := F.2
  by_cases hs6 : (a1).toInt = 6
  · refine y_p (pc' := 136) dX6_share_13 rfl (fun lo => sw_at (k := 0) hs6 (eq_true (by decide)) rfl rfl) ?_
    replace F := F.1 hs6
    refine y_il dX6_share_136 rfl ?_
    refine y_in (s0 = (0 : Int32)) dX6_share_138 (t := 146) rfl rfl (fun c9 => ?_) (fun c9 => ?_)
    · replace F := F.1 c9
      refine y_lc dX6_share_146 zl_1 ?_
      refine y_goto dX6_share_147 (t := 151) rfl ?_
      exact y_rl W dX6_share_151 rfl F
    · replace F := F.2 c9
      refine y_iln dX6_share_141 rfl ?_
      refine y_ic dX6_share_142 zi_2 ?_
      refine y_iin (a3 = (2 : Int32)) dX6_share_143 (t := 150) rfl rfl (fun c9 => ?_) (fun c9 => ?_)
      · replace F := F.1 c9
        refine y_lc dX6_share_150 zl_0 ?_
        exact y_rl W dX6_share_151 rfl F
      · replace F := F.2 c9
        refine y_lc dX6_share_146 zl_1 ?_
        refine y_goto dX6_share_147 (t := 151) rfl ?_
        exact y_rl W dX6_share_151 rfl F
  replace F := F.2
  have hs7 : (a1).toInt = 7 := by omega
  refine y_p (pc' := 152) dX6_share_13 rfl (fun lo => sw_at (k := 0) hs7 (eq_true (by decide)) rfl rfl) ?_
  replace F := F hs7
  refine y_il dX6_share_152 rfl ?_
  refine y_i (s0 = (0 : Int32)) dX6_share_154 (t := 161) rfl rfl (fun c9 => ?_) (fun c9 => ?_)
  · replace F := F.1 c9
    refine y_lc dX6_share_161 zl_0 ?_
    exact y_rl W dX6_share_162 rfl F
  · replace F := F.2 c9
    refine y_lc dX6_share_157 zl_1 ?_
    refine y_goto dX6_share_158 (t := 162) rfl ?_
    exact y_rl W dX6_share_162 rfl F

def w_Od_share_0 (C : zC) (n0 : Nat) (Q : Int64 → zS → Prop)  (a0 : Nat) (a1 : Int32) (a2 : Int32) (a3 : Int32) (a4 : Int32) (κ : zS) : Prop :=
  (¬ a3 = (1 : Int32) →
    w_Od_share_10 C n0 Q  a0 a1 a2 a3 a4 (0 : Int32) κ) ∧
  (a3 = (1 : Int32) →
    w_Od_share_10 C n0 Q  a0 a1 a2 a3 a4 (1 : Int32) κ)
theorem t_Od_share_0 {C : zC} {n0 : Nat} {Q : Int64 → zS → Prop}   {a0 : Nat} {a1 : Int32} {a2 : Int32} {a3 : Int32} {a4 : Int32} {κ : zS} (W : zW C n0 κ) (Ta0 : zT κ a0 = 9) (F : w_Od_share_0 C n0 Q  a0 a1 a2 a3 a4 κ) : zG C n0 3 mOd_share 0 [some (.ref a0), some (.int a1), some (.int a2), some (.int a3), some (.int a4), none] [] κ (oJ Q noX) := by
  unfold w_Od_share_0 at F
  refine y_iln dX6_share_0 rfl ?_
  refine y_ic dX6_share_1 zi_1 ?_
  refine y_iin (a3 = (1 : Int32)) dX6_share_2 (t := 9) rfl rfl (fun c9 => ?_) (fun c9 => ?_)
  · replace F := F.1 c9
    refine y_ic dX6_share_9 zi_0 ?_
    exact y_k (t_Od_share_10  W Ta0 F) ⟨rfl, rfl, rfl, rfl, rfl, trivial⟩
  · replace F := F.2 c9
    refine y_ic dX6_share_5 zi_1 ?_
    refine y_goto dX6_share_6 (t := 10) rfl ?_
    exact y_k (t_Od_share_10  W Ta0 F) ⟨rfl, rfl, rfl, rfl, rfl, trivial⟩

theorem Od_share_run {C : zC} {n0 : Nat} {Q : Int64 → zS → Prop} {a0 : Nat} {a1 : Int32} {a2 : Int32} {a3 : Int32} {a4 : Int32} {κ : zS} (W : zW C n0 κ) (Ta0 : zT κ a0 = 9) (F : w_Od_share_0 C (zn κ) Q a0 a1 a2 a3 a4 κ) : zRun C 3 mOd_share [.ref a0, .int a1, .int a2, .int a3, .int a4] κ (oJ Q noX) := z_run (m_ent _ 1) (t_Od_share_0 (W.lo (Nat.le_trans W.1.2.1 W.1.2.2) (Nat.le_refl _)) Ta0 F)

theorem dX6_unitsOf_0 : decode cX6_unitsOf 0 = .ok (.lconst 0, 1) := by decide +kernel
theorem dX6_unitsOf_1 : decode cX6_unitsOf 1 = .ok (.lstore 4, 2) := by decide +kernel
theorem dX6_unitsOf_3 : decode cX6_unitsOf 3 = .ok (.aload_n 0, 1) := by decide +kernel
theorem dX6_unitsOf_4 : decode cX6_unitsOf 4 = .ok (.getfield 15, 3) := by decide +kernel
theorem dX6_unitsOf_7 : decode cX6_unitsOf 7 = .ok (.getfield 93, 3) := by decide +kernel
theorem dX6_unitsOf_10 : decode cX6_unitsOf 10 = .ok (.iload_n 1, 1) := by decide +kernel
theorem dX6_unitsOf_11 : decode cX6_unitsOf 11 = .ok (.aaload, 1) := by decide +kernel
theorem dX6_unitsOf_12 : decode cX6_unitsOf 12 = .ok (.getfield 99, 3) := by decide +kernel
theorem dX6_unitsOf_15 : decode cX6_unitsOf 15 = .ok (.ifCond .eq 92, 3) := by decide +kernel
theorem dX6_unitsOf_18 : decode cX6_unitsOf 18 = .ok (.aload_n 0, 1) := by decide +kernel
theorem dX6_unitsOf_19 : decode cX6_unitsOf 19 = .ok (.getfield 9, 3) := by decide +kernel
theorem dX6_unitsOf_22 : decode cX6_unitsOf 22 = .ok (.getfield 105, 3) := by decide +kernel
theorem dX6_unitsOf_25 : decode cX6_unitsOf 25 = .ok (.iload_n 1, 1) := by decide +kernel
theorem dX6_unitsOf_26 : decode cX6_unitsOf 26 = .ok (.iaload, 1) := by decide +kernel
theorem dX6_unitsOf_27 : decode cX6_unitsOf 27 = .ok (.istore 6, 2) := by decide +kernel
theorem dX6_unitsOf_29 : decode cX6_unitsOf 29 = .ok (.iload 6, 2) := by decide +kernel
theorem dX6_unitsOf_31 : decode cX6_unitsOf 31 = .ok (.aload_n 0, 1) := by decide +kernel
theorem dX6_unitsOf_32 : decode cX6_unitsOf 32 = .ok (.getfield 9, 3) := by decide +kernel
theorem dX6_unitsOf_35 : decode cX6_unitsOf 35 = .ok (.getfield 105, 3) := by decide +kernel
theorem dX6_unitsOf_38 : decode cX6_unitsOf 38 = .ok (.iload_n 1, 1) := by decide +kernel
theorem dX6_unitsOf_39 : decode cX6_unitsOf 39 = .ok (.iconst 1, 1) := by decide +kernel
theorem dX6_unitsOf_40 : decode cX6_unitsOf 40 = .ok (.iadd, 1) := by decide +kernel
theorem dX6_unitsOf_41 : decode cX6_unitsOf 41 = .ok (.iaload, 1) := by decide +kernel
theorem dX6_unitsOf_42 : decode cX6_unitsOf 42 = .ok (.if_icmp .ge 65, 3) := by decide +kernel
theorem dX6_unitsOf_45 : decode cX6_unitsOf 45 = .ok (.aload_n 0, 1) := by decide +kernel
theorem dX6_unitsOf_46 : decode cX6_unitsOf 46 = .ok (.getfield 9, 3) := by decide +kernel
theorem dX6_unitsOf_49 : decode cX6_unitsOf 49 = .ok (.iload_n 1, 1) := by decide +kernel
theorem dX6_unitsOf_50 : decode cX6_unitsOf 50 = .ok (.iload 6, 2) := by decide +kernel
theorem dX6_unitsOf_52 : decode cX6_unitsOf 52 = .ok (.invokevirtual 108, 3) := by decide +kernel
theorem dX6_unitsOf_55 : decode cX6_unitsOf 55 = .ok (.ifCond .eq 46, 3) := by decide +kernel
theorem dX6_unitsOf_58 : decode cX6_unitsOf 58 = .ok (.lload 4, 2) := by decide +kernel
theorem dX6_unitsOf_60 : decode cX6_unitsOf 60 = .ok (.aload_n 0, 1) := by decide +kernel
theorem dX6_unitsOf_61 : decode cX6_unitsOf 61 = .ok (.iload_n 2, 1) := by decide +kernel
theorem dX6_unitsOf_62 : decode cX6_unitsOf 62 = .ok (.iload_n 3, 1) := by decide +kernel
theorem dX6_unitsOf_63 : decode cX6_unitsOf 63 = .ok (.aload_n 0, 1) := by decide +kernel
theorem dX6_unitsOf_64 : decode cX6_unitsOf 64 = .ok (.getfield 9, 3) := by decide +kernel
theorem dX6_unitsOf_67 : decode cX6_unitsOf 67 = .ok (.getfield 112, 3) := by decide +kernel
theorem dX6_unitsOf_70 : decode cX6_unitsOf 70 = .ok (.iload 6, 2) := by decide +kernel
theorem dX6_unitsOf_72 : decode cX6_unitsOf 72 = .ok (.iaload, 1) := by decide +kernel
theorem dX6_unitsOf_73 : decode cX6_unitsOf 73 = .ok (.aload_n 0, 1) := by decide +kernel
theorem dX6_unitsOf_74 : decode cX6_unitsOf 74 = .ok (.getfield 9, 3) := by decide +kernel
theorem dX6_unitsOf_77 : decode cX6_unitsOf 77 = .ok (.getfield 115, 3) := by decide +kernel
theorem dX6_unitsOf_80 : decode cX6_unitsOf 80 = .ok (.iload 6, 2) := by decide +kernel
theorem dX6_unitsOf_82 : decode cX6_unitsOf 82 = .ok (.iaload, 1) := by decide +kernel
theorem dX6_unitsOf_83 : decode cX6_unitsOf 83 = .ok (.invokevirtual 118, 3) := by decide +kernel
theorem dX6_unitsOf_86 : decode cX6_unitsOf 86 = .ok (.aload_n 0, 1) := by decide +kernel
theorem dX6_unitsOf_87 : decode cX6_unitsOf 87 = .ok (.getfield 9, 3) := by decide +kernel
theorem dX6_unitsOf_90 : decode cX6_unitsOf 90 = .ok (.getfield 122, 3) := by decide +kernel
theorem dX6_unitsOf_93 : decode cX6_unitsOf 93 = .ok (.iload 6, 2) := by decide +kernel
theorem dX6_unitsOf_95 : decode cX6_unitsOf 95 = .ok (.iaload, 1) := by decide +kernel
theorem dX6_unitsOf_96 : decode cX6_unitsOf 96 = .ok (.i2l, 1) := by decide +kernel
theorem dX6_unitsOf_97 : decode cX6_unitsOf 97 = .ok (.lmul, 1) := by decide +kernel
theorem dX6_unitsOf_98 : decode cX6_unitsOf 98 = .ok (.ladd, 1) := by decide +kernel
theorem dX6_unitsOf_99 : decode cX6_unitsOf 99 = .ok (.lstore 4, 2) := by decide +kernel
theorem dX6_unitsOf_101 : decode cX6_unitsOf 101 = .ok (.iinc 6 1, 3) := by decide +kernel
theorem dX6_unitsOf_104 : decode cX6_unitsOf 104 = .ok (.goto (-75), 3) := by decide +kernel
theorem dX6_unitsOf_107 : decode cX6_unitsOf 107 = .ok (.lload 4, 2) := by decide +kernel
theorem dX6_unitsOf_109 : decode cX6_unitsOf 109 = .ok (.lreturn, 1) := by decide +kernel
def w_Od_unitsOf_29 (C : zC) (n0 : Nat) (Q : Int64 → zS → Prop)  (a0 : Nat) (a1 : Int32) (a2 : Int32) (a3 : Int32) (a4 : Int64) (a6 : Int32) (κ : zS) : Prop :=
  ∃ I : Nat → Nat → Int32 → Int32 → Int32 → Int64 → Int32 → zS → Prop, (∃ n, I n a0 a1 a2 a3 a4 a6 κ) ∧ ∀ n a0 a1 a2 a3 a4 a6 κ, zW C n0 κ → zT κ a0 = 9 → I n a0 a1 a2 a3 a4 a6 κ →
    inb (a1 + (1 : Int32)) (zN κ (zR κ atFirsts (zR κ odAtlas a0))) ∧
    ((zA κ (zR κ atFirsts (zR κ odAtlas a0)) ((a1 + (1 : Int32))).toNatClampNeg) ≤ a6 →
      Q a4 κ) ∧
    (¬ (zA κ (zR κ atFirsts (zR κ odAtlas a0)) ((a1 + (1 : Int32))).toNatClampNeg) ≤ a6 →
      ∀ _ : zT κ (zR κ odAtlas a0) = 3,
      zRun C 0 mAt_isTaken [.ref (zR κ odAtlas a0), .int a1, .int a6] κ (oI (fun r2 κ1 =>
        ∀ _ : zW C n0 κ1,
        ∀ _ : zM (zn κ) κ κ1,
        (r2 = (0 : Int32) →
          ∀ v6_4 : Int32, v6_4 = a6 + (1 : Int32) →
          ∃ k < n, I k a0 a1 a2 a3 a4 v6_4 κ1) ∧
        (¬ r2 = (0 : Int32) →
          inb a6 (zN κ1 (zR κ1 atSorts (zR κ1 odAtlas a0))) ∧
          inb a6 (zN κ1 (zR κ1 atNumbers (zR κ1 odAtlas a0))) ∧
          ∀ _ : zT κ1 a0 = 9,
          zRun C 3 mOd_share [.ref a0, .int a2, .int a3, .int (zA κ1 (zR κ1 atSorts (zR κ1 odAtlas a0)) (a6).toNatClampNeg), .int (zA κ1 (zR κ1 atNumbers (zR κ1 odAtlas a0)) (a6).toNatClampNeg)] κ1 (oJ (fun r8 κ7 =>
            ∀ _ : zW C n0 κ7,
            ∀ _ : zM (zn κ1) κ1 κ7,
            inb a6 (zN κ7 (zR κ7 atWeights (zR κ7 odAtlas a0))) ∧
            ∀ v4_11 : Int64, v4_11 = (a4 + (r8 * (Int32.toInt64 (zA κ7 (zR κ7 atWeights (zR κ7 odAtlas a0)) (a6).toNatClampNeg)))) →
            ∀ v6_12 : Int32, v6_12 = a6 + (1 : Int32) →
            ∃ k < n, I k a0 a1 a2 a3 v4_11 v6_12 κ7) noX))) noX))
theorem t_Od_unitsOf_29 {C : zC} {n0 : Nat} {Q : Int64 → zS → Prop}   {a0 : Nat} {a1 : Int32} {a2 : Int32} {a3 : Int32} {a4 : Int64} {a6 : Int32} {κ : zS} (W : zW C n0 κ) (Ta0 : zT κ a0 = 9) (F : w_Od_unitsOf_29 C n0 Q  a0 a1 a2 a3 a4 a6 κ) : zG C n0 4 mOd_unitsOf 29 [some (.ref a0), some (.int a1), some (.int a2), some (.int a3), some (.long a4), none, some (.int a6)] [] κ (oJ Q noX) := by
  obtain ⟨I, ⟨m0, hI0⟩, F0⟩ := F
  have key : ∀ n a0 a1 a2 a3 a4 a6 κ, zW C n0 κ → zT κ a0 = 9 → I n a0 a1 a2 a3 a4 a6 κ → zG C n0 4 mOd_unitsOf 29 [some (.ref a0), some (.int a1), some (.int a2), some (.int a3), some (.long a4), none, some (.int a6)] [] κ (oJ Q noX) := by
    intro n
    induction n using Nat.strongRecOn with
    | _ n ih =>
      intro a0 a1 a2 a3 a4 a6 κ W Ta0 hI
      have F := F0 n a0 a1 a2 a3 a4 a6 κ W Ta0 hI
      clear hI hI0
      refine y_il dX6_unitsOf_29 rfl ?_
      refine y_aln dX6_unitsOf_31 rfl ?_
      refine gf_X6_9 W dX6_unitsOf_32 rfl Ta0 ?_
      refine gf_X6_105 W dX6_unitsOf_35 rfl (ty_odAtlas W Ta0) ?_
      refine y_iln dX6_unitsOf_38 rfl ?_
      refine y_ic dX6_unitsOf_39 zi_1 ?_
      refine y_iadd dX6_unitsOf_40 ?_
      refine y_ald dX6_unitsOf_41 (ty_atFirsts W (ty_odAtlas W Ta0)) F.1 ?_
      replace F := F.2
      refine y_ii ((zA κ (zR κ atFirsts (zR κ odAtlas a0)) ((a1 + (1 : Int32))).toNatClampNeg) ≤ a6) dX6_unitsOf_42 (t := 107) rfl rfl (fun c9 => ?_) (fun c9 => ?_)
      · replace F := F.1 c9
        refine y_ll dX6_unitsOf_107 rfl ?_
        exact y_rl W dX6_unitsOf_109 rfl F
      · replace F := F.2 c9
        refine y_aln dX6_unitsOf_45 rfl ?_
        refine gf_X6_9 W dX6_unitsOf_46 rfl Ta0 ?_
        refine y_iln dX6_unitsOf_49 rfl ?_
        refine y_il dX6_unitsOf_50 rfl ?_
        replace F := F (ty_odAtlas W Ta0)
        refine k_X6_108 W dX6_unitsOf_52 rfl (Nat.le_of_ble_eq_true rfl) (Nat.le_of_ble_eq_true rfl) (Or.inl (ty_odAtlas W Ta0)) F (fun r2 κ1 Wκ1 Mκ1 F => ?_) (fun _ _ h9 => False.elim h9)
        replace F := F Wκ1 Mκ1
        refine y_i (r2 = (0 : Int32)) dX6_unitsOf_55 (t := 101) rfl rfl (fun c9 => ?_) (fun c9 => ?_)
        · replace F := F.1 c9
          refine y_incb dX6_unitsOf_101 zi_1 rfl (Nat.le_of_ble_eq_true rfl) (fun v6_4 ev6_4 => ?_)
          replace F := F v6_4 ev6_4
          show zG _ _ _ _ _ [some (.ref a0), some (.int a1), some (.int a2), some (.int a3), some (.long a4), none, some (.int v6_4)] _ _ _
          refine y_goto dX6_unitsOf_104 (t := 29) rfl ?_
          have h5 := (ztm W Mκ1 Ta0)
          obtain ⟨k, hk, hI⟩ := F
          exact y_k (ih k hk _ _ _ _ _ _ _ Wκ1 h5 hI) ⟨rfl, rfl, rfl, rfl, rfl, rfl, trivial⟩
        · replace F := F.2 c9
          refine y_ll dX6_unitsOf_58 rfl ?_
          refine y_aln dX6_unitsOf_60 rfl ?_
          refine y_iln dX6_unitsOf_61 rfl ?_
          refine y_iln dX6_unitsOf_62 rfl ?_
          refine y_aln dX6_unitsOf_63 rfl ?_
          have h6 := (ztm W Mκ1 Ta0)
          refine gf_X6_9 Wκ1 dX6_unitsOf_64 rfl h6 ?_
          refine gf_X6_112 Wκ1 dX6_unitsOf_67 rfl (ty_odAtlas Wκ1 h6) ?_
          refine y_il dX6_unitsOf_70 rfl ?_
          refine y_ald dX6_unitsOf_72 (ty_atSorts Wκ1 (ty_odAtlas Wκ1 h6)) F.1 ?_
          replace F := F.2
          refine y_aln dX6_unitsOf_73 rfl ?_
          refine gf_X6_9 Wκ1 dX6_unitsOf_74 rfl h6 ?_
          refine gf_X6_115 Wκ1 dX6_unitsOf_77 rfl (ty_odAtlas Wκ1 h6) ?_
          refine y_il dX6_unitsOf_80 rfl ?_
          refine y_ald dX6_unitsOf_82 (ty_atNumbers Wκ1 (ty_odAtlas Wκ1 h6)) F.1 ?_
          replace F := F.2
          replace F := F h6
          refine k_X6_118 Wκ1 dX6_unitsOf_83 rfl (Nat.le_of_ble_eq_true rfl) (Nat.le_of_ble_eq_true rfl) (Or.inl h6) F (fun r8 κ7 Wκ7 Mκ7 F => ?_) (fun _ _ h9 => False.elim h9)
          replace F := F Wκ7 Mκ7
          refine y_aln dX6_unitsOf_86 rfl ?_
          have h10 := (ztm Wκ1 Mκ7 h6)
          refine gf_X6_9 Wκ7 dX6_unitsOf_87 rfl h10 ?_
          refine gf_X6_122 Wκ7 dX6_unitsOf_90 rfl (ty_odAtlas Wκ7 h10) ?_
          refine y_il dX6_unitsOf_93 rfl ?_
          refine y_ald dX6_unitsOf_95 (ty_atWeights Wκ7 (ty_odAtlas Wκ7 h10)) F.1 ?_
          replace F := F.2
          refine y_i2l dX6_unitsOf_96 ?_
          refine y_lmul dX6_unitsOf_97 ?_
          refine y_ladd dX6_unitsOf_98 ?_
          refine y_lsb dX6_unitsOf_99 (Nat.le_of_ble_eq_true rfl) (fun v4_11 ev4_11 => ?_)
          replace F := F v4_11 ev4_11
          show zG _ _ _ _ _ [some (.ref a0), some (.int a1), some (.int a2), some (.int a3), some (.long v4_11), none, some (.int a6)] _ _ _
          refine y_incb dX6_unitsOf_101 zi_1 rfl (Nat.le_of_ble_eq_true rfl) (fun v6_12 ev6_12 => ?_)
          replace F := F v6_12 ev6_12
          show zG _ _ _ _ _ [some (.ref a0), some (.int a1), some (.int a2), some (.int a3), some (.long v4_11), none, some (.int v6_12)] _ _ _
          refine y_goto dX6_unitsOf_104 (t := 29) rfl ?_
          obtain ⟨k, hk, hI⟩ := F
          exact y_k (ih k hk _ _ _ _ _ _ _ Wκ7 h10 hI) ⟨rfl, rfl, rfl, rfl, rfl, rfl, trivial⟩
  exact key m0 a0 a1 a2 a3 a4 a6 κ W Ta0 hI0

def w_Od_unitsOf_0 (C : zC) (n0 : Nat) (Q : Int64 → zS → Prop)  (a0 : Nat) (a1 : Int32) (a2 : Int32) (a3 : Int32) (κ : zS) : Prop :=
  inb a1 (zN κ (zR κ soVisits (zR κ odSolver a0))) ∧
  ∃ u1, (zQ κ (zR κ soVisits (zR κ odSolver a0)) (a1).toNatClampNeg) = some u1 ∧
  ((zI κ raSign u1) = (0 : Int32) →
    Q (0 : Int64) κ) ∧
  (¬ (zI κ raSign u1) = (0 : Int32) →
    inb a1 (zN κ (zR κ atFirsts (zR κ odAtlas a0))) ∧
    ∀ v6_2 : Int32, v6_2 = (zA κ (zR κ atFirsts (zR κ odAtlas a0)) (a1).toNatClampNeg) →
    w_Od_unitsOf_29 C n0 Q  a0 a1 a2 a3 (0 : Int64) v6_2 κ)
theorem t_Od_unitsOf_0 {C : zC} {n0 : Nat} {Q : Int64 → zS → Prop}   {a0 : Nat} {a1 : Int32} {a2 : Int32} {a3 : Int32} {κ : zS} (W : zW C n0 κ) (Ta0 : zT κ a0 = 9) (F : w_Od_unitsOf_0 C n0 Q  a0 a1 a2 a3 κ) : zG C n0 4 mOd_unitsOf 0 [some (.ref a0), some (.int a1), some (.int a2), some (.int a3), none, none, none] [] κ (oJ Q noX) := by
  unfold w_Od_unitsOf_0 at F
  refine y_lc dX6_unitsOf_0 zl_0 ?_
  refine y_ls dX6_unitsOf_1 (Nat.le_of_ble_eq_true rfl) rfl ?_
  show zG _ _ _ _ _ [some (.ref a0), some (.int a1), some (.int a2), some (.int a3), some (.long (0 : Int64)), none, none] _ _ _
  refine y_aln dX6_unitsOf_3 rfl ?_
  refine gf_X6_15 W dX6_unitsOf_4 rfl Ta0 ?_
  refine gf_X6_93 W dX6_unitsOf_7 rfl (ty_odSolver W Ta0) ?_
  refine y_iln dX6_unitsOf_10 rfl ?_
  refine y_qld (t := 5) dX6_unitsOf_11 (ty_soVisits W (ty_odSolver W Ta0)) (by decide) F.1 ?_
  replace F := F.2
  obtain ⟨u1, Eu1, F⟩ := F
  have Tu1 : zT κ u1 = 11 := (fun v hv => W.2.2.2.2.1 _ _ v (ty_soVisits W (ty_odSolver W Ta0)) hv) u1 Eu1
  refine y_uq0 Eu1 ?_
  refine gf_X6_99 dX6_unitsOf_12 rfl (Or.inl Tu1) ?_
  refine y_i ((zI κ raSign u1) = (0 : Int32)) dX6_unitsOf_15 (t := 107) rfl rfl (fun c9 => ?_) (fun c9 => ?_)
  · replace F := F.1 c9
    refine y_ll dX6_unitsOf_107 rfl ?_
    exact y_rl W dX6_unitsOf_109 rfl F
  · replace F := F.2 c9
    refine y_aln dX6_unitsOf_18 rfl ?_
    refine gf_X6_9 W dX6_unitsOf_19 rfl Ta0 ?_
    refine gf_X6_105 W dX6_unitsOf_22 rfl (ty_odAtlas W Ta0) ?_
    refine y_iln dX6_unitsOf_25 rfl ?_
    refine y_ald dX6_unitsOf_26 (ty_atFirsts W (ty_odAtlas W Ta0)) F.1 ?_
    replace F := F.2
    refine y_isb dX6_unitsOf_27 (Nat.le_of_ble_eq_true rfl) (fun v6_2 ev6_2 => ?_)
    replace F := F v6_2 ev6_2
    show zG _ _ _ _ _ [some (.ref a0), some (.int a1), some (.int a2), some (.int a3), some (.long (0 : Int64)), none, some (.int v6_2)] _ _ _
    exact y_k (t_Od_unitsOf_29  W Ta0 F) ⟨rfl, rfl, rfl, rfl, rfl, rfl, trivial⟩

theorem Od_unitsOf_run {C : zC} {n0 : Nat} {Q : Int64 → zS → Prop} {a0 : Nat} {a1 : Int32} {a2 : Int32} {a3 : Int32} {κ : zS} (W : zW C n0 κ) (Ta0 : zT κ a0 = 9) (F : w_Od_unitsOf_0 C (zn κ) Q a0 a1 a2 a3 κ) : zRun C 4 mOd_unitsOf [.ref a0, .int a1, .int a2, .int a3] κ (oJ Q noX) := z_run (m_ent _ 3) (t_Od_unitsOf_0 (W.lo (Nat.le_trans W.1.2.1 W.1.2.2) (Nat.le_refl _)) Ta0 F)

theorem dX6_weighs_0 : decode cX6_weighs 0 = .ok (.aload_n 0, 1) := by decide +kernel
theorem dX6_weighs_1 : decode cX6_weighs 1 = .ok (.getfield 9, 3) := by decide +kernel
theorem dX6_weighs_4 : decode cX6_weighs 4 = .ok (.getfield 125, 3) := by decide +kernel
theorem dX6_weighs_7 : decode cX6_weighs 7 = .ok (.getfield 128, 3) := by decide +kernel
theorem dX6_weighs_10 : decode cX6_weighs 10 = .ok (.istore_n 2, 1) := by decide +kernel
theorem dX6_weighs_11 : decode cX6_weighs 11 = .ok (.iload_n 2, 1) := by decide +kernel
theorem dX6_weighs_12 : decode cX6_weighs 12 = .ok (.ifCond .ne 7, 3) := by decide +kernel
theorem dX6_weighs_15 : decode cX6_weighs 15 = .ok (.iconst 1, 1) := by decide +kernel
theorem dX6_weighs_16 : decode cX6_weighs 16 = .ok (.goto 4, 3) := by decide +kernel
theorem dX6_weighs_19 : decode cX6_weighs 19 = .ok (.iconst 0, 1) := by decide +kernel
theorem dX6_weighs_20 : decode cX6_weighs 20 = .ok (.istore_n 3, 1) := by decide +kernel
theorem dX6_weighs_21 : decode cX6_weighs 21 = .ok (.iconst 0, 1) := by decide +kernel
theorem dX6_weighs_22 : decode cX6_weighs 22 = .ok (.istore 4, 2) := by decide +kernel
theorem dX6_weighs_24 : decode cX6_weighs 24 = .ok (.iload 4, 2) := by decide +kernel
theorem dX6_weighs_26 : decode cX6_weighs 26 = .ok (.iload_n 2, 1) := by decide +kernel
theorem dX6_weighs_27 : decode cX6_weighs 27 = .ok (.if_icmp .ge 32, 3) := by decide +kernel
theorem dX6_weighs_30 : decode cX6_weighs 30 = .ok (.iload_n 3, 1) := by decide +kernel
theorem dX6_weighs_31 : decode cX6_weighs 31 = .ok (.ifCond .ne 28, 3) := by decide +kernel
theorem dX6_weighs_34 : decode cX6_weighs 34 = .ok (.aload_n 0, 1) := by decide +kernel
theorem dX6_weighs_35 : decode cX6_weighs 35 = .ok (.iload 4, 2) := by decide +kernel
theorem dX6_weighs_37 : decode cX6_weighs 37 = .ok (.iload_n 1, 1) := by decide +kernel
theorem dX6_weighs_38 : decode cX6_weighs 38 = .ok (.iconst 0, 1) := by decide +kernel
theorem dX6_weighs_39 : decode cX6_weighs 39 = .ok (.invokevirtual 131, 3) := by decide +kernel
theorem dX6_weighs_42 : decode cX6_weighs 42 = .ok (.lconst 0, 1) := by decide +kernel
theorem dX6_weighs_43 : decode cX6_weighs 43 = .ok (.lcmp, 1) := by decide +kernel
theorem dX6_weighs_44 : decode cX6_weighs 44 = .ok (.ifCond .eq 7, 3) := by decide +kernel
theorem dX6_weighs_47 : decode cX6_weighs 47 = .ok (.iconst 1, 1) := by decide +kernel
theorem dX6_weighs_48 : decode cX6_weighs 48 = .ok (.goto 4, 3) := by decide +kernel
theorem dX6_weighs_51 : decode cX6_weighs 51 = .ok (.iconst 0, 1) := by decide +kernel
theorem dX6_weighs_52 : decode cX6_weighs 52 = .ok (.istore_n 3, 1) := by decide +kernel
theorem dX6_weighs_53 : decode cX6_weighs 53 = .ok (.iinc 4 1, 3) := by decide +kernel
theorem dX6_weighs_56 : decode cX6_weighs 56 = .ok (.goto (-32), 3) := by decide +kernel
theorem dX6_weighs_59 : decode cX6_weighs 59 = .ok (.iload_n 3, 1) := by decide +kernel
theorem dX6_weighs_60 : decode cX6_weighs 60 = .ok (.ireturn, 1) := by decide +kernel
def w_Od_weighs_52 (C : zC) (n0 : Nat) (Q : Int32 → zS → Prop) (B24 : Nat → Int32 → Int32 → Int32 → Int32 → zS → Prop) (a0 : Nat) (a1 : Int32) (a2 : Int32) (a4 : Int32) (s0 : Int32) (κ : zS) : Prop :=
  ∀ v4_1 : Int32, v4_1 = a4 + (1 : Int32) →
  B24 a0 a1 a2 s0 v4_1 κ
theorem t_Od_weighs_52 {C : zC} {n0 : Nat} {Q : Int32 → zS → Prop} {B24 : Nat → Int32 → Int32 → Int32 → Int32 → zS → Prop} (hB24 : ∀ a0' a1' a2' a3' a4' τ, zW C n0 τ → zT τ a0' = 9 → B24 a0' a1' a2' a3' a4' τ → zG C n0 5 mOd_weighs 24 [some (.ref a0'), some (.int a1'), some (.int a2'), some (.int a3'), some (.int a4')] [] τ (oI Q noX)) {a0 : Nat} {a1 : Int32} {a2 : Int32} {a4 : Int32} {s0 : Int32} {κ : zS} (W : zW C n0 κ) (Ta0 : zT κ a0 = 9) (F : w_Od_weighs_52 C n0 Q B24 a0 a1 a2 a4 s0 κ) : zG C n0 5 mOd_weighs 52 [some (.ref a0), some (.int a1), some (.int a2), none, some (.int a4)] [.int s0] κ (oI Q noX) := by
  unfold w_Od_weighs_52 at F
  refine y_isn dX6_weighs_52 (Nat.le_of_ble_eq_true rfl) rfl ?_
  show zG _ _ _ _ _ [some (.ref a0), some (.int a1), some (.int a2), some (.int s0), some (.int a4)] _ _ _
  refine y_incb dX6_weighs_53 zi_1 rfl (Nat.le_of_ble_eq_true rfl) (fun v4_1 ev4_1 => ?_)
  replace F := F v4_1 ev4_1
  show zG _ _ _ _ _ [some (.ref a0), some (.int a1), some (.int a2), some (.int s0), some (.int v4_1)] _ _ _
  refine y_goto dX6_weighs_56 (t := 24) rfl ?_
  exact y_k (hB24 _ _ _ _ _ _ W Ta0 F) ⟨rfl, rfl, rfl, rfl, rfl, trivial⟩

def w_Od_weighs_24 (C : zC) (n0 : Nat) (Q : Int32 → zS → Prop)  (a0 : Nat) (a1 : Int32) (a2 : Int32) (a3 : Int32) (a4 : Int32) (κ : zS) : Prop :=
  ∃ I : Nat → Nat → Int32 → Int32 → Int32 → Int32 → zS → Prop, (∃ n, I n a0 a1 a2 a3 a4 κ) ∧ ∀ n a0 a1 a2 a3 a4 κ, zW C n0 κ → zT κ a0 = 9 → I n a0 a1 a2 a3 a4 κ →
    (a2 ≤ a4 →
      nb a3 ∧ Q a3 κ) ∧
    (¬ a2 ≤ a4 →
      (¬ a3 = (0 : Int32) →
        nb a3 ∧ Q a3 κ) ∧
      (a3 = (0 : Int32) →
        ∀ _ : zT κ a0 = 9,
        zRun C 4 mOd_unitsOf [.ref a0, .int a4, .int a1, .int (0 : Int32)] κ (oJ (fun r2 κ1 =>
          ∀ _ : zW C n0 κ1,
          ∀ _ : zM (zn κ) κ κ1,
          ((lg_cmp r2 (0 : Int64)) = (0 : Int32) →
            w_Od_weighs_52 C n0 Q (fun a0' a1' a2' a3' a4' τ => ∃ k < n, I k a0' a1' a2' a3' a4' τ) a0 a1 a2 a4 (0 : Int32) κ1) ∧
          (¬ (lg_cmp r2 (0 : Int64)) = (0 : Int32) →
            w_Od_weighs_52 C n0 Q (fun a0' a1' a2' a3' a4' τ => ∃ k < n, I k a0' a1' a2' a3' a4' τ) a0 a1 a2 a4 (1 : Int32) κ1)) noX)))
theorem t_Od_weighs_24 {C : zC} {n0 : Nat} {Q : Int32 → zS → Prop}   {a0 : Nat} {a1 : Int32} {a2 : Int32} {a3 : Int32} {a4 : Int32} {κ : zS} (W : zW C n0 κ) (Ta0 : zT κ a0 = 9) (F : w_Od_weighs_24 C n0 Q  a0 a1 a2 a3 a4 κ) : zG C n0 5 mOd_weighs 24 [some (.ref a0), some (.int a1), some (.int a2), some (.int a3), some (.int a4)] [] κ (oI Q noX) := by
  obtain ⟨I, ⟨m0, hI0⟩, F0⟩ := F
  have key : ∀ n a0 a1 a2 a3 a4 κ, zW C n0 κ → zT κ a0 = 9 → I n a0 a1 a2 a3 a4 κ → zG C n0 5 mOd_weighs 24 [some (.ref a0), some (.int a1), some (.int a2), some (.int a3), some (.int a4)] [] κ (oI Q noX) := by
    intro n
    induction n using Nat.strongRecOn with
    | _ n ih =>
      intro a0 a1 a2 a3 a4 κ W Ta0 hI
      have F := F0 n a0 a1 a2 a3 a4 κ W Ta0 hI
      clear hI hI0
      refine y_il dX6_weighs_24 rfl ?_
      refine y_iln dX6_weighs_26 rfl ?_
      refine y_ii (a2 ≤ a4) dX6_weighs_27 (t := 59) rfl rfl (fun c9 => ?_) (fun c9 => ?_)
      · replace F := F.1 c9
        refine y_iln dX6_weighs_59 rfl ?_
        exact y_ri W dX6_weighs_60 rfl (nb_nar F.1) F.2
      · replace F := F.2 c9
        refine y_iln dX6_weighs_30 rfl ?_
        refine y_in (a3 = (0 : Int32)) dX6_weighs_31 (t := 59) rfl rfl (fun c9 => ?_) (fun c9 => ?_)
        · replace F := F.1 c9
          refine y_iln dX6_weighs_59 rfl ?_
          exact y_ri W dX6_weighs_60 rfl (nb_nar F.1) F.2
        · replace F := F.2 c9
          refine y_aln dX6_weighs_34 rfl ?_
          refine y_il dX6_weighs_35 rfl ?_
          refine y_iln dX6_weighs_37 rfl ?_
          refine y_ic dX6_weighs_38 zi_0 ?_
          replace F := F Ta0
          refine k_X6_131 W dX6_weighs_39 rfl (Nat.le_of_ble_eq_true rfl) (Nat.le_of_ble_eq_true rfl) (Or.inl Ta0) F (fun r2 κ1 Wκ1 Mκ1 F => ?_) (fun _ _ h9 => False.elim h9)
          replace F := F Wκ1 Mκ1
          refine y_lc dX6_weighs_42 zl_0 ?_
          refine y_lcmp dX6_weighs_43 ?_
          refine y_i ((lg_cmp r2 (0 : Int64)) = (0 : Int32)) dX6_weighs_44 (t := 51) rfl rfl (fun c9 => ?_) (fun c9 => ?_)
          · replace F := F.1 c9
            refine y_ic dX6_weighs_51 zi_0 ?_
            have h4 := (ztm W Mκ1 Ta0)
            exact y_k (t_Od_weighs_52 (fun a0' a1' a2' a3' a4' τ w9 f09 hb => by obtain ⟨k, hk, hI⟩ := hb; exact ih k hk a0' a1' a2' a3' a4' τ w9 f09 hI) Wκ1 h4 F) ⟨rfl, rfl, rfl, rfl, trivial⟩
          · replace F := F.2 c9
            refine y_ic dX6_weighs_47 zi_1 ?_
            refine y_goto dX6_weighs_48 (t := 52) rfl ?_
            have h5 := (ztm W Mκ1 Ta0)
            exact y_k (t_Od_weighs_52 (fun a0' a1' a2' a3' a4' τ w9 f09 hb => by obtain ⟨k, hk, hI⟩ := hb; exact ih k hk a0' a1' a2' a3' a4' τ w9 f09 hI) Wκ1 h5 F) ⟨rfl, rfl, rfl, rfl, trivial⟩
  exact key m0 a0 a1 a2 a3 a4 κ W Ta0 hI0

def w_Od_weighs_20 (C : zC) (n0 : Nat) (Q : Int32 → zS → Prop)  (a0 : Nat) (a1 : Int32) (a2 : Int32) (s0 : Int32) (κ : zS) : Prop :=
  w_Od_weighs_24 C n0 Q  a0 a1 a2 s0 (0 : Int32) κ
theorem t_Od_weighs_20 {C : zC} {n0 : Nat} {Q : Int32 → zS → Prop}   {a0 : Nat} {a1 : Int32} {a2 : Int32} {s0 : Int32} {κ : zS} (W : zW C n0 κ) (Ta0 : zT κ a0 = 9) (F : w_Od_weighs_20 C n0 Q  a0 a1 a2 s0 κ) : zG C n0 5 mOd_weighs 20 [some (.ref a0), some (.int a1), some (.int a2), none, none] [.int s0] κ (oI Q noX) := by
  unfold w_Od_weighs_20 at F
  refine y_isn dX6_weighs_20 (Nat.le_of_ble_eq_true rfl) rfl ?_
  show zG _ _ _ _ _ [some (.ref a0), some (.int a1), some (.int a2), some (.int s0), none] _ _ _
  refine y_ic dX6_weighs_21 zi_0 ?_
  refine y_is dX6_weighs_22 (Nat.le_of_ble_eq_true rfl) rfl ?_
  show zG _ _ _ _ _ [some (.ref a0), some (.int a1), some (.int a2), some (.int s0), some (.int (0 : Int32))] _ _ _
  exact y_k (t_Od_weighs_24  W Ta0 F) ⟨rfl, rfl, rfl, rfl, rfl, trivial⟩

def w_Od_weighs_0 (C : zC) (n0 : Nat) (Q : Int32 → zS → Prop)  (a0 : Nat) (a1 : Int32) (κ : zS) : Prop :=
  ∀ v2_1 : Int32, v2_1 = (zI κ hoTotal (zR κ atStates (zR κ odAtlas a0))) →
  (¬ v2_1 = (0 : Int32) →
    w_Od_weighs_20 C n0 Q  a0 a1 v2_1 (0 : Int32) κ) ∧
  (v2_1 = (0 : Int32) →
    w_Od_weighs_20 C n0 Q  a0 a1 v2_1 (1 : Int32) κ)
theorem t_Od_weighs_0 {C : zC} {n0 : Nat} {Q : Int32 → zS → Prop}   {a0 : Nat} {a1 : Int32} {κ : zS} (W : zW C n0 κ) (Ta0 : zT κ a0 = 9) (F : w_Od_weighs_0 C n0 Q  a0 a1 κ) : zG C n0 5 mOd_weighs 0 [some (.ref a0), some (.int a1), none, none, none] [] κ (oI Q noX) := by
  unfold w_Od_weighs_0 at F
  refine y_aln dX6_weighs_0 rfl ?_
  refine gf_X6_9 W dX6_weighs_1 rfl Ta0 ?_
  refine gf_X6_125 W dX6_weighs_4 rfl (ty_odAtlas W Ta0) ?_
  refine gf_X6_128 dX6_weighs_7 rfl (Or.inl (ty_atStates W (ty_odAtlas W Ta0))) ?_
  refine y_isnb dX6_weighs_10 (Nat.le_of_ble_eq_true rfl) (fun v2_1 ev2_1 => ?_)
  replace F := F v2_1 ev2_1
  show zG _ _ _ _ _ [some (.ref a0), some (.int a1), some (.int v2_1), none, none] _ _ _
  refine y_iln dX6_weighs_11 rfl ?_
  refine y_in (v2_1 = (0 : Int32)) dX6_weighs_12 (t := 19) rfl rfl (fun c9 => ?_) (fun c9 => ?_)
  · replace F := F.1 c9
    refine y_ic dX6_weighs_19 zi_0 ?_
    exact y_k (t_Od_weighs_20  W Ta0 F) ⟨rfl, rfl, rfl, trivial⟩
  · replace F := F.2 c9
    refine y_ic dX6_weighs_15 zi_1 ?_
    refine y_goto dX6_weighs_16 (t := 20) rfl ?_
    exact y_k (t_Od_weighs_20  W Ta0 F) ⟨rfl, rfl, rfl, trivial⟩

theorem Od_weighs_run {C : zC} {n0 : Nat} {Q : Int32 → zS → Prop} {a0 : Nat} {a1 : Int32} {κ : zS} (W : zW C n0 κ) (Ta0 : zT κ a0 = 9) (F : w_Od_weighs_0 C (zn κ) Q a0 a1 κ) : zRun C 5 mOd_weighs [.ref a0, .int a1] κ (oI Q noX) := z_run (m_ent _ 3) (t_Od_weighs_0 (W.lo (Nat.le_trans W.1.2.1 W.1.2.2) (Nat.le_refl _)) Ta0 F)

theorem dX9_addTerm_0 : decode cX9_addTerm 0 = .ok (.aload_n 0, 1) := by decide +kernel
theorem dX9_addTerm_1 : decode cX9_addTerm 1 = .ok (.getfield 49, 3) := by decide +kernel
theorem dX9_addTerm_4 : decode cX9_addTerm 4 = .ok (.lload_n 1, 1) := by decide +kernel
theorem dX9_addTerm_5 : decode cX9_addTerm 5 = .ok (.invokestatic 219, 3) := by decide +kernel
theorem dX9_addTerm_8 : decode cX9_addTerm 8 = .ok (.invokevirtual 191, 3) := by decide +kernel
theorem dX9_addTerm_11 : decode cX9_addTerm 11 = .ok (.aload_n 0, 1) := by decide +kernel
theorem dX9_addTerm_12 : decode cX9_addTerm 12 = .ok (.getfield 40, 3) := by decide +kernel
theorem dX9_addTerm_15 : decode cX9_addTerm 15 = .ok (.aload_n 0, 1) := by decide +kernel
theorem dX9_addTerm_16 : decode cX9_addTerm 16 = .ok (.getfield 45, 3) := by decide +kernel
theorem dX9_addTerm_19 : decode cX9_addTerm 19 = .ok (.getfield 151, 3) := by decide +kernel
theorem dX9_addTerm_22 : decode cX9_addTerm 22 = .ok (.invokevirtual 223, 3) := by decide +kernel
theorem dX9_addTerm_25 : decode cX9_addTerm 25 = .ok (.ifCond .ne 24, 3) := by decide +kernel
theorem dX9_addTerm_28 : decode cX9_addTerm 28 = .ok (.aload_n 0, 1) := by decide +kernel
theorem dX9_addTerm_29 : decode cX9_addTerm 29 = .ok (.getfield 55, 3) := by decide +kernel
theorem dX9_addTerm_32 : decode cX9_addTerm 32 = .ok (.aload_n 0, 1) := by decide +kernel
theorem dX9_addTerm_33 : decode cX9_addTerm 33 = .ok (.getfield 45, 3) := by decide +kernel
theorem dX9_addTerm_36 : decode cX9_addTerm 36 = .ok (.getfield 139, 3) := by decide +kernel
theorem dX9_addTerm_39 : decode cX9_addTerm 39 = .ok (.aload_n 0, 1) := by decide +kernel
theorem dX9_addTerm_40 : decode cX9_addTerm 40 = .ok (.getfield 49, 3) := by decide +kernel
theorem dX9_addTerm_43 : decode cX9_addTerm 43 = .ok (.invokevirtual 227, 3) := by decide +kernel
theorem dX9_addTerm_46 : decode cX9_addTerm 46 = .ok (.goto 57, 3) := by decide +kernel
theorem dX9_addTerm_49 : decode cX9_addTerm 49 = .ok (.aload_n 0, 1) := by decide +kernel
theorem dX9_addTerm_50 : decode cX9_addTerm 50 = .ok (.getfield 15, 3) := by decide +kernel
theorem dX9_addTerm_53 : decode cX9_addTerm 53 = .ok (.aload_n 0, 1) := by decide +kernel
theorem dX9_addTerm_54 : decode cX9_addTerm 54 = .ok (.getfield 40, 3) := by decide +kernel
theorem dX9_addTerm_57 : decode cX9_addTerm 57 = .ok (.aload_n 0, 1) := by decide +kernel
theorem dX9_addTerm_58 : decode cX9_addTerm 58 = .ok (.getfield 45, 3) := by decide +kernel
theorem dX9_addTerm_61 : decode cX9_addTerm 61 = .ok (.getfield 151, 3) := by decide +kernel
theorem dX9_addTerm_64 : decode cX9_addTerm 64 = .ok (.invokevirtual 230, 3) := by decide +kernel
theorem dX9_addTerm_67 : decode cX9_addTerm 67 = .ok (.aload_n 0, 1) := by decide +kernel
theorem dX9_addTerm_68 : decode cX9_addTerm 68 = .ok (.getfield 52, 3) := by decide +kernel
theorem dX9_addTerm_71 : decode cX9_addTerm 71 = .ok (.aload_n 0, 1) := by decide +kernel
theorem dX9_addTerm_72 : decode cX9_addTerm 72 = .ok (.getfield 45, 3) := by decide +kernel
theorem dX9_addTerm_75 : decode cX9_addTerm 75 = .ok (.getfield 139, 3) := by decide +kernel
theorem dX9_addTerm_78 : decode cX9_addTerm 78 = .ok (.aload_n 0, 1) := by decide +kernel
theorem dX9_addTerm_79 : decode cX9_addTerm 79 = .ok (.getfield 49, 3) := by decide +kernel
theorem dX9_addTerm_82 : decode cX9_addTerm 82 = .ok (.invokevirtual 227, 3) := by decide +kernel
theorem dX9_addTerm_85 : decode cX9_addTerm 85 = .ok (.aload_n 0, 1) := by decide +kernel
theorem dX9_addTerm_86 : decode cX9_addTerm 86 = .ok (.getfield 55, 3) := by decide +kernel
theorem dX9_addTerm_89 : decode cX9_addTerm 89 = .ok (.aload_n 0, 1) := by decide +kernel
theorem dX9_addTerm_90 : decode cX9_addTerm 90 = .ok (.getfield 52, 3) := by decide +kernel
theorem dX9_addTerm_93 : decode cX9_addTerm 93 = .ok (.aload_n 0, 1) := by decide +kernel
theorem dX9_addTerm_94 : decode cX9_addTerm 94 = .ok (.getfield 15, 3) := by decide +kernel
theorem dX9_addTerm_97 : decode cX9_addTerm 97 = .ok (.getfield 233, 3) := by decide +kernel
theorem dX9_addTerm_100 : decode cX9_addTerm 100 = .ok (.invokevirtual 227, 3) := by decide +kernel
theorem dX9_addTerm_103 : decode cX9_addTerm 103 = .ok (.lload_n 1, 1) := by decide +kernel
theorem dX9_addTerm_104 : decode cX9_addTerm 104 = .ok (.lconst 0, 1) := by decide +kernel
theorem dX9_addTerm_105 : decode cX9_addTerm 105 = .ok (.lcmp, 1) := by decide +kernel
theorem dX9_addTerm_106 : decode cX9_addTerm 106 = .ok (.ifCond .le 17, 3) := by decide +kernel
theorem dX9_addTerm_109 : decode cX9_addTerm 109 = .ok (.aload_n 0, 1) := by decide +kernel
theorem dX9_addTerm_110 : decode cX9_addTerm 110 = .ok (.getfield 58, 3) := by decide +kernel
theorem dX9_addTerm_113 : decode cX9_addTerm 113 = .ok (.aload_n 0, 1) := by decide +kernel
theorem dX9_addTerm_114 : decode cX9_addTerm 114 = .ok (.getfield 55, 3) := by decide +kernel
theorem dX9_addTerm_117 : decode cX9_addTerm 117 = .ok (.invokevirtual 236, 3) := by decide +kernel
theorem dX9_addTerm_120 : decode cX9_addTerm 120 = .ok (.goto 14, 3) := by decide +kernel
theorem dX9_addTerm_123 : decode cX9_addTerm 123 = .ok (.aload_n 0, 1) := by decide +kernel
theorem dX9_addTerm_124 : decode cX9_addTerm 124 = .ok (.getfield 61, 3) := by decide +kernel
theorem dX9_addTerm_127 : decode cX9_addTerm 127 = .ok (.aload_n 0, 1) := by decide +kernel
theorem dX9_addTerm_128 : decode cX9_addTerm 128 = .ok (.getfield 55, 3) := by decide +kernel
theorem dX9_addTerm_131 : decode cX9_addTerm 131 = .ok (.invokevirtual 236, 3) := by decide +kernel
theorem dX9_addTerm_134 : decode cX9_addTerm 134 = .ok (.return_, 1) := by decide +kernel
def w_So_addTerm_103 (C : zC) (n0 : Nat) (Q : zS → Prop)  (a0 : Nat) (a1 : Int64) (κ : zS) : Prop :=
  ((lg_cmp a1 (0 : Int64)) ≤ (0 : Int32) →
    ∀ _ : zT κ (zR κ soLess a0) = 8,
    ∀ _ : zT κ (zR κ soTerm a0) = 8,
    zRun C 3 mNu_plus [.ref (zR κ soLess a0), .ref (zR κ soTerm a0)] κ (oV (fun κ1 =>
      ∀ _ : zW C n0 κ1,
      ∀ _ : zM (zn κ) κ κ1,
      Q κ1) noX)) ∧
  (¬ (lg_cmp a1 (0 : Int64)) ≤ (0 : Int32) →
    ∀ _ : zT κ (zR κ soSum a0) = 8,
    ∀ _ : zT κ (zR κ soTerm a0) = 8,
    zRun C 3 mNu_plus [.ref (zR κ soSum a0), .ref (zR κ soTerm a0)] κ (oV (fun κ4 =>
      ∀ _ : zW C n0 κ4,
      ∀ _ : zM (zn κ) κ κ4,
      Q κ4) noX))
theorem t_So_addTerm_103 {C : zC} {n0 : Nat} {Q : zS → Prop}   {a0 : Nat} {a1 : Int64} {κ : zS} (W : zW C n0 κ) (Ta0 : zT κ a0 = 12) (F : w_So_addTerm_103 C n0 Q  a0 a1 κ) : zG C n0 4 mSo_addTerm 103 [some (.ref a0), some (.long a1), none] [] κ (oV Q noX) := by
  unfold w_So_addTerm_103 at F
  refine y_lln dX9_addTerm_103 rfl ?_
  refine y_lc dX9_addTerm_104 zl_0 ?_
  refine y_lcmp dX9_addTerm_105 ?_
  refine y_i ((lg_cmp a1 (0 : Int64)) ≤ (0 : Int32)) dX9_addTerm_106 (t := 123) rfl rfl (fun c9 => ?_) (fun c9 => ?_)
  · replace F := F.1 c9
    refine y_aln dX9_addTerm_123 rfl ?_
    refine gf_X9_61 W dX9_addTerm_124 rfl Ta0 ?_
    refine y_aln dX9_addTerm_127 rfl ?_
    refine gf_X9_55 W dX9_addTerm_128 rfl Ta0 ?_
    replace F := F (ty_soLess W Ta0)
    replace F := F (ty_soTerm W Ta0)
    refine k_X9_236 W dX9_addTerm_131 rfl (Nat.le_of_ble_eq_true rfl) (Nat.le_of_ble_eq_true rfl) (Or.inl (ty_soLess W Ta0)) F (fun  κ1 Wκ1 Mκ1 F => ?_) (fun _ _ h9 => False.elim h9)
    replace F := F Wκ1 Mκ1
    exact y_rv Wκ1 dX9_addTerm_134 rfl F
  · replace F := F.2 c9
    refine y_aln dX9_addTerm_109 rfl ?_
    refine gf_X9_58 W dX9_addTerm_110 rfl Ta0 ?_
    refine y_aln dX9_addTerm_113 rfl ?_
    refine gf_X9_55 W dX9_addTerm_114 rfl Ta0 ?_
    replace F := F (ty_soSum W Ta0)
    replace F := F (ty_soTerm W Ta0)
    refine k_X9_236 W dX9_addTerm_117 rfl (Nat.le_of_ble_eq_true rfl) (Nat.le_of_ble_eq_true rfl) (Or.inl (ty_soSum W Ta0)) F (fun  κ4 Wκ4 Mκ4 F => ?_) (fun _ _ h9 => False.elim h9)
    replace F := F Wκ4 Mκ4
    refine y_goto dX9_addTerm_120 (t := 134) rfl ?_
    exact y_rv Wκ4 dX9_addTerm_134 rfl F

def w_So_addTerm_0 (C : zC) (n0 : Nat) (Q : zS → Prop)  (a0 : Nat) (a1 : Int64) (κ : zS) : Prop :=
  ∀ _ : zT κ (zR κ soFactor a0) = 8,
  zRun C 0 mNu_put [.ref (zR κ soFactor a0), .long (if 0 < a1 then a1 else -a1)] κ (oV (fun κ1 =>
    ∀ _ : zW C n0 κ1,
    ∀ _ : zM (zn κ) κ κ1,
    ∀ _ : zT κ1 (zR κ1 soWhole a0) = 8,
    ∀ _ : zT κ1 (zR κ1 raBottom (zR κ1 soPart a0)) = 8,
    zRun C 0 mNu_compare [.ref (zR κ1 soWhole a0), .ref (zR κ1 raBottom (zR κ1 soPart a0))] κ1 (oI (fun r6 κ5 =>
      ∀ _ : zW C n0 κ5,
      ∀ _ : zM (zn κ1) κ1 κ5,
      (¬ r6 = (0 : Int32) →
        ∀ _ : zT κ5 (zR κ5 soCalc a0) = 4,
        ∀ _ : zT κ5 (zR κ5 soWhole a0) = 8,
        ∀ _ : zT κ5 (zR κ5 raBottom (zR κ5 soPart a0)) = 8,
        zRun C 2 mCa_divide [.ref (zR κ5 soCalc a0), .ref (zR κ5 soWhole a0), .ref (zR κ5 raBottom (zR κ5 soPart a0))] κ5 (oV (fun κ9 =>
          ∀ _ : zW C n0 κ9,
          ∀ _ : zM (zn κ5) κ5 κ9,
          ∀ _ : zT κ9 (zR κ9 soScaled a0) = 8,
          ∀ _ : zT κ9 (zR κ9 raTop (zR κ9 soPart a0)) = 8,
          ∀ _ : zT κ9 (zR κ9 soFactor a0) = 8,
          zRun C 3 mNu_product [.ref (zR κ9 soScaled a0), .ref (zR κ9 raTop (zR κ9 soPart a0)), .ref (zR κ9 soFactor a0)] κ9 (oV (fun κ13 =>
            ∀ _ : zW C n0 κ13,
            ∀ _ : zM (zn κ9) κ9 κ13,
            ∀ _ : zT κ13 (zR κ13 soTerm a0) = 8,
            ∀ _ : zT κ13 (zR κ13 soScaled a0) = 8,
            ∀ _ : zT κ13 (zR κ13 caQuotient (zR κ13 soCalc a0)) = 8,
            zRun C 3 mNu_product [.ref (zR κ13 soTerm a0), .ref (zR κ13 soScaled a0), .ref (zR κ13 caQuotient (zR κ13 soCalc a0))] κ13 (oV (fun κ17 =>
              ∀ _ : zW C n0 κ17,
              ∀ _ : zM (zn κ13) κ13 κ17,
              w_So_addTerm_103 C n0 Q  a0 a1 κ17) noX)) noX)) noX)) ∧
      (r6 = (0 : Int32) →
        ∀ _ : zT κ5 (zR κ5 soTerm a0) = 8,
        ∀ _ : zT κ5 (zR κ5 raTop (zR κ5 soPart a0)) = 8,
        ∀ _ : zT κ5 (zR κ5 soFactor a0) = 8,
        zRun C 3 mNu_product [.ref (zR κ5 soTerm a0), .ref (zR κ5 raTop (zR κ5 soPart a0)), .ref (zR κ5 soFactor a0)] κ5 (oV (fun κ22 =>
          ∀ _ : zW C n0 κ22,
          ∀ _ : zM (zn κ5) κ5 κ22,
          w_So_addTerm_103 C n0 Q  a0 a1 κ22) noX))) noX)) noX)
theorem t_So_addTerm_0 {C : zC} {n0 : Nat} {Q : zS → Prop}   {a0 : Nat} {a1 : Int64} {κ : zS} (W : zW C n0 κ) (Ta0 : zT κ a0 = 12) (F : w_So_addTerm_0 C n0 Q  a0 a1 κ) : zG C n0 4 mSo_addTerm 0 [some (.ref a0), some (.long a1), none] [] κ (oV Q noX) := by
  unfold w_So_addTerm_0 at F
  refine y_aln dX9_addTerm_0 rfl ?_
  refine gf_X9_49 W dX9_addTerm_1 rfl Ta0 ?_
  refine y_lln dX9_addTerm_4 rfl ?_
  refine y_absL dX9_addTerm_5 rfl zbi_X9_219 (Nat.le_of_ble_eq_true rfl) (Nat.le_of_ble_eq_true rfl) ?_
  replace F := F (ty_soFactor W Ta0)
  refine k_X9_191 W dX9_addTerm_8 rfl (Nat.le_of_ble_eq_true rfl) (Nat.le_of_ble_eq_true rfl) (Or.inl (ty_soFactor W Ta0)) F (fun  κ1 Wκ1 Mκ1 F => ?_) (fun _ _ h9 => False.elim h9)
  replace F := F Wκ1 Mκ1
  refine y_aln dX9_addTerm_11 rfl ?_
  have h4 := (ztm W Mκ1 Ta0)
  refine gf_X9_40 Wκ1 dX9_addTerm_12 rfl h4 ?_
  refine y_aln dX9_addTerm_15 rfl ?_
  refine gf_X9_45 Wκ1 dX9_addTerm_16 rfl h4 ?_
  refine gf_X9_151 Wκ1 dX9_addTerm_19 rfl (ty_soPart Wκ1 h4) ?_
  replace F := F (ty_soWhole Wκ1 h4)
  replace F := F (ty_raBottom Wκ1 (ty_soPart Wκ1 h4))
  refine k_X9_223 Wκ1 dX9_addTerm_22 rfl (Nat.le_of_ble_eq_true rfl) (Nat.le_of_ble_eq_true rfl) (Or.inl (ty_soWhole Wκ1 h4)) F (fun r6 κ5 Wκ5 Mκ5 F => ?_) (fun _ _ h9 => False.elim h9)
  replace F := F Wκ5 Mκ5
  refine y_in (r6 = (0 : Int32)) dX9_addTerm_25 (t := 49) rfl rfl (fun c9 => ?_) (fun c9 => ?_)
  · replace F := F.1 c9
    refine y_aln dX9_addTerm_49 rfl ?_
    have h8 := (ztm Wκ1 Mκ5 h4)
    refine gf_X9_15 Wκ5 dX9_addTerm_50 rfl h8 ?_
    refine y_aln dX9_addTerm_53 rfl ?_
    refine gf_X9_40 Wκ5 dX9_addTerm_54 rfl h8 ?_
    refine y_aln dX9_addTerm_57 rfl ?_
    refine gf_X9_45 Wκ5 dX9_addTerm_58 rfl h8 ?_
    refine gf_X9_151 Wκ5 dX9_addTerm_61 rfl (ty_soPart Wκ5 h8) ?_
    replace F := F (ty_soCalc Wκ5 h8)
    replace F := F (ty_soWhole Wκ5 h8)
    replace F := F (ty_raBottom Wκ5 (ty_soPart Wκ5 h8))
    refine k_X9_230 Wκ5 dX9_addTerm_64 rfl (Nat.le_of_ble_eq_true rfl) (Nat.le_of_ble_eq_true rfl) (Or.inl (ty_soCalc Wκ5 h8)) F (fun  κ9 Wκ9 Mκ9 F => ?_) (fun _ _ h9 => False.elim h9)
    replace F := F Wκ9 Mκ9
    refine y_aln dX9_addTerm_67 rfl ?_
    have h12 := (ztm Wκ5 Mκ9 h8)
    refine gf_X9_52 Wκ9 dX9_addTerm_68 rfl h12 ?_
    refine y_aln dX9_addTerm_71 rfl ?_
    refine gf_X9_45 Wκ9 dX9_addTerm_72 rfl h12 ?_
    refine gf_X9_139 Wκ9 dX9_addTerm_75 rfl (ty_soPart Wκ9 h12) ?_
    refine y_aln dX9_addTerm_78 rfl ?_
    refine gf_X9_49 Wκ9 dX9_addTerm_79 rfl h12 ?_
    replace F := F (ty_soScaled Wκ9 h12)
    replace F := F (ty_raTop Wκ9 (ty_soPart Wκ9 h12))
    replace F := F (ty_soFactor Wκ9 h12)
    refine k_X9_227 Wκ9 dX9_addTerm_82 rfl (Nat.le_of_ble_eq_true rfl) (Nat.le_of_ble_eq_true rfl) (Or.inl (ty_soScaled Wκ9 h12)) F (fun  κ13 Wκ13 Mκ13 F => ?_) (fun _ _ h9 => False.elim h9)
    replace F := F Wκ13 Mκ13
    refine y_aln dX9_addTerm_85 rfl ?_
    have h16 := (ztm Wκ9 Mκ13 h12)
    refine gf_X9_55 Wκ13 dX9_addTerm_86 rfl h16 ?_
    refine y_aln dX9_addTerm_89 rfl ?_
    refine gf_X9_52 Wκ13 dX9_addTerm_90 rfl h16 ?_
    refine y_aln dX9_addTerm_93 rfl ?_
    refine gf_X9_15 Wκ13 dX9_addTerm_94 rfl h16 ?_
    refine gf_X9_233 Wκ13 dX9_addTerm_97 rfl (ty_soCalc Wκ13 h16) ?_
    replace F := F (ty_soTerm Wκ13 h16)
    replace F := F (ty_soScaled Wκ13 h16)
    replace F := F (ty_caQuotient Wκ13 (ty_soCalc Wκ13 h16))
    refine k_X9_227 Wκ13 dX9_addTerm_100 rfl (Nat.le_of_ble_eq_true rfl) (Nat.le_of_ble_eq_true rfl) (Or.inl (ty_soTerm Wκ13 h16)) F (fun  κ17 Wκ17 Mκ17 F => ?_) (fun _ _ h9 => False.elim h9)
    replace F := F Wκ17 Mκ17
    have h20 := (ztm Wκ13 Mκ17 h16)
    exact y_k (t_So_addTerm_103  Wκ17 h20 F) ⟨rfl, rfl, trivial⟩
  · replace F := F.2 c9
    refine y_aln dX9_addTerm_28 rfl ?_
    have h21 := (ztm Wκ1 Mκ5 h4)
    refine gf_X9_55 Wκ5 dX9_addTerm_29 rfl h21 ?_
    refine y_aln dX9_addTerm_32 rfl ?_
    refine gf_X9_45 Wκ5 dX9_addTerm_33 rfl h21 ?_
    refine gf_X9_139 Wκ5 dX9_addTerm_36 rfl (ty_soPart Wκ5 h21) ?_
    refine y_aln dX9_addTerm_39 rfl ?_
    refine gf_X9_49 Wκ5 dX9_addTerm_40 rfl h21 ?_
    replace F := F (ty_soTerm Wκ5 h21)
    replace F := F (ty_raTop Wκ5 (ty_soPart Wκ5 h21))
    replace F := F (ty_soFactor Wκ5 h21)
    refine k_X9_227 Wκ5 dX9_addTerm_43 rfl (Nat.le_of_ble_eq_true rfl) (Nat.le_of_ble_eq_true rfl) (Or.inl (ty_soTerm Wκ5 h21)) F (fun  κ22 Wκ22 Mκ22 F => ?_) (fun _ _ h9 => False.elim h9)
    replace F := F Wκ22 Mκ22
    refine y_goto dX9_addTerm_46 (t := 103) rfl ?_
    have h25 := (ztm Wκ5 Mκ22 h21)
    exact y_k (t_So_addTerm_103  Wκ22 h25 F) ⟨rfl, rfl, trivial⟩

theorem So_addTerm_run {C : zC} {n0 : Nat} {Q : zS → Prop} {a0 : Nat} {a1 : Int64} {κ : zS} (W : zW C n0 κ) (Ta0 : zT κ a0 = 12) (F : w_So_addTerm_0 C (zn κ) Q a0 a1 κ) : zRun C 4 mSo_addTerm [.ref a0, .long a1] κ (oV Q noX) := z_run (m_ent _ 0) (t_So_addTerm_0 (W.lo (Nat.le_trans W.1.2.1 W.1.2.2) (Nat.le_refl _)) Ta0 F)

theorem dX12_commonInt_0 : decode cX12_commonInt 0 = .ok (.iload_n 0, 1) := by decide +kernel
theorem dX12_commonInt_1 : decode cX12_commonInt 1 = .ok (.istore_n 2, 1) := by decide +kernel
theorem dX12_commonInt_2 : decode cX12_commonInt 2 = .ok (.iload_n 1, 1) := by decide +kernel
theorem dX12_commonInt_3 : decode cX12_commonInt 3 = .ok (.istore_n 3, 1) := by decide +kernel
theorem dX12_commonInt_4 : decode cX12_commonInt 4 = .ok (.iconst 0, 1) := by decide +kernel
theorem dX12_commonInt_5 : decode cX12_commonInt 5 = .ok (.istore 4, 2) := by decide +kernel
theorem dX12_commonInt_7 : decode cX12_commonInt 7 = .ok (.iload 4, 2) := by decide +kernel
theorem dX12_commonInt_9 : decode cX12_commonInt 9 = .ok (.bipush 100, 2) := by decide +kernel
theorem dX12_commonInt_11 : decode cX12_commonInt 11 = .ok (.if_icmp .ge 23, 3) := by decide +kernel
theorem dX12_commonInt_14 : decode cX12_commonInt 14 = .ok (.iload_n 3, 1) := by decide +kernel
theorem dX12_commonInt_15 : decode cX12_commonInt 15 = .ok (.ifCond .eq 19, 3) := by decide +kernel
theorem dX12_commonInt_18 : decode cX12_commonInt 18 = .ok (.iload_n 2, 1) := by decide +kernel
theorem dX12_commonInt_19 : decode cX12_commonInt 19 = .ok (.iload_n 3, 1) := by decide +kernel
theorem dX12_commonInt_20 : decode cX12_commonInt 20 = .ok (.irem, 1) := by decide +kernel
theorem dX12_commonInt_21 : decode cX12_commonInt 21 = .ok (.istore 5, 2) := by decide +kernel
theorem dX12_commonInt_23 : decode cX12_commonInt 23 = .ok (.iload_n 3, 1) := by decide +kernel
theorem dX12_commonInt_24 : decode cX12_commonInt 24 = .ok (.istore_n 2, 1) := by decide +kernel
theorem dX12_commonInt_25 : decode cX12_commonInt 25 = .ok (.iload 5, 2) := by decide +kernel
theorem dX12_commonInt_27 : decode cX12_commonInt 27 = .ok (.istore_n 3, 1) := by decide +kernel
theorem dX12_commonInt_28 : decode cX12_commonInt 28 = .ok (.iinc 4 1, 3) := by decide +kernel
theorem dX12_commonInt_31 : decode cX12_commonInt 31 = .ok (.goto (-24), 3) := by decide +kernel
theorem dX12_commonInt_34 : decode cX12_commonInt 34 = .ok (.iload_n 2, 1) := by decide +kernel
theorem dX12_commonInt_35 : decode cX12_commonInt 35 = .ok (.iconst 1, 1) := by decide +kernel
theorem dX12_commonInt_36 : decode cX12_commonInt 36 = .ok (.invokestatic 415, 3) := by decide +kernel
theorem dX12_commonInt_39 : decode cX12_commonInt 39 = .ok (.ireturn, 1) := by decide +kernel
def w_Ch_commonInt_7 (C : zC) (n0 : Nat) (Q : Int32 → zS → Prop)  (a2 : Int32) (a3 : Int32) (a4 : Int32) (κ : zS) : Prop :=
  ∃ I : Nat → Int32 → Int32 → Int32 → zS → Prop, (∃ n, I n a2 a3 a4 κ) ∧ ∀ n a2 a3 a4 κ, zW C n0 κ → I n a2 a3 a4 κ →
    ((100 : Int32) ≤ a4 →
      Q (if a2 < (1 : Int32) then (1 : Int32) else a2) κ) ∧
    (¬ (100 : Int32) ≤ a4 →
      (a3 = (0 : Int32) →
        Q (if a2 < (1 : Int32) then (1 : Int32) else a2) κ) ∧
      (¬ a3 = (0 : Int32) →
        ¬ a3 = 0 ∧
        ∀ v5_1 : Int32, v5_1 = (a2 - a2 / a3 * a3) →
        ∀ v4_2 : Int32, v4_2 = a4 + (1 : Int32) →
        ∃ k < n, I k a3 v5_1 v4_2 κ))
theorem t_Ch_commonInt_7 {C : zC} {n0 : Nat} {Q : Int32 → zS → Prop}   {a2 : Int32} {a3 : Int32} {a4 : Int32} {κ : zS} (W : zW C n0 κ)  (F : w_Ch_commonInt_7 C n0 Q  a2 a3 a4 κ) : zG C n0 1 mCh_commonInt 7 [none, none, some (.int a2), some (.int a3), some (.int a4), none] [] κ (oI Q noX) := by
  obtain ⟨I, ⟨m0, hI0⟩, F0⟩ := F
  have key : ∀ n a2 a3 a4 κ, zW C n0 κ → I n a2 a3 a4 κ → zG C n0 1 mCh_commonInt 7 [none, none, some (.int a2), some (.int a3), some (.int a4), none] [] κ (oI Q noX) := by
    intro n
    induction n using Nat.strongRecOn with
    | _ n ih =>
      intro a2 a3 a4 κ W  hI
      have F := F0 n a2 a3 a4 κ W  hI
      clear hI hI0
      refine y_il dX12_commonInt_7 rfl ?_
      refine y_bi1 dX12_commonInt_9 zb_100 ?_
      refine y_ii ((100 : Int32) ≤ a4) dX12_commonInt_11 (t := 34) rfl rfl (fun c9 => ?_) (fun c9 => ?_)
      · replace F := F.1 c9
        refine y_iln dX12_commonInt_34 rfl ?_
        refine y_ic dX12_commonInt_35 zi_1 ?_
        refine y_max dX12_commonInt_36 rfl zbi_X12_415 (Nat.le_of_ble_eq_true rfl) (Nat.le_of_ble_eq_true rfl) ?_
        exact y_ri W dX12_commonInt_39 rfl in_nar F
      · replace F := F.2 c9
        refine y_iln dX12_commonInt_14 rfl ?_
        refine y_i (a3 = (0 : Int32)) dX12_commonInt_15 (t := 34) rfl rfl (fun c9 => ?_) (fun c9 => ?_)
        · replace F := F.1 c9
          refine y_iln dX12_commonInt_34 rfl ?_
          refine y_ic dX12_commonInt_35 zi_1 ?_
          refine y_max dX12_commonInt_36 rfl zbi_X12_415 (Nat.le_of_ble_eq_true rfl) (Nat.le_of_ble_eq_true rfl) ?_
          exact y_ri W dX12_commonInt_39 rfl in_nar F
        · replace F := F.2 c9
          refine y_iln dX12_commonInt_18 rfl ?_
          refine y_iln dX12_commonInt_19 rfl ?_
          refine y_rem dX12_commonInt_20 F.1 ?_
          replace F := F.2
          refine y_isb dX12_commonInt_21 (Nat.le_of_ble_eq_true rfl) (fun v5_1 ev5_1 => ?_)
          replace F := F v5_1 ev5_1
          show zG _ _ _ _ _ [none, none, some (.int a2), some (.int a3), some (.int a4), some (.int v5_1)] _ _ _
          refine y_iln dX12_commonInt_23 rfl ?_
          refine y_isn dX12_commonInt_24 (Nat.le_of_ble_eq_true rfl) rfl ?_
          show zG _ _ _ _ _ [none, none, some (.int a3), some (.int a3), some (.int a4), some (.int v5_1)] _ _ _
          refine y_il dX12_commonInt_25 rfl ?_
          refine y_isn dX12_commonInt_27 (Nat.le_of_ble_eq_true rfl) rfl ?_
          show zG _ _ _ _ _ [none, none, some (.int a3), some (.int v5_1), some (.int a4), some (.int v5_1)] _ _ _
          refine y_incb dX12_commonInt_28 zi_1 rfl (Nat.le_of_ble_eq_true rfl) (fun v4_2 ev4_2 => ?_)
          replace F := F v4_2 ev4_2
          show zG _ _ _ _ _ [none, none, some (.int a3), some (.int v5_1), some (.int v4_2), some (.int v5_1)] _ _ _
          refine y_goto dX12_commonInt_31 (t := 7) rfl ?_
          obtain ⟨k, hk, hI⟩ := F
          exact y_k (ih k hk _ _ _ _ W  hI) ⟨rfl, rfl, rfl, trivial⟩
  exact key m0 a2 a3 a4 κ W  hI0

def w_Ch_commonInt_0 (C : zC) (n0 : Nat) (Q : Int32 → zS → Prop)  (a0 : Int32) (a1 : Int32) (κ : zS) : Prop :=
  w_Ch_commonInt_7 C n0 Q  a0 a1 (0 : Int32) κ
theorem t_Ch_commonInt_0 {C : zC} {n0 : Nat} {Q : Int32 → zS → Prop}   {a0 : Int32} {a1 : Int32} {κ : zS} (W : zW C n0 κ)  (F : w_Ch_commonInt_0 C n0 Q  a0 a1 κ) : zG C n0 1 mCh_commonInt 0 [some (.int a0), some (.int a1), none, none, none, none] [] κ (oI Q noX) := by
  unfold w_Ch_commonInt_0 at F
  refine y_iln dX12_commonInt_0 rfl ?_
  refine y_isn dX12_commonInt_1 (Nat.le_of_ble_eq_true rfl) rfl ?_
  show zG _ _ _ _ _ [some (.int a0), some (.int a1), some (.int a0), none, none, none] _ _ _
  refine y_iln dX12_commonInt_2 rfl ?_
  refine y_isn dX12_commonInt_3 (Nat.le_of_ble_eq_true rfl) rfl ?_
  show zG _ _ _ _ _ [some (.int a0), some (.int a1), some (.int a0), some (.int a1), none, none] _ _ _
  refine y_ic dX12_commonInt_4 zi_0 ?_
  refine y_is dX12_commonInt_5 (Nat.le_of_ble_eq_true rfl) rfl ?_
  show zG _ _ _ _ _ [some (.int a0), some (.int a1), some (.int a0), some (.int a1), some (.int (0 : Int32)), none] _ _ _
  exact y_k (t_Ch_commonInt_7  W  F) ⟨rfl, rfl, rfl, trivial⟩

theorem Ch_commonInt_run {C : zC} {n0 : Nat} {Q : Int32 → zS → Prop} {a0 : Int32} {a1 : Int32} {κ : zS} (W : zW C n0 κ)  (F : w_Ch_commonInt_0 C (zn κ) Q a0 a1 κ) : zRun C 1 mCh_commonInt [.int a0, .int a1] κ (oI Q noX) := z_run (m_ent _ 4) (t_Ch_commonInt_0 (W.lo (Nat.le_trans W.1.2.1 W.1.2.2) (Nat.le_refl _))  F)

theorem dX8_copy_0 : decode cX8_copy 0 = .ok (.aload_n 0, 1) := by decide +kernel
theorem dX8_copy_1 : decode cX8_copy 1 = .ok (.aload_n 1, 1) := by decide +kernel
theorem dX8_copy_2 : decode cX8_copy 2 = .ok (.getfield 27, 3) := by decide +kernel
theorem dX8_copy_5 : decode cX8_copy 5 = .ok (.putfield 27, 3) := by decide +kernel
theorem dX8_copy_8 : decode cX8_copy 8 = .ok (.aload_n 0, 1) := by decide +kernel
theorem dX8_copy_9 : decode cX8_copy 9 = .ok (.getfield 14, 3) := by decide +kernel
theorem dX8_copy_12 : decode cX8_copy 12 = .ok (.aload_n 1, 1) := by decide +kernel
theorem dX8_copy_13 : decode cX8_copy 13 = .ok (.getfield 14, 3) := by decide +kernel
theorem dX8_copy_16 : decode cX8_copy 16 = .ok (.invokevirtual 31, 3) := by decide +kernel
theorem dX8_copy_19 : decode cX8_copy 19 = .ok (.aload_n 0, 1) := by decide +kernel
theorem dX8_copy_20 : decode cX8_copy 20 = .ok (.getfield 20, 3) := by decide +kernel
theorem dX8_copy_23 : decode cX8_copy 23 = .ok (.aload_n 1, 1) := by decide +kernel
theorem dX8_copy_24 : decode cX8_copy 24 = .ok (.getfield 20, 3) := by decide +kernel
theorem dX8_copy_27 : decode cX8_copy 27 = .ok (.invokevirtual 31, 3) := by decide +kernel
theorem dX8_copy_30 : decode cX8_copy 30 = .ok (.return_, 1) := by decide +kernel
def w_Ra_copy_0 (C : zC) (n0 : Nat) (Q : zS → Prop)  (a0 : Nat) (a1 : Nat) (κ : zS) : Prop :=
  ∀ κ1, κ1 = ui κ raSign a0 (zI κ raSign a1) →
  ∀ _ : zW C n0 κ1,
  ∀ _ : zT κ1 (zR κ1 raTop a0) = 8,
  ∀ _ : zT κ1 (zR κ1 raTop a1) = 8,
  zRun C 1 mNu_copy [.ref (zR κ1 raTop a0), .ref (zR κ1 raTop a1)] κ1 (oV (fun κ4 =>
    ∀ _ : zW C n0 κ4,
    ∀ _ : zM (zn κ1) κ1 κ4,
    ∀ _ : zT κ4 (zR κ4 raBottom a0) = 8,
    ∀ _ : zT κ4 (zR κ4 raBottom a1) = 8,
    zRun C 1 mNu_copy [.ref (zR κ4 raBottom a0), .ref (zR κ4 raBottom a1)] κ4 (oV (fun κ9 =>
      ∀ _ : zW C n0 κ9,
      ∀ _ : zM (zn κ4) κ4 κ9,
      Q κ9) noX)) noX)
theorem t_Ra_copy_0 {C : zC} {n0 : Nat} {Q : zS → Prop}   {a0 : Nat} {a1 : Nat} {κ : zS} (W : zW C n0 κ) (Ta0 : zT κ a0 = 11) (Ta1 : zT κ a1 = 11) (F : w_Ra_copy_0 C n0 Q  a0 a1 κ) : zG C n0 2 mRa_copy 0 [some (.ref a0), some (.ref a1)] [] κ (oV Q noX) := by
  unfold w_Ra_copy_0 at F
  refine y_aln dX8_copy_0 rfl ?_
  refine y_aln dX8_copy_1 rfl ?_
  refine gf_X8_27 dX8_copy_2 rfl (Or.inl Ta1) ?_
  refine pf_X8_27 W dX8_copy_5 rfl (Or.inl Ta0) (fun κ1 eκ1 => ?_)
  replace F := F κ1 eκ1
  have Wκ1 : zW C n0 κ1 := zW_ui W eκ1 (fun h => absurd h (by decide))
  have Mκ1 : zM (zn κ) κ κ1 := by rw [eκ1]; exact zM.of rfl rfl rfl
  replace F := F Wκ1
  refine y_aln dX8_copy_8 rfl ?_
  have h2 := (ztm W Mκ1 Ta0)
  refine gf_X8_14 Wκ1 dX8_copy_9 rfl h2 ?_
  refine y_aln dX8_copy_12 rfl ?_
  have h3 := (ztm W Mκ1 Ta1)
  refine gf_X8_14 Wκ1 dX8_copy_13 rfl h3 ?_
  replace F := F (ty_raTop Wκ1 h2)
  replace F := F (ty_raTop Wκ1 h3)
  refine k_X8_31 Wκ1 dX8_copy_16 rfl (Nat.le_of_ble_eq_true rfl) (Nat.le_of_ble_eq_true rfl) (Or.inl (ty_raTop Wκ1 h2)) F (fun  κ4 Wκ4 Mκ4 F => ?_) (fun _ _ h9 => False.elim h9)
  replace F := F Wκ4 Mκ4
  refine y_aln dX8_copy_19 rfl ?_
  have h7 := (ztm Wκ1 Mκ4 h2)
  refine gf_X8_20 Wκ4 dX8_copy_20 rfl h7 ?_
  refine y_aln dX8_copy_23 rfl ?_
  have h8 := (ztm Wκ1 Mκ4 h3)
  refine gf_X8_20 Wκ4 dX8_copy_24 rfl h8 ?_
  replace F := F (ty_raBottom Wκ4 h7)
  replace F := F (ty_raBottom Wκ4 h8)
  refine k_X8_31 Wκ4 dX8_copy_27 rfl (Nat.le_of_ble_eq_true rfl) (Nat.le_of_ble_eq_true rfl) (Or.inl (ty_raBottom Wκ4 h7)) F (fun  κ9 Wκ9 Mκ9 F => ?_) (fun _ _ h9 => False.elim h9)
  replace F := F Wκ9 Mκ9
  exact y_rv Wκ9 dX8_copy_30 rfl F

theorem Ra_copy_run {C : zC} {n0 : Nat} {Q : zS → Prop} {a0 : Nat} {a1 : Nat} {κ : zS} (W : zW C n0 κ) (Ta0 : zT κ a0 = 11) (Ta1 : zT κ a1 = 11) (F : w_Ra_copy_0 C (zn κ) Q a0 a1 κ) : zRun C 2 mRa_copy [.ref a0, .ref a1] κ (oV Q noX) := z_run (m_ent _ 0) (t_Ra_copy_0 (W.lo (Nat.le_trans W.1.2.1 W.1.2.2) (Nat.le_refl _)) Ta0 Ta1 F)

theorem dX9_unit_0 : decode cX9_unit 0 = .ok (.aload_n 0, 1) := by decide +kernel
theorem dX9_unit_1 : decode cX9_unit 1 = .ok (.getfield 45, 3) := by decide +kernel
theorem dX9_unit_4 : decode cX9_unit 4 = .ok (.aload_n 0, 1) := by decide +kernel
theorem dX9_unit_5 : decode cX9_unit 5 = .ok (.getfield 28, 3) := by decide +kernel
theorem dX9_unit_8 : decode cX9_unit 8 = .ok (.iload_n 1, 1) := by decide +kernel
theorem dX9_unit_9 : decode cX9_unit 9 = .ok (.aaload, 1) := by decide +kernel
theorem dX9_unit_10 : decode cX9_unit 10 = .ok (.invokevirtual 132, 3) := by decide +kernel
theorem dX9_unit_13 : decode cX9_unit 13 = .ok (.aload_n 0, 1) := by decide +kernel
theorem dX9_unit_14 : decode cX9_unit 14 = .ok (.getfield 9, 3) := by decide +kernel
theorem dX9_unit_17 : decode cX9_unit 17 = .ok (.iload_n 1, 1) := by decide +kernel
theorem dX9_unit_18 : decode cX9_unit 18 = .ok (.invokevirtual 136, 3) := by decide +kernel
theorem dX9_unit_21 : decode cX9_unit 21 = .ok (.istore_n 2, 1) := by decide +kernel
theorem dX9_unit_22 : decode cX9_unit 22 = .ok (.iload_n 2, 1) := by decide +kernel
theorem dX9_unit_23 : decode cX9_unit 23 = .ok (.iconst 1, 1) := by decide +kernel
theorem dX9_unit_24 : decode cX9_unit 24 = .ok (.if_icmp .le 50, 3) := by decide +kernel
theorem dX9_unit_27 : decode cX9_unit 27 = .ok (.iload_n 2, 1) := by decide +kernel
theorem dX9_unit_28 : decode cX9_unit 28 = .ok (.aload_n 0, 1) := by decide +kernel
theorem dX9_unit_29 : decode cX9_unit 29 = .ok (.getfield 45, 3) := by decide +kernel
theorem dX9_unit_32 : decode cX9_unit 32 = .ok (.getfield 139, 3) := by decide +kernel
theorem dX9_unit_35 : decode cX9_unit 35 = .ok (.iload_n 2, 1) := by decide +kernel
theorem dX9_unit_36 : decode cX9_unit 36 = .ok (.invokevirtual 142, 3) := by decide +kernel
theorem dX9_unit_39 : decode cX9_unit 39 = .ok (.invokestatic 145, 3) := by decide +kernel
theorem dX9_unit_42 : decode cX9_unit 42 = .ok (.istore_n 3, 1) := by decide +kernel
theorem dX9_unit_43 : decode cX9_unit 43 = .ok (.iload_n 3, 1) := by decide +kernel
theorem dX9_unit_44 : decode cX9_unit 44 = .ok (.iconst 1, 1) := by decide +kernel
theorem dX9_unit_45 : decode cX9_unit 45 = .ok (.if_icmp .le 15, 3) := by decide +kernel
theorem dX9_unit_48 : decode cX9_unit 48 = .ok (.aload_n 0, 1) := by decide +kernel
theorem dX9_unit_49 : decode cX9_unit 49 = .ok (.getfield 45, 3) := by decide +kernel
theorem dX9_unit_52 : decode cX9_unit 52 = .ok (.getfield 139, 3) := by decide +kernel
theorem dX9_unit_55 : decode cX9_unit 55 = .ok (.iload_n 3, 1) := by decide +kernel
theorem dX9_unit_56 : decode cX9_unit 56 = .ok (.invokevirtual 148, 3) := by decide +kernel
theorem dX9_unit_59 : decode cX9_unit 59 = .ok (.pop, 1) := by decide +kernel
theorem dX9_unit_60 : decode cX9_unit 60 = .ok (.aload_n 0, 1) := by decide +kernel
theorem dX9_unit_61 : decode cX9_unit 61 = .ok (.getfield 45, 3) := by decide +kernel
theorem dX9_unit_64 : decode cX9_unit 64 = .ok (.getfield 151, 3) := by decide +kernel
theorem dX9_unit_67 : decode cX9_unit 67 = .ok (.iload_n 2, 1) := by decide +kernel
theorem dX9_unit_68 : decode cX9_unit 68 = .ok (.iload_n 3, 1) := by decide +kernel
theorem dX9_unit_69 : decode cX9_unit 69 = .ok (.idiv, 1) := by decide +kernel
theorem dX9_unit_70 : decode cX9_unit 70 = .ok (.i2l, 1) := by decide +kernel
theorem dX9_unit_71 : decode cX9_unit 71 = .ok (.invokevirtual 154, 3) := by decide +kernel
theorem dX9_unit_74 : decode cX9_unit 74 = .ok (.return_, 1) := by decide +kernel
def w_So_unit_60 (C : zC) (n0 : Nat) (Q : zS → Prop)  (a0 : Nat) (a2 : Int32) (a3 : Int32) (κ : zS) : Prop :=
  ¬ a3 = 0 ∧
  ∀ _ : zT κ (zR κ raBottom (zR κ soPart a0)) = 8,
  zRun C 3 mNu_times [.ref (zR κ raBottom (zR κ soPart a0)), .long (Int32.toInt64 (a2 / a3))] κ (oV (fun κ1 =>
    ∀ _ : zW C n0 κ1,
    ∀ _ : zM (zn κ) κ κ1,
    Q κ1) noX)
theorem t_So_unit_60 {C : zC} {n0 : Nat} {Q : zS → Prop}   {a0 : Nat} {a2 : Int32} {a3 : Int32} {κ : zS} (W : zW C n0 κ) (Ta0 : zT κ a0 = 12) (F : w_So_unit_60 C n0 Q  a0 a2 a3 κ) : zG C n0 4 mSo_unit 60 [some (.ref a0), none, some (.int a2), some (.int a3)] [] κ (oV Q noX) := by
  unfold w_So_unit_60 at F
  refine y_aln dX9_unit_60 rfl ?_
  refine gf_X9_45 W dX9_unit_61 rfl Ta0 ?_
  refine gf_X9_151 W dX9_unit_64 rfl (ty_soPart W Ta0) ?_
  refine y_iln dX9_unit_67 rfl ?_
  refine y_iln dX9_unit_68 rfl ?_
  refine y_div dX9_unit_69 F.1 ?_
  replace F := F.2
  refine y_i2l dX9_unit_70 ?_
  replace F := F (ty_raBottom W (ty_soPart W Ta0))
  refine k_X9_154 W dX9_unit_71 rfl (Nat.le_of_ble_eq_true rfl) (Nat.le_of_ble_eq_true rfl) (Or.inl (ty_raBottom W (ty_soPart W Ta0))) F (fun  κ1 Wκ1 Mκ1 F => ?_) (fun _ _ h9 => False.elim h9)
  replace F := F Wκ1 Mκ1
  exact y_rv Wκ1 dX9_unit_74 rfl F

def w_So_unit_0 (C : zC) (n0 : Nat) (Q : zS → Prop)  (a0 : Nat) (a1 : Int32) (κ : zS) : Prop :=
  inb a1 (zN κ (zR κ soVisits a0)) ∧
  ∃ u1, (zQ κ (zR κ soVisits a0) (a1).toNatClampNeg) = some u1 ∧
  ∀ _ : zT κ (zR κ soPart a0) = 11,
  ∀ _ : zT κ u1 = 11,
  zRun C 2 mRa_copy [.ref (zR κ soPart a0), .ref u1] κ (oV (fun κ2 =>
    ∀ _ : zW C n0 κ2,
    ∀ _ : zM (zn κ) κ κ2,
    ∀ _ : zT κ2 (zR κ2 soAtlas a0) = 3,
    zRun C 0 mAt_divisorOf [.ref (zR κ2 soAtlas a0), .int a1] κ2 (oI (fun r7 κ6 =>
      ∀ _ : zW C n0 κ6,
      ∀ _ : zM (zn κ2) κ2 κ6,
      (r7 ≤ (1 : Int32) →
        Q κ6) ∧
      (¬ r7 ≤ (1 : Int32) →
        ∀ _ : zT κ6 (zR κ6 raTop (zR κ6 soPart a0)) = 8,
        zRun C 0 mNu_rest [.ref (zR κ6 raTop (zR κ6 soPart a0)), .int r7] κ6 (oI (fun r11 κ10 =>
          ∀ _ : zW C n0 κ10,
          ∀ _ : zM (zn κ6) κ6 κ10,
          zRun C 1 mCh_commonInt [.int r7, .int r11] κ10 (oI (fun r14 κ13 =>
            ∀ _ : zW C n0 κ13,
            ∀ _ : zM (zn κ10) κ10 κ13,
            (r14 ≤ (1 : Int32) →
              w_So_unit_60 C n0 Q  a0 r7 r14 κ13) ∧
            (¬ r14 ≤ (1 : Int32) →
              ∀ _ : zT κ13 (zR κ13 raTop (zR κ13 soPart a0)) = 8,
              zRun C 0 mNu_over [.ref (zR κ13 raTop (zR κ13 soPart a0)), .int r14] κ13 (oI (fun r19 κ18 =>
                ∀ _ : zW C n0 κ18,
                ∀ _ : zM (zn κ13) κ13 κ18,
                w_So_unit_60 C n0 Q  a0 r7 r14 κ18) noX))) noX)) noX))) noX)) noX)
theorem t_So_unit_0 {C : zC} {n0 : Nat} {Q : zS → Prop}   {a0 : Nat} {a1 : Int32} {κ : zS} (W : zW C n0 κ) (Ta0 : zT κ a0 = 12) (F : w_So_unit_0 C n0 Q  a0 a1 κ) : zG C n0 4 mSo_unit 0 [some (.ref a0), some (.int a1), none, none] [] κ (oV Q noX) := by
  unfold w_So_unit_0 at F
  refine y_aln dX9_unit_0 rfl ?_
  refine gf_X9_45 W dX9_unit_1 rfl Ta0 ?_
  refine y_aln dX9_unit_4 rfl ?_
  refine gf_X9_28 W dX9_unit_5 rfl Ta0 ?_
  refine y_iln dX9_unit_8 rfl ?_
  refine y_qld (t := 5) dX9_unit_9 (ty_soVisits W Ta0) (by decide) F.1 ?_
  replace F := F.2
  obtain ⟨u1, Eu1, F⟩ := F
  have Tu1 : zT κ u1 = 11 := (fun v hv => W.2.2.2.2.1 _ _ v (ty_soVisits W Ta0) hv) u1 Eu1
  refine y_uq0 Eu1 ?_
  replace F := F (ty_soPart W Ta0)
  replace F := F Tu1
  refine k_X9_132 W dX9_unit_10 rfl (Nat.le_of_ble_eq_true rfl) (Nat.le_of_ble_eq_true rfl) (Or.inl (ty_soPart W Ta0)) F (fun  κ2 Wκ2 Mκ2 F => ?_) (fun _ _ h9 => False.elim h9)
  replace F := F Wκ2 Mκ2
  refine y_aln dX9_unit_13 rfl ?_
  have h5 := (ztm W Mκ2 Ta0)
  refine gf_X9_9 Wκ2 dX9_unit_14 rfl h5 ?_
  refine y_iln dX9_unit_17 rfl ?_
  replace F := F (ty_soAtlas Wκ2 h5)
  refine k_X9_136 Wκ2 dX9_unit_18 rfl (Nat.le_of_ble_eq_true rfl) (Nat.le_of_ble_eq_true rfl) (Or.inl (ty_soAtlas Wκ2 h5)) F (fun r7 κ6 Wκ6 Mκ6 F => ?_) (fun _ _ h9 => False.elim h9)
  replace F := F Wκ6 Mκ6
  refine y_isn dX9_unit_21 (Nat.le_of_ble_eq_true rfl) rfl ?_
  show zG _ _ _ _ _ [some (.ref a0), some (.int a1), some (.int r7), none] _ _ _
  refine y_iln dX9_unit_22 rfl ?_
  refine y_ic dX9_unit_23 zi_1 ?_
  refine y_ii (r7 ≤ (1 : Int32)) dX9_unit_24 (t := 74) rfl rfl (fun c9 => ?_) (fun c9 => ?_)
  · replace F := F.1 c9
    exact y_rv Wκ6 dX9_unit_74 rfl F
  · replace F := F.2 c9
    refine y_iln dX9_unit_27 rfl ?_
    refine y_aln dX9_unit_28 rfl ?_
    have h9 := (ztm Wκ2 Mκ6 h5)
    refine gf_X9_45 Wκ6 dX9_unit_29 rfl h9 ?_
    refine gf_X9_139 Wκ6 dX9_unit_32 rfl (ty_soPart Wκ6 h9) ?_
    refine y_iln dX9_unit_35 rfl ?_
    replace F := F (ty_raTop Wκ6 (ty_soPart Wκ6 h9))
    refine k_X9_142 Wκ6 dX9_unit_36 rfl (Nat.le_of_ble_eq_true rfl) (Nat.le_of_ble_eq_true rfl) (Or.inl (ty_raTop Wκ6 (ty_soPart Wκ6 h9))) F (fun r11 κ10 Wκ10 Mκ10 F => ?_) (fun _ _ h9 => False.elim h9)
    replace F := F Wκ10 Mκ10
    refine k_X9_145 Wκ10 dX9_unit_39 rfl (Nat.le_of_ble_eq_true rfl) (Nat.le_of_ble_eq_true rfl)  F (fun r14 κ13 Wκ13 Mκ13 F => ?_) (fun _ _ h9 => False.elim h9)
    replace F := F Wκ13 Mκ13
    refine y_isn dX9_unit_42 (Nat.le_of_ble_eq_true rfl) rfl ?_
    show zG _ _ _ _ _ [some (.ref a0), some (.int a1), some (.int r7), some (.int r14)] _ _ _
    refine y_iln dX9_unit_43 rfl ?_
    refine y_ic dX9_unit_44 zi_1 ?_
    refine y_ii (r14 ≤ (1 : Int32)) dX9_unit_45 (t := 60) rfl rfl (fun c9 => ?_) (fun c9 => ?_)
    · replace F := F.1 c9
      have h16 := (ztm Wκ10 Mκ13 (ztm Wκ6 Mκ10 h9))
      exact y_k (t_So_unit_60  Wκ13 h16 F) ⟨rfl, rfl, rfl, trivial⟩
    · replace F := F.2 c9
      refine y_aln dX9_unit_48 rfl ?_
      have h17 := (ztm Wκ10 Mκ13 (ztm Wκ6 Mκ10 h9))
      refine gf_X9_45 Wκ13 dX9_unit_49 rfl h17 ?_
      refine gf_X9_139 Wκ13 dX9_unit_52 rfl (ty_soPart Wκ13 h17) ?_
      refine y_iln dX9_unit_55 rfl ?_
      replace F := F (ty_raTop Wκ13 (ty_soPart Wκ13 h17))
      refine k_X9_148 Wκ13 dX9_unit_56 rfl (Nat.le_of_ble_eq_true rfl) (Nat.le_of_ble_eq_true rfl) (Or.inl (ty_raTop Wκ13 (ty_soPart Wκ13 h17))) F (fun r19 κ18 Wκ18 Mκ18 F => ?_) (fun _ _ h9 => False.elim h9)
      replace F := F Wκ18 Mκ18
      refine y_pop dX9_unit_59 rfl ?_
      have h21 := (ztm Wκ13 Mκ18 h17)
      exact y_k (t_So_unit_60  Wκ18 h21 F) ⟨rfl, rfl, rfl, trivial⟩

theorem So_unit_run {C : zC} {n0 : Nat} {Q : zS → Prop} {a0 : Nat} {a1 : Int32} {κ : zS} (W : zW C n0 κ) (Ta0 : zT κ a0 = 12) (F : w_So_unit_0 C (zn κ) Q a0 a1 κ) : zRun C 4 mSo_unit [.ref a0, .int a1] κ (oV Q noX) := z_run (m_ent _ 2) (t_So_unit_0 (W.lo (Nat.le_trans W.1.2.1 W.1.2.2) (Nat.le_refl _)) Ta0 F)

theorem dX6_weigh_0 : decode cX6_weigh 0 = .ok (.aload_n 0, 1) := by decide +kernel
theorem dX6_weigh_1 : decode cX6_weigh 1 = .ok (.getfield 9, 3) := by decide +kernel
theorem dX6_weigh_4 : decode cX6_weigh 4 = .ok (.getfield 125, 3) := by decide +kernel
theorem dX6_weigh_7 : decode cX6_weigh 7 = .ok (.getfield 128, 3) := by decide +kernel
theorem dX6_weigh_10 : decode cX6_weigh 10 = .ok (.istore_n 3, 1) := by decide +kernel
theorem dX6_weigh_11 : decode cX6_weigh 11 = .ok (.aload_n 0, 1) := by decide +kernel
theorem dX6_weigh_12 : decode cX6_weigh 12 = .ok (.getfield 15, 3) := by decide +kernel
theorem dX6_weigh_15 : decode cX6_weigh 15 = .ok (.getfield 135, 3) := by decide +kernel
theorem dX6_weigh_18 : decode cX6_weigh 18 = .ok (.iload_n 3, 1) := by decide +kernel
theorem dX6_weigh_19 : decode cX6_weigh 19 = .ok (.ifCond .ne 14, 3) := by decide +kernel
theorem dX6_weigh_22 : decode cX6_weigh 22 = .ok (.aload_n 0, 1) := by decide +kernel
theorem dX6_weigh_23 : decode cX6_weigh 23 = .ok (.iload_n 1, 1) := by decide +kernel
theorem dX6_weigh_24 : decode cX6_weigh 24 = .ok (.iload_n 2, 1) := by decide +kernel
theorem dX6_weigh_25 : decode cX6_weigh 25 = .ok (.iconst 1, 1) := by decide +kernel
theorem dX6_weigh_26 : decode cX6_weigh 26 = .ok (.iconst 0, 1) := by decide +kernel
theorem dX6_weigh_27 : decode cX6_weigh 27 = .ok (.invokevirtual 118, 3) := by decide +kernel
theorem dX6_weigh_30 : decode cX6_weigh 30 = .ok (.goto 4, 3) := by decide +kernel
theorem dX6_weigh_33 : decode cX6_weigh 33 = .ok (.lconst 0, 1) := by decide +kernel
theorem dX6_weigh_34 : decode cX6_weigh 34 = .ok (.invokevirtual 138, 3) := by decide +kernel
theorem dX6_weigh_37 : decode cX6_weigh 37 = .ok (.aload_n 0, 1) := by decide +kernel
theorem dX6_weigh_38 : decode cX6_weigh 38 = .ok (.getfield 15, 3) := by decide +kernel
theorem dX6_weigh_41 : decode cX6_weigh 41 = .ok (.getfield 142, 3) := by decide +kernel
theorem dX6_weigh_44 : decode cX6_weigh 44 = .ok (.lconst 0, 1) := by decide +kernel
theorem dX6_weigh_45 : decode cX6_weigh 45 = .ok (.invokevirtual 138, 3) := by decide +kernel
theorem dX6_weigh_48 : decode cX6_weigh 48 = .ok (.iconst 0, 1) := by decide +kernel
theorem dX6_weigh_49 : decode cX6_weigh 49 = .ok (.istore 4, 2) := by decide +kernel
theorem dX6_weigh_51 : decode cX6_weigh 51 = .ok (.iload 4, 2) := by decide +kernel
theorem dX6_weigh_53 : decode cX6_weigh 53 = .ok (.iload_n 3, 1) := by decide +kernel
theorem dX6_weigh_54 : decode cX6_weigh 54 = .ok (.if_icmp .ge 44, 3) := by decide +kernel
theorem dX6_weigh_57 : decode cX6_weigh 57 = .ok (.aload_n 0, 1) := by decide +kernel
theorem dX6_weigh_58 : decode cX6_weigh 58 = .ok (.iload 4, 2) := by decide +kernel
theorem dX6_weigh_60 : decode cX6_weigh 60 = .ok (.iload_n 1, 1) := by decide +kernel
theorem dX6_weigh_61 : decode cX6_weigh 61 = .ok (.iload_n 2, 1) := by decide +kernel
theorem dX6_weigh_62 : decode cX6_weigh 62 = .ok (.invokevirtual 131, 3) := by decide +kernel
theorem dX6_weigh_65 : decode cX6_weigh 65 = .ok (.lstore 5, 2) := by decide +kernel
theorem dX6_weigh_67 : decode cX6_weigh 67 = .ok (.lload 5, 2) := by decide +kernel
theorem dX6_weigh_69 : decode cX6_weigh 69 = .ok (.lconst 0, 1) := by decide +kernel
theorem dX6_weigh_70 : decode cX6_weigh 70 = .ok (.lcmp, 1) := by decide +kernel
theorem dX6_weigh_71 : decode cX6_weigh 71 = .ok (.ifCond .eq 21, 3) := by decide +kernel
theorem dX6_weigh_74 : decode cX6_weigh 74 = .ok (.aload_n 0, 1) := by decide +kernel
theorem dX6_weigh_75 : decode cX6_weigh 75 = .ok (.getfield 15, 3) := by decide +kernel
theorem dX6_weigh_78 : decode cX6_weigh 78 = .ok (.iload 4, 2) := by decide +kernel
theorem dX6_weigh_80 : decode cX6_weigh 80 = .ok (.invokevirtual 145, 3) := by decide +kernel
theorem dX6_weigh_83 : decode cX6_weigh 83 = .ok (.aload_n 0, 1) := by decide +kernel
theorem dX6_weigh_84 : decode cX6_weigh 84 = .ok (.getfield 15, 3) := by decide +kernel
theorem dX6_weigh_87 : decode cX6_weigh 87 = .ok (.lload 5, 2) := by decide +kernel
theorem dX6_weigh_89 : decode cX6_weigh 89 = .ok (.invokevirtual 148, 3) := by decide +kernel
theorem dX6_weigh_92 : decode cX6_weigh 92 = .ok (.iinc 4 1, 3) := by decide +kernel
theorem dX6_weigh_95 : decode cX6_weigh 95 = .ok (.goto (-44), 3) := by decide +kernel
theorem dX6_weigh_98 : decode cX6_weigh 98 = .ok (.return_, 1) := by decide +kernel
def w_Od_weigh_51 (C : zC) (n0 : Nat) (Q : zS → Prop)  (a0 : Nat) (a1 : Int32) (a2 : Int32) (a3 : Int32) (a4 : Int32) (κ : zS) : Prop :=
  ∃ I : Nat → Nat → Int32 → Int32 → Int32 → Int32 → zS → Prop, (∃ n, I n a0 a1 a2 a3 a4 κ) ∧ ∀ n a0 a1 a2 a3 a4 κ, zW C n0 κ → zT κ a0 = 9 → I n a0 a1 a2 a3 a4 κ →
    (a3 ≤ a4 →
      Q κ) ∧
    (¬ a3 ≤ a4 →
      ∀ _ : zT κ a0 = 9,
      zRun C 4 mOd_unitsOf [.ref a0, .int a4, .int a1, .int a2] κ (oJ (fun r2 κ1 =>
        ∀ _ : zW C n0 κ1,
        ∀ _ : zM (zn κ) κ κ1,
        ((lg_cmp r2 (0 : Int64)) = (0 : Int32) →
          ∀ v4_4 : Int32, v4_4 = a4 + (1 : Int32) →
          ∃ k < n, I k a0 a1 a2 a3 v4_4 κ1) ∧
        (¬ (lg_cmp r2 (0 : Int64)) = (0 : Int32) →
          ∀ _ : zT κ1 (zR κ1 odSolver a0) = 12,
          zRun C 4 mSo_unit [.ref (zR κ1 odSolver a0), .int a4] κ1 (oV (fun κ7 =>
            ∀ _ : zW C n0 κ7,
            ∀ _ : zM (zn κ1) κ1 κ7,
            ∀ _ : zT κ7 (zR κ7 odSolver a0) = 12,
            zRun C 4 mSo_addTerm [.ref (zR κ7 odSolver a0), .long r2] κ7 (oV (fun κ11 =>
              ∀ _ : zW C n0 κ11,
              ∀ _ : zM (zn κ7) κ7 κ11,
              ∀ v4_14 : Int32, v4_14 = a4 + (1 : Int32) →
              ∃ k < n, I k a0 a1 a2 a3 v4_14 κ11) noX)) noX))) noX))
theorem t_Od_weigh_51 {C : zC} {n0 : Nat} {Q : zS → Prop}   {a0 : Nat} {a1 : Int32} {a2 : Int32} {a3 : Int32} {a4 : Int32} {κ : zS} (W : zW C n0 κ) (Ta0 : zT κ a0 = 9) (F : w_Od_weigh_51 C n0 Q  a0 a1 a2 a3 a4 κ) : zG C n0 5 mOd_weigh 51 [some (.ref a0), some (.int a1), some (.int a2), some (.int a3), some (.int a4), none, none] [] κ (oV Q noX) := by
  obtain ⟨I, ⟨m0, hI0⟩, F0⟩ := F
  have key : ∀ n a0 a1 a2 a3 a4 κ, zW C n0 κ → zT κ a0 = 9 → I n a0 a1 a2 a3 a4 κ → zG C n0 5 mOd_weigh 51 [some (.ref a0), some (.int a1), some (.int a2), some (.int a3), some (.int a4), none, none] [] κ (oV Q noX) := by
    intro n
    induction n using Nat.strongRecOn with
    | _ n ih =>
      intro a0 a1 a2 a3 a4 κ W Ta0 hI
      have F := F0 n a0 a1 a2 a3 a4 κ W Ta0 hI
      clear hI hI0
      refine y_il dX6_weigh_51 rfl ?_
      refine y_iln dX6_weigh_53 rfl ?_
      refine y_ii (a3 ≤ a4) dX6_weigh_54 (t := 98) rfl rfl (fun c9 => ?_) (fun c9 => ?_)
      · replace F := F.1 c9
        exact y_rv W dX6_weigh_98 rfl F
      · replace F := F.2 c9
        refine y_aln dX6_weigh_57 rfl ?_
        refine y_il dX6_weigh_58 rfl ?_
        refine y_iln dX6_weigh_60 rfl ?_
        refine y_iln dX6_weigh_61 rfl ?_
        replace F := F Ta0
        refine k_X6_131 W dX6_weigh_62 rfl (Nat.le_of_ble_eq_true rfl) (Nat.le_of_ble_eq_true rfl) (Or.inl Ta0) F (fun r2 κ1 Wκ1 Mκ1 F => ?_) (fun _ _ h9 => False.elim h9)
        replace F := F Wκ1 Mκ1
        refine y_ls dX6_weigh_65 (Nat.le_of_ble_eq_true rfl) rfl ?_
        show zG _ _ _ _ _ [some (.ref a0), some (.int a1), some (.int a2), some (.int a3), some (.int a4), some (.long r2), none] _ _ _
        refine y_ll dX6_weigh_67 rfl ?_
        refine y_lc dX6_weigh_69 zl_0 ?_
        refine y_lcmp dX6_weigh_70 ?_
        refine y_i ((lg_cmp r2 (0 : Int64)) = (0 : Int32)) dX6_weigh_71 (t := 92) rfl rfl (fun c9 => ?_) (fun c9 => ?_)
        · replace F := F.1 c9
          refine y_incb dX6_weigh_92 zi_1 rfl (Nat.le_of_ble_eq_true rfl) (fun v4_4 ev4_4 => ?_)
          replace F := F v4_4 ev4_4
          show zG _ _ _ _ _ [some (.ref a0), some (.int a1), some (.int a2), some (.int a3), some (.int v4_4), some (.long r2), none] _ _ _
          refine y_goto dX6_weigh_95 (t := 51) rfl ?_
          have h5 := (ztm W Mκ1 Ta0)
          obtain ⟨k, hk, hI⟩ := F
          exact y_k (ih k hk _ _ _ _ _ _ Wκ1 h5 hI) ⟨rfl, rfl, rfl, rfl, rfl, trivial⟩
        · replace F := F.2 c9
          refine y_aln dX6_weigh_74 rfl ?_
          have h6 := (ztm W Mκ1 Ta0)
          refine gf_X6_15 Wκ1 dX6_weigh_75 rfl h6 ?_
          refine y_il dX6_weigh_78 rfl ?_
          replace F := F (ty_odSolver Wκ1 h6)
          refine k_X6_145 Wκ1 dX6_weigh_80 rfl (Nat.le_of_ble_eq_true rfl) (Nat.le_of_ble_eq_true rfl) (Or.inl (ty_odSolver Wκ1 h6)) F (fun  κ7 Wκ7 Mκ7 F => ?_) (fun _ _ h9 => False.elim h9)
          replace F := F Wκ7 Mκ7
          refine y_aln dX6_weigh_83 rfl ?_
          have h10 := (ztm Wκ1 Mκ7 h6)
          refine gf_X6_15 Wκ7 dX6_weigh_84 rfl h10 ?_
          refine y_ll dX6_weigh_87 rfl ?_
          replace F := F (ty_odSolver Wκ7 h10)
          refine k_X6_148 Wκ7 dX6_weigh_89 rfl (Nat.le_of_ble_eq_true rfl) (Nat.le_of_ble_eq_true rfl) (Or.inl (ty_odSolver Wκ7 h10)) F (fun  κ11 Wκ11 Mκ11 F => ?_) (fun _ _ h9 => False.elim h9)
          replace F := F Wκ11 Mκ11
          refine y_incb dX6_weigh_92 zi_1 rfl (Nat.le_of_ble_eq_true rfl) (fun v4_14 ev4_14 => ?_)
          replace F := F v4_14 ev4_14
          show zG _ _ _ _ _ [some (.ref a0), some (.int a1), some (.int a2), some (.int a3), some (.int v4_14), some (.long r2), none] _ _ _
          refine y_goto dX6_weigh_95 (t := 51) rfl ?_
          have h15 := (ztm Wκ7 Mκ11 h10)
          obtain ⟨k, hk, hI⟩ := F
          exact y_k (ih k hk _ _ _ _ _ _ Wκ11 h15 hI) ⟨rfl, rfl, rfl, rfl, rfl, trivial⟩
  exact key m0 a0 a1 a2 a3 a4 κ W Ta0 hI0

def w_Od_weigh_34 (C : zC) (n0 : Nat) (Q : zS → Prop)  (a0 : Nat) (a1 : Int32) (a2 : Int32) (a3 : Int32) (s0 : Nat) (s1 : Int64) (κ : zS) : Prop :=
  ∀ _ : zT κ s0 = 8,
  zRun C 0 mNu_put [.ref s0, .long s1] κ (oV (fun κ1 =>
    ∀ _ : zW C n0 κ1,
    ∀ _ : zM (zn κ) κ κ1,
    ∀ _ : zT κ1 (zR κ1 soLess (zR κ1 odSolver a0)) = 8,
    zRun C 0 mNu_put [.ref (zR κ1 soLess (zR κ1 odSolver a0)), .long (0 : Int64)] κ1 (oV (fun κ5 =>
      ∀ _ : zW C n0 κ5,
      ∀ _ : zM (zn κ1) κ1 κ5,
      w_Od_weigh_51 C n0 Q  a0 a1 a2 a3 (0 : Int32) κ5) noX)) noX)
theorem t_Od_weigh_34 {C : zC} {n0 : Nat} {Q : zS → Prop}   {a0 : Nat} {a1 : Int32} {a2 : Int32} {a3 : Int32} {s0 : Nat} {s1 : Int64} {κ : zS} (W : zW C n0 κ) (Ta0 : zT κ a0 = 9) (Ts0 : zT κ s0 = 8) (F : w_Od_weigh_34 C n0 Q  a0 a1 a2 a3 s0 s1 κ) : zG C n0 5 mOd_weigh 34 [some (.ref a0), some (.int a1), some (.int a2), some (.int a3), none, none, none] [.long s1, .ref s0] κ (oV Q noX) := by
  unfold w_Od_weigh_34 at F
  replace F := F Ts0
  refine k_X6_138 W dX6_weigh_34 rfl (Nat.le_of_ble_eq_true rfl) (Nat.le_of_ble_eq_true rfl) (Or.inl Ts0) F (fun  κ1 Wκ1 Mκ1 F => ?_) (fun _ _ h9 => False.elim h9)
  replace F := F Wκ1 Mκ1
  refine y_aln dX6_weigh_37 rfl ?_
  have h4 := (ztm W Mκ1 Ta0)
  refine gf_X6_15 Wκ1 dX6_weigh_38 rfl h4 ?_
  refine gf_X6_142 Wκ1 dX6_weigh_41 rfl (ty_odSolver Wκ1 h4) ?_
  refine y_lc dX6_weigh_44 zl_0 ?_
  replace F := F (ty_soLess Wκ1 (ty_odSolver Wκ1 h4))
  refine k_X6_138 Wκ1 dX6_weigh_45 rfl (Nat.le_of_ble_eq_true rfl) (Nat.le_of_ble_eq_true rfl) (Or.inl (ty_soLess Wκ1 (ty_odSolver Wκ1 h4))) F (fun  κ5 Wκ5 Mκ5 F => ?_) (fun _ _ h9 => False.elim h9)
  replace F := F Wκ5 Mκ5
  refine y_ic dX6_weigh_48 zi_0 ?_
  refine y_is dX6_weigh_49 (Nat.le_of_ble_eq_true rfl) rfl ?_
  show zG _ _ _ _ _ [some (.ref a0), some (.int a1), some (.int a2), some (.int a3), some (.int (0 : Int32)), none, none] _ _ _
  have h8 := (ztm Wκ1 Mκ5 h4)
  exact y_k (t_Od_weigh_51  Wκ5 h8 F) ⟨rfl, rfl, rfl, rfl, rfl, trivial⟩

def w_Od_weigh_0 (C : zC) (n0 : Nat) (Q : zS → Prop)  (a0 : Nat) (a1 : Int32) (a2 : Int32) (κ : zS) : Prop :=
  ∀ v3_1 : Int32, v3_1 = (zI κ hoTotal (zR κ atStates (zR κ odAtlas a0))) →
  (¬ v3_1 = (0 : Int32) →
    w_Od_weigh_34 C n0 Q  a0 a1 a2 v3_1 (zR κ soSum (zR κ odSolver a0)) (0 : Int64) κ) ∧
  (v3_1 = (0 : Int32) →
    ∀ _ : zT κ a0 = 9,
    zRun C 3 mOd_share [.ref a0, .int a1, .int a2, .int (1 : Int32), .int (0 : Int32)] κ (oJ (fun r3 κ2 =>
      ∀ _ : zW C n0 κ2,
      ∀ _ : zM (zn κ) κ κ2,
      w_Od_weigh_34 C n0 Q  a0 a1 a2 v3_1 (zR κ soSum (zR κ odSolver a0)) r3 κ2) noX))
theorem t_Od_weigh_0 {C : zC} {n0 : Nat} {Q : zS → Prop}   {a0 : Nat} {a1 : Int32} {a2 : Int32} {κ : zS} (W : zW C n0 κ) (Ta0 : zT κ a0 = 9) (F : w_Od_weigh_0 C n0 Q  a0 a1 a2 κ) : zG C n0 5 mOd_weigh 0 [some (.ref a0), some (.int a1), some (.int a2), none, none, none, none] [] κ (oV Q noX) := by
  unfold w_Od_weigh_0 at F
  refine y_aln dX6_weigh_0 rfl ?_
  refine gf_X6_9 W dX6_weigh_1 rfl Ta0 ?_
  refine gf_X6_125 W dX6_weigh_4 rfl (ty_odAtlas W Ta0) ?_
  refine gf_X6_128 dX6_weigh_7 rfl (Or.inl (ty_atStates W (ty_odAtlas W Ta0))) ?_
  refine y_isnb dX6_weigh_10 (Nat.le_of_ble_eq_true rfl) (fun v3_1 ev3_1 => ?_)
  replace F := F v3_1 ev3_1
  show zG _ _ _ _ _ [some (.ref a0), some (.int a1), some (.int a2), some (.int v3_1), none, none, none] _ _ _
  refine y_aln dX6_weigh_11 rfl ?_
  refine gf_X6_15 W dX6_weigh_12 rfl Ta0 ?_
  refine gf_X6_135 W dX6_weigh_15 rfl (ty_odSolver W Ta0) ?_
  refine y_iln dX6_weigh_18 rfl ?_
  refine y_in (v3_1 = (0 : Int32)) dX6_weigh_19 (t := 33) rfl rfl (fun c9 => ?_) (fun c9 => ?_)
  · replace F := F.1 c9
    refine y_lc dX6_weigh_33 zl_0 ?_
    exact y_k (t_Od_weigh_34  W Ta0 (ty_soSum W (ty_odSolver W Ta0)) F) ⟨rfl, rfl, rfl, rfl, trivial⟩
  · replace F := F.2 c9
    refine y_aln dX6_weigh_22 rfl ?_
    refine y_iln dX6_weigh_23 rfl ?_
    refine y_iln dX6_weigh_24 rfl ?_
    refine y_ic dX6_weigh_25 zi_1 ?_
    refine y_ic dX6_weigh_26 zi_0 ?_
    replace F := F Ta0
    refine k_X6_118 W dX6_weigh_27 rfl (Nat.le_of_ble_eq_true rfl) (Nat.le_of_ble_eq_true rfl) (Or.inl Ta0) F (fun r3 κ2 Wκ2 Mκ2 F => ?_) (fun _ _ h9 => False.elim h9)
    replace F := F Wκ2 Mκ2
    refine y_goto dX6_weigh_30 (t := 34) rfl ?_
    have h5 := (ztm W Mκ2 Ta0)
    have h6 := (ztm W Mκ2 (ty_soSum W (ty_odSolver W Ta0)))
    exact y_k (t_Od_weigh_34  Wκ2 h5 h6 F) ⟨rfl, rfl, rfl, rfl, trivial⟩

theorem Od_weigh_run {C : zC} {n0 : Nat} {Q : zS → Prop} {a0 : Nat} {a1 : Int32} {a2 : Int32} {κ : zS} (W : zW C n0 κ) (Ta0 : zT κ a0 = 9) (F : w_Od_weigh_0 C (zn κ) Q a0 a1 a2 κ) : zRun C 5 mOd_weigh [.ref a0, .int a1, .int a2] κ (oV Q noX) := z_run (m_ent _ 4) (t_Od_weigh_0 (W.lo (Nat.le_trans W.1.2.1 W.1.2.2) (Nat.le_refl _)) Ta0 F)

theorem dX8_putZero_0 : decode cX8_putZero 0 = .ok (.aload_n 0, 1) := by decide +kernel
theorem dX8_putZero_1 : decode cX8_putZero 1 = .ok (.iconst 0, 1) := by decide +kernel
theorem dX8_putZero_2 : decode cX8_putZero 2 = .ok (.putfield 27, 3) := by decide +kernel
theorem dX8_putZero_5 : decode cX8_putZero 5 = .ok (.aload_n 0, 1) := by decide +kernel
theorem dX8_putZero_6 : decode cX8_putZero 6 = .ok (.getfield 14, 3) := by decide +kernel
theorem dX8_putZero_9 : decode cX8_putZero 9 = .ok (.lconst 0, 1) := by decide +kernel
theorem dX8_putZero_10 : decode cX8_putZero 10 = .ok (.invokevirtual 23, 3) := by decide +kernel
theorem dX8_putZero_13 : decode cX8_putZero 13 = .ok (.aload_n 0, 1) := by decide +kernel
theorem dX8_putZero_14 : decode cX8_putZero 14 = .ok (.getfield 20, 3) := by decide +kernel
theorem dX8_putZero_17 : decode cX8_putZero 17 = .ok (.lconst 1, 1) := by decide +kernel
theorem dX8_putZero_18 : decode cX8_putZero 18 = .ok (.invokevirtual 23, 3) := by decide +kernel
theorem dX8_putZero_21 : decode cX8_putZero 21 = .ok (.return_, 1) := by decide +kernel
def w_Ra_putZero_0 (C : zC) (n0 : Nat) (Q : zS → Prop)  (a0 : Nat) (κ : zS) : Prop :=
  ∀ κ1, κ1 = ui κ raSign a0 (0 : Int32) →
  ∀ _ : zW C n0 κ1,
  ∀ _ : zT κ1 (zR κ1 raTop a0) = 8,
  zRun C 0 mNu_put [.ref (zR κ1 raTop a0), .long (0 : Int64)] κ1 (oV (fun κ3 =>
    ∀ _ : zW C n0 κ3,
    ∀ _ : zM (zn κ1) κ1 κ3,
    ∀ _ : zT κ3 (zR κ3 raBottom a0) = 8,
    zRun C 0 mNu_put [.ref (zR κ3 raBottom a0), .long (1 : Int64)] κ3 (oV (fun κ7 =>
      ∀ _ : zW C n0 κ7,
      ∀ _ : zM (zn κ3) κ3 κ7,
      Q κ7) noX)) noX)
theorem t_Ra_putZero_0 {C : zC} {n0 : Nat} {Q : zS → Prop}   {a0 : Nat} {κ : zS} (W : zW C n0 κ) (Ta0 : zT κ a0 = 11) (F : w_Ra_putZero_0 C n0 Q  a0 κ) : zG C n0 1 mRa_putZero 0 [some (.ref a0)] [] κ (oV Q noX) := by
  unfold w_Ra_putZero_0 at F
  refine y_aln dX8_putZero_0 rfl ?_
  refine y_ic dX8_putZero_1 zi_0 ?_
  refine pf_X8_27 W dX8_putZero_2 rfl (Or.inl Ta0) (fun κ1 eκ1 => ?_)
  replace F := F κ1 eκ1
  have Wκ1 : zW C n0 κ1 := zW_ui W eκ1 (fun h => absurd h (by decide))
  have Mκ1 : zM (zn κ) κ κ1 := by rw [eκ1]; exact zM.of rfl rfl rfl
  replace F := F Wκ1
  refine y_aln dX8_putZero_5 rfl ?_
  have h2 := (ztm W Mκ1 Ta0)
  refine gf_X8_14 Wκ1 dX8_putZero_6 rfl h2 ?_
  refine y_lc dX8_putZero_9 zl_0 ?_
  replace F := F (ty_raTop Wκ1 h2)
  refine k_X8_23 Wκ1 dX8_putZero_10 rfl (Nat.le_of_ble_eq_true rfl) (Nat.le_of_ble_eq_true rfl) (Or.inl (ty_raTop Wκ1 h2)) F (fun  κ3 Wκ3 Mκ3 F => ?_) (fun _ _ h9 => False.elim h9)
  replace F := F Wκ3 Mκ3
  refine y_aln dX8_putZero_13 rfl ?_
  have h6 := (ztm Wκ1 Mκ3 h2)
  refine gf_X8_20 Wκ3 dX8_putZero_14 rfl h6 ?_
  refine y_lc dX8_putZero_17 zl_1 ?_
  replace F := F (ty_raBottom Wκ3 h6)
  refine k_X8_23 Wκ3 dX8_putZero_18 rfl (Nat.le_of_ble_eq_true rfl) (Nat.le_of_ble_eq_true rfl) (Or.inl (ty_raBottom Wκ3 h6)) F (fun  κ7 Wκ7 Mκ7 F => ?_) (fun _ _ h9 => False.elim h9)
  replace F := F Wκ7 Mκ7
  exact y_rv Wκ7 dX8_putZero_21 rfl F

theorem Ra_putZero_run {C : zC} {n0 : Nat} {Q : zS → Prop} {a0 : Nat} {κ : zS} (W : zW C n0 κ) (Ta0 : zT κ a0 = 11) (F : w_Ra_putZero_0 C (zn κ) Q a0 κ) : zRun C 1 mRa_putZero [.ref a0] κ (oV Q noX) := z_run (m_ent _ 0) (t_Ra_putZero_0 (W.lo (Nat.le_trans W.1.2.1 W.1.2.2) (Nat.le_refl _)) Ta0 F)

theorem dX9_settle_0 : decode cX9_settle 0 = .ok (.aload_n 0, 1) := by decide +kernel
theorem dX9_settle_1 : decode cX9_settle 1 = .ok (.getfield 58, 3) := by decide +kernel
theorem dX9_settle_4 : decode cX9_settle 4 = .ok (.aload_n 0, 1) := by decide +kernel
theorem dX9_settle_5 : decode cX9_settle 5 = .ok (.getfield 61, 3) := by decide +kernel
theorem dX9_settle_8 : decode cX9_settle 8 = .ok (.invokevirtual 223, 3) := by decide +kernel
theorem dX9_settle_11 : decode cX9_settle 11 = .ok (.istore_n 2, 1) := by decide +kernel
theorem dX9_settle_12 : decode cX9_settle 12 = .ok (.iload_n 2, 1) := by decide +kernel
theorem dX9_settle_13 : decode cX9_settle 13 = .ok (.ifCond .ne 11, 3) := by decide +kernel
theorem dX9_settle_16 : decode cX9_settle 16 = .ok (.aload_n 0, 1) := by decide +kernel
theorem dX9_settle_17 : decode cX9_settle 17 = .ok (.getfield 45, 3) := by decide +kernel
theorem dX9_settle_20 : decode cX9_settle 20 = .ok (.invokevirtual 81, 3) := by decide +kernel
theorem dX9_settle_23 : decode cX9_settle 23 = .ok (.return_, 1) := by decide +kernel
theorem dX9_settle_24 : decode cX9_settle 24 = .ok (.aload_n 0, 1) := by decide +kernel
theorem dX9_settle_25 : decode cX9_settle 25 = .ok (.getfield 45, 3) := by decide +kernel
theorem dX9_settle_28 : decode cX9_settle 28 = .ok (.iload_n 2, 1) := by decide +kernel
theorem dX9_settle_29 : decode cX9_settle 29 = .ok (.putfield 164, 3) := by decide +kernel
theorem dX9_settle_32 : decode cX9_settle 32 = .ok (.aload_n 0, 1) := by decide +kernel
theorem dX9_settle_33 : decode cX9_settle 33 = .ok (.getfield 45, 3) := by decide +kernel
theorem dX9_settle_36 : decode cX9_settle 36 = .ok (.getfield 139, 3) := by decide +kernel
theorem dX9_settle_39 : decode cX9_settle 39 = .ok (.iload_n 2, 1) := by decide +kernel
theorem dX9_settle_40 : decode cX9_settle 40 = .ok (.ifCond .le 10, 3) := by decide +kernel
theorem dX9_settle_43 : decode cX9_settle 43 = .ok (.aload_n 0, 1) := by decide +kernel
theorem dX9_settle_44 : decode cX9_settle 44 = .ok (.getfield 58, 3) := by decide +kernel
theorem dX9_settle_47 : decode cX9_settle 47 = .ok (.goto 7, 3) := by decide +kernel
theorem dX9_settle_50 : decode cX9_settle 50 = .ok (.aload_n 0, 1) := by decide +kernel
theorem dX9_settle_51 : decode cX9_settle 51 = .ok (.getfield 61, 3) := by decide +kernel
theorem dX9_settle_54 : decode cX9_settle 54 = .ok (.invokevirtual 213, 3) := by decide +kernel
theorem dX9_settle_57 : decode cX9_settle 57 = .ok (.aload_n 0, 1) := by decide +kernel
theorem dX9_settle_58 : decode cX9_settle 58 = .ok (.getfield 45, 3) := by decide +kernel
theorem dX9_settle_61 : decode cX9_settle 61 = .ok (.getfield 139, 3) := by decide +kernel
theorem dX9_settle_64 : decode cX9_settle 64 = .ok (.iload_n 2, 1) := by decide +kernel
theorem dX9_settle_65 : decode cX9_settle 65 = .ok (.ifCond .le 10, 3) := by decide +kernel
theorem dX9_settle_68 : decode cX9_settle 68 = .ok (.aload_n 0, 1) := by decide +kernel
theorem dX9_settle_69 : decode cX9_settle 69 = .ok (.getfield 61, 3) := by decide +kernel
theorem dX9_settle_72 : decode cX9_settle 72 = .ok (.goto 7, 3) := by decide +kernel
theorem dX9_settle_75 : decode cX9_settle 75 = .ok (.aload_n 0, 1) := by decide +kernel
theorem dX9_settle_76 : decode cX9_settle 76 = .ok (.getfield 58, 3) := by decide +kernel
theorem dX9_settle_79 : decode cX9_settle 79 = .ok (.invokevirtual 264, 3) := by decide +kernel
theorem dX9_settle_82 : decode cX9_settle 82 = .ok (.aload_n 0, 1) := by decide +kernel
theorem dX9_settle_83 : decode cX9_settle 83 = .ok (.getfield 45, 3) := by decide +kernel
theorem dX9_settle_86 : decode cX9_settle 86 = .ok (.getfield 151, 3) := by decide +kernel
theorem dX9_settle_89 : decode cX9_settle 89 = .ok (.aload_n 1, 1) := by decide +kernel
theorem dX9_settle_90 : decode cX9_settle 90 = .ok (.invokevirtual 213, 3) := by decide +kernel
theorem dX9_settle_93 : decode cX9_settle 93 = .ok (.aload_n 0, 1) := by decide +kernel
theorem dX9_settle_94 : decode cX9_settle 94 = .ok (.getfield 15, 3) := by decide +kernel
theorem dX9_settle_97 : decode cX9_settle 97 = .ok (.aload_n 0, 1) := by decide +kernel
theorem dX9_settle_98 : decode cX9_settle 98 = .ok (.getfield 45, 3) := by decide +kernel
theorem dX9_settle_101 : decode cX9_settle 101 = .ok (.getfield 139, 3) := by decide +kernel
theorem dX9_settle_104 : decode cX9_settle 104 = .ok (.aload_n 0, 1) := by decide +kernel
theorem dX9_settle_105 : decode cX9_settle 105 = .ok (.getfield 45, 3) := by decide +kernel
theorem dX9_settle_108 : decode cX9_settle 108 = .ok (.getfield 151, 3) := by decide +kernel
theorem dX9_settle_111 : decode cX9_settle 111 = .ok (.invokevirtual 239, 3) := by decide +kernel
theorem dX9_settle_114 : decode cX9_settle 114 = .ok (.return_, 1) := by decide +kernel
def w_So_settle_79 (C : zC) (n0 : Nat) (Q : zS → Prop)  (a0 : Nat) (a1 : Nat) (s0 : Nat) (s1 : Nat) (κ : zS) : Prop :=
  ∀ _ : zT κ s0 = 8,
  ∀ _ : zT κ s1 = 8,
  zRun C 1 mNu_minus [.ref s0, .ref s1] κ (oV (fun κ1 =>
    ∀ _ : zW C n0 κ1,
    ∀ _ : zM (zn κ) κ κ1,
    ∀ _ : zT κ1 (zR κ1 raBottom (zR κ1 soPart a0)) = 8,
    ∀ _ : zT κ1 a1 = 8,
    zRun C 1 mNu_copy [.ref (zR κ1 raBottom (zR κ1 soPart a0)), .ref a1] κ1 (oV (fun κ5 =>
      ∀ _ : zW C n0 κ5,
      ∀ _ : zM (zn κ1) κ1 κ5,
      ∀ _ : zT κ5 (zR κ5 soCalc a0) = 4,
      ∀ _ : zT κ5 (zR κ5 raTop (zR κ5 soPart a0)) = 8,
      ∀ _ : zT κ5 (zR κ5 raBottom (zR κ5 soPart a0)) = 8,
      zRun C 5 mCa_reduce [.ref (zR κ5 soCalc a0), .ref (zR κ5 raTop (zR κ5 soPart a0)), .ref (zR κ5 raBottom (zR κ5 soPart a0))] κ5 (oV (fun κ10 =>
        ∀ _ : zW C n0 κ10,
        ∀ _ : zM (zn κ5) κ5 κ10,
        Q κ10) noX)) noX)) noX)
theorem t_So_settle_79 {C : zC} {n0 : Nat} {Q : zS → Prop}   {a0 : Nat} {a1 : Nat} {s0 : Nat} {s1 : Nat} {κ : zS} (W : zW C n0 κ) (Ta0 : zT κ a0 = 12) (Ta1 : zT κ a1 = 8) (Ts0 : zT κ s0 = 8) (Ts1 : zT κ s1 = 8) (F : w_So_settle_79 C n0 Q  a0 a1 s0 s1 κ) : zG C n0 6 mSo_settle 79 [some (.ref a0), some (.ref a1), none] [.ref s1, .ref s0] κ (oV Q noX) := by
  unfold w_So_settle_79 at F
  replace F := F Ts0
  replace F := F Ts1
  refine k_X9_264 W dX9_settle_79 rfl (Nat.le_of_ble_eq_true rfl) (Nat.le_of_ble_eq_true rfl) (Or.inl Ts0) F (fun  κ1 Wκ1 Mκ1 F => ?_) (fun _ _ h9 => False.elim h9)
  replace F := F Wκ1 Mκ1
  refine y_aln dX9_settle_82 rfl ?_
  have h4 := (ztm W Mκ1 Ta0)
  refine gf_X9_45 Wκ1 dX9_settle_83 rfl h4 ?_
  refine gf_X9_151 Wκ1 dX9_settle_86 rfl (ty_soPart Wκ1 h4) ?_
  refine y_aln dX9_settle_89 rfl ?_
  replace F := F (ty_raBottom Wκ1 (ty_soPart Wκ1 h4))
  have h7 := (ztm W Mκ1 Ta1)
  replace F := F h7
  refine k_X9_213 Wκ1 dX9_settle_90 rfl (Nat.le_of_ble_eq_true rfl) (Nat.le_of_ble_eq_true rfl) (Or.inl (ty_raBottom Wκ1 (ty_soPart Wκ1 h4))) F (fun  κ5 Wκ5 Mκ5 F => ?_) (fun _ _ h9 => False.elim h9)
  replace F := F Wκ5 Mκ5
  refine y_aln dX9_settle_93 rfl ?_
  have h9 := (ztm Wκ1 Mκ5 h4)
  refine gf_X9_15 Wκ5 dX9_settle_94 rfl h9 ?_
  refine y_aln dX9_settle_97 rfl ?_
  refine gf_X9_45 Wκ5 dX9_settle_98 rfl h9 ?_
  refine gf_X9_139 Wκ5 dX9_settle_101 rfl (ty_soPart Wκ5 h9) ?_
  refine y_aln dX9_settle_104 rfl ?_
  refine gf_X9_45 Wκ5 dX9_settle_105 rfl h9 ?_
  refine gf_X9_151 Wκ5 dX9_settle_108 rfl (ty_soPart Wκ5 h9) ?_
  replace F := F (ty_soCalc Wκ5 h9)
  replace F := F (ty_raTop Wκ5 (ty_soPart Wκ5 h9))
  replace F := F (ty_raBottom Wκ5 (ty_soPart Wκ5 h9))
  refine k_X9_239 Wκ5 dX9_settle_111 rfl (Nat.le_of_ble_eq_true rfl) (Nat.le_of_ble_eq_true rfl) (Or.inl (ty_soCalc Wκ5 h9)) F (fun  κ10 Wκ10 Mκ10 F => ?_) (fun _ _ h9 => False.elim h9)
  replace F := F Wκ10 Mκ10
  exact y_rv Wκ10 dX9_settle_114 rfl F

def w_So_settle_54 (C : zC) (n0 : Nat) (Q : zS → Prop)  (a0 : Nat) (a1 : Nat) (a2 : Int32) (s0 : Nat) (s1 : Nat) (κ : zS) : Prop :=
  ∀ _ : zT κ s0 = 8,
  ∀ _ : zT κ s1 = 8,
  zRun C 1 mNu_copy [.ref s0, .ref s1] κ (oV (fun κ1 =>
    ∀ _ : zW C n0 κ1,
    ∀ _ : zM (zn κ) κ κ1,
    (a2 ≤ (0 : Int32) →
      w_So_settle_79 C n0 Q  a0 a1 (zR κ1 raTop (zR κ1 soPart a0)) (zR κ1 soSum a0) κ1) ∧
    (¬ a2 ≤ (0 : Int32) →
      w_So_settle_79 C n0 Q  a0 a1 (zR κ1 raTop (zR κ1 soPart a0)) (zR κ1 soLess a0) κ1)) noX)
theorem t_So_settle_54 {C : zC} {n0 : Nat} {Q : zS → Prop}   {a0 : Nat} {a1 : Nat} {a2 : Int32} {s0 : Nat} {s1 : Nat} {κ : zS} (W : zW C n0 κ) (Ta0 : zT κ a0 = 12) (Ta1 : zT κ a1 = 8) (Ts0 : zT κ s0 = 8) (Ts1 : zT κ s1 = 8) (F : w_So_settle_54 C n0 Q  a0 a1 a2 s0 s1 κ) : zG C n0 6 mSo_settle 54 [some (.ref a0), some (.ref a1), some (.int a2)] [.ref s1, .ref s0] κ (oV Q noX) := by
  unfold w_So_settle_54 at F
  replace F := F Ts0
  replace F := F Ts1
  refine k_X9_213 W dX9_settle_54 rfl (Nat.le_of_ble_eq_true rfl) (Nat.le_of_ble_eq_true rfl) (Or.inl Ts0) F (fun  κ1 Wκ1 Mκ1 F => ?_) (fun _ _ h9 => False.elim h9)
  replace F := F Wκ1 Mκ1
  refine y_aln dX9_settle_57 rfl ?_
  have h4 := (ztm W Mκ1 Ta0)
  refine gf_X9_45 Wκ1 dX9_settle_58 rfl h4 ?_
  refine gf_X9_139 Wκ1 dX9_settle_61 rfl (ty_soPart Wκ1 h4) ?_
  refine y_iln dX9_settle_64 rfl ?_
  refine y_i (a2 ≤ (0 : Int32)) dX9_settle_65 (t := 75) rfl rfl (fun c9 => ?_) (fun c9 => ?_)
  · replace F := F.1 c9
    refine y_aln dX9_settle_75 rfl ?_
    refine gf_X9_58 Wκ1 dX9_settle_76 rfl h4 ?_
    have h5 := (ztm W Mκ1 Ta1)
    exact y_k (t_So_settle_79  Wκ1 h4 h5 (ty_raTop Wκ1 (ty_soPart Wκ1 h4)) (ty_soSum Wκ1 h4) F) ⟨rfl, rfl, trivial⟩
  · replace F := F.2 c9
    refine y_aln dX9_settle_68 rfl ?_
    refine gf_X9_61 Wκ1 dX9_settle_69 rfl h4 ?_
    refine y_goto dX9_settle_72 (t := 79) rfl ?_
    have h6 := (ztm W Mκ1 Ta1)
    exact y_k (t_So_settle_79  Wκ1 h4 h6 (ty_raTop Wκ1 (ty_soPart Wκ1 h4)) (ty_soLess Wκ1 h4) F) ⟨rfl, rfl, trivial⟩

def w_So_settle_0 (C : zC) (n0 : Nat) (Q : zS → Prop)  (a0 : Nat) (a1 : Nat) (κ : zS) : Prop :=
  ∀ _ : zT κ (zR κ soSum a0) = 8,
  ∀ _ : zT κ (zR κ soLess a0) = 8,
  zRun C 0 mNu_compare [.ref (zR κ soSum a0), .ref (zR κ soLess a0)] κ (oI (fun r2 κ1 =>
    ∀ _ : zW C n0 κ1,
    ∀ _ : zM (zn κ) κ κ1,
    (¬ r2 = (0 : Int32) →
      ∀ κ5, κ5 = ui κ1 raSign (zR κ1 soPart a0) r2 →
      ∀ _ : zW C n0 κ5,
      (r2 ≤ (0 : Int32) →
        w_So_settle_54 C n0 Q  a0 a1 r2 (zR κ5 raTop (zR κ5 soPart a0)) (zR κ5 soLess a0) κ5) ∧
      (¬ r2 ≤ (0 : Int32) →
        w_So_settle_54 C n0 Q  a0 a1 r2 (zR κ5 raTop (zR κ5 soPart a0)) (zR κ5 soSum a0) κ5)) ∧
    (r2 = (0 : Int32) →
      ∀ _ : zT κ1 (zR κ1 soPart a0) = 11,
      zRun C 1 mRa_putZero [.ref (zR κ1 soPart a0)] κ1 (oV (fun κ10 =>
        ∀ _ : zW C n0 κ10,
        ∀ _ : zM (zn κ1) κ1 κ10,
        Q κ10) noX))) noX)
theorem t_So_settle_0 {C : zC} {n0 : Nat} {Q : zS → Prop}   {a0 : Nat} {a1 : Nat} {κ : zS} (W : zW C n0 κ) (Ta0 : zT κ a0 = 12) (Ta1 : zT κ a1 = 8) (F : w_So_settle_0 C n0 Q  a0 a1 κ) : zG C n0 6 mSo_settle 0 [some (.ref a0), some (.ref a1), none] [] κ (oV Q noX) := by
  unfold w_So_settle_0 at F
  refine y_aln dX9_settle_0 rfl ?_
  refine gf_X9_58 W dX9_settle_1 rfl Ta0 ?_
  refine y_aln dX9_settle_4 rfl ?_
  refine gf_X9_61 W dX9_settle_5 rfl Ta0 ?_
  replace F := F (ty_soSum W Ta0)
  replace F := F (ty_soLess W Ta0)
  refine k_X9_223 W dX9_settle_8 rfl (Nat.le_of_ble_eq_true rfl) (Nat.le_of_ble_eq_true rfl) (Or.inl (ty_soSum W Ta0)) F (fun r2 κ1 Wκ1 Mκ1 F => ?_) (fun _ _ h9 => False.elim h9)
  replace F := F Wκ1 Mκ1
  refine y_isn dX9_settle_11 (Nat.le_of_ble_eq_true rfl) rfl ?_
  show zG _ _ _ _ _ [some (.ref a0), some (.ref a1), some (.int r2)] _ _ _
  refine y_iln dX9_settle_12 rfl ?_
  refine y_in (r2 = (0 : Int32)) dX9_settle_13 (t := 24) rfl rfl (fun c9 => ?_) (fun c9 => ?_)
  · replace F := F.1 c9
    refine y_aln dX9_settle_24 rfl ?_
    have h4 := (ztm W Mκ1 Ta0)
    refine gf_X9_45 Wκ1 dX9_settle_25 rfl h4 ?_
    refine y_iln dX9_settle_28 rfl ?_
    refine pf_X9_164 Wκ1 dX9_settle_29 rfl (Or.inl (ty_soPart Wκ1 h4)) (fun κ5 eκ5 => ?_)
    replace F := F κ5 eκ5
    have Wκ5 : zW C n0 κ5 := zW_ui Wκ1 eκ5 (fun h => absurd h (by decide))
    have Mκ5 : zM (zn κ1) κ1 κ5 := by rw [eκ5]; exact zM.of rfl rfl rfl
    replace F := F Wκ5
    refine y_aln dX9_settle_32 rfl ?_
    have h6 := (ztm Wκ1 Mκ5 h4)
    refine gf_X9_45 Wκ5 dX9_settle_33 rfl h6 ?_
    refine gf_X9_139 Wκ5 dX9_settle_36 rfl (ty_soPart Wκ5 h6) ?_
    refine y_iln dX9_settle_39 rfl ?_
    refine y_i (r2 ≤ (0 : Int32)) dX9_settle_40 (t := 50) rfl rfl (fun c9 => ?_) (fun c9 => ?_)
    · replace F := F.1 c9
      refine y_aln dX9_settle_50 rfl ?_
      refine gf_X9_61 Wκ5 dX9_settle_51 rfl h6 ?_
      have h7 := (ztm Wκ1 Mκ5 (ztm W Mκ1 Ta1))
      exact y_k (t_So_settle_54  Wκ5 h6 h7 (ty_raTop Wκ5 (ty_soPart Wκ5 h6)) (ty_soLess Wκ5 h6) F) ⟨rfl, rfl, rfl, trivial⟩
    · replace F := F.2 c9
      refine y_aln dX9_settle_43 rfl ?_
      refine gf_X9_58 Wκ5 dX9_settle_44 rfl h6 ?_
      refine y_goto dX9_settle_47 (t := 54) rfl ?_
      have h8 := (ztm Wκ1 Mκ5 (ztm W Mκ1 Ta1))
      exact y_k (t_So_settle_54  Wκ5 h6 h8 (ty_raTop Wκ5 (ty_soPart Wκ5 h6)) (ty_soSum Wκ5 h6) F) ⟨rfl, rfl, rfl, trivial⟩
  · replace F := F.2 c9
    refine y_aln dX9_settle_16 rfl ?_
    have h9 := (ztm W Mκ1 Ta0)
    refine gf_X9_45 Wκ1 dX9_settle_17 rfl h9 ?_
    replace F := F (ty_soPart Wκ1 h9)
    refine k_X9_81 Wκ1 dX9_settle_20 rfl (Nat.le_of_ble_eq_true rfl) (Nat.le_of_ble_eq_true rfl) (Or.inl (ty_soPart Wκ1 h9)) F (fun  κ10 Wκ10 Mκ10 F => ?_) (fun _ _ h9 => False.elim h9)
    replace F := F Wκ10 Mκ10
    exact y_rv Wκ10 dX9_settle_23 rfl F

theorem So_settle_run {C : zC} {n0 : Nat} {Q : zS → Prop} {a0 : Nat} {a1 : Nat} {κ : zS} (W : zW C n0 κ) (Ta0 : zT κ a0 = 12) (Ta1 : zT κ a1 = 8) (F : w_So_settle_0 C (zn κ) Q a0 a1 κ) : zRun C 6 mSo_settle [.ref a0, .ref a1] κ (oV Q noX) := z_run (m_ent _ 1) (t_So_settle_0 (W.lo (Nat.le_trans W.1.2.1 W.1.2.2) (Nat.le_refl _)) Ta0 Ta1 F)

theorem dX6_showWeight_0 : decode cX6_showWeight 0 = .ok (.iload_n 1, 1) := by decide +kernel
theorem dX6_showWeight_1 : decode cX6_showWeight 1 = .ok (.iconst 1, 1) := by decide +kernel
theorem dX6_showWeight_2 : decode cX6_showWeight 2 = .ok (.if_icmp .gt 8, 3) := by decide +kernel
theorem dX6_showWeight_5 : decode cX6_showWeight 5 = .ok (.bipush 6, 2) := by decide +kernel
theorem dX6_showWeight_7 : decode cX6_showWeight 7 = .ok (.goto 15, 3) := by decide +kernel
theorem dX6_showWeight_10 : decode cX6_showWeight 10 = .ok (.iload_n 1, 1) := by decide +kernel
theorem dX6_showWeight_11 : decode cX6_showWeight 11 = .ok (.bipush 10, 2) := by decide +kernel
theorem dX6_showWeight_13 : decode cX6_showWeight 13 = .ok (.if_icmp .ne 8, 3) := by decide +kernel
theorem dX6_showWeight_16 : decode cX6_showWeight 16 = .ok (.bipush 7, 2) := by decide +kernel
theorem dX6_showWeight_18 : decode cX6_showWeight 18 = .ok (.goto 4, 3) := by decide +kernel
theorem dX6_showWeight_21 : decode cX6_showWeight 21 = .ok (.iload_n 1, 1) := by decide +kernel
theorem dX6_showWeight_22 : decode cX6_showWeight 22 = .ok (.istore 4, 2) := by decide +kernel
theorem dX6_showWeight_24 : decode cX6_showWeight 24 = .ok (.aload_n 0, 1) := by decide +kernel
theorem dX6_showWeight_25 : decode cX6_showWeight 25 = .ok (.getfield 15, 3) := by decide +kernel
theorem dX6_showWeight_28 : decode cX6_showWeight 28 = .ok (.getfield 151, 3) := by decide +kernel
theorem dX6_showWeight_31 : decode cX6_showWeight 31 = .ok (.lconst 1, 1) := by decide +kernel
theorem dX6_showWeight_32 : decode cX6_showWeight 32 = .ok (.invokevirtual 138, 3) := by decide +kernel
theorem dX6_showWeight_35 : decode cX6_showWeight 35 = .ok (.iconst 0, 1) := by decide +kernel
theorem dX6_showWeight_36 : decode cX6_showWeight 36 = .ok (.istore 5, 2) := by decide +kernel
theorem dX6_showWeight_38 : decode cX6_showWeight 38 = .ok (.iload 5, 2) := by decide +kernel
theorem dX6_showWeight_40 : decode cX6_showWeight 40 = .ok (.aload_n 0, 1) := by decide +kernel
theorem dX6_showWeight_41 : decode cX6_showWeight 41 = .ok (.getfield 9, 3) := by decide +kernel
theorem dX6_showWeight_44 : decode cX6_showWeight 44 = .ok (.getfield 125, 3) := by decide +kernel
theorem dX6_showWeight_47 : decode cX6_showWeight 47 = .ok (.getfield 128, 3) := by decide +kernel
theorem dX6_showWeight_50 : decode cX6_showWeight 50 = .ok (.if_icmp .ge 56, 3) := by decide +kernel
theorem dX6_showWeight_53 : decode cX6_showWeight 53 = .ok (.aload_n 0, 1) := by decide +kernel
theorem dX6_showWeight_54 : decode cX6_showWeight 54 = .ok (.iload 5, 2) := by decide +kernel
theorem dX6_showWeight_56 : decode cX6_showWeight 56 = .ok (.iload 4, 2) := by decide +kernel
theorem dX6_showWeight_58 : decode cX6_showWeight 58 = .ok (.iload_n 2, 1) := by decide +kernel
theorem dX6_showWeight_59 : decode cX6_showWeight 59 = .ok (.invokevirtual 131, 3) := by decide +kernel
theorem dX6_showWeight_62 : decode cX6_showWeight 62 = .ok (.lconst 0, 1) := by decide +kernel
theorem dX6_showWeight_63 : decode cX6_showWeight 63 = .ok (.lcmp, 1) := by decide +kernel
theorem dX6_showWeight_64 : decode cX6_showWeight 64 = .ok (.ifCond .eq 36, 3) := by decide +kernel
theorem dX6_showWeight_67 : decode cX6_showWeight 67 = .ok (.aload_n 0, 1) := by decide +kernel
theorem dX6_showWeight_68 : decode cX6_showWeight 68 = .ok (.getfield 15, 3) := by decide +kernel
theorem dX6_showWeight_71 : decode cX6_showWeight 71 = .ok (.iload 5, 2) := by decide +kernel
theorem dX6_showWeight_73 : decode cX6_showWeight 73 = .ok (.invokevirtual 145, 3) := by decide +kernel
theorem dX6_showWeight_76 : decode cX6_showWeight 76 = .ok (.aload_n 0, 1) := by decide +kernel
theorem dX6_showWeight_77 : decode cX6_showWeight 77 = .ok (.getfield 19, 3) := by decide +kernel
theorem dX6_showWeight_80 : decode cX6_showWeight 80 = .ok (.aload_n 0, 1) := by decide +kernel
theorem dX6_showWeight_81 : decode cX6_showWeight 81 = .ok (.getfield 15, 3) := by decide +kernel
theorem dX6_showWeight_84 : decode cX6_showWeight 84 = .ok (.getfield 151, 3) := by decide +kernel
theorem dX6_showWeight_87 : decode cX6_showWeight 87 = .ok (.aload_n 0, 1) := by decide +kernel
theorem dX6_showWeight_88 : decode cX6_showWeight 88 = .ok (.getfield 15, 3) := by decide +kernel
theorem dX6_showWeight_91 : decode cX6_showWeight 91 = .ok (.getfield 154, 3) := by decide +kernel
theorem dX6_showWeight_94 : decode cX6_showWeight 94 = .ok (.getfield 157, 3) := by decide +kernel
theorem dX6_showWeight_97 : decode cX6_showWeight 97 = .ok (.invokevirtual 160, 3) := by decide +kernel
theorem dX6_showWeight_100 : decode cX6_showWeight 100 = .ok (.iinc 5 1, 3) := by decide +kernel
theorem dX6_showWeight_103 : decode cX6_showWeight 103 = .ok (.goto (-65), 3) := by decide +kernel
theorem dX6_showWeight_106 : decode cX6_showWeight 106 = .ok (.aload_n 0, 1) := by decide +kernel
theorem dX6_showWeight_107 : decode cX6_showWeight 107 = .ok (.getfield 28, 3) := by decide +kernel
theorem dX6_showWeight_110 : decode cX6_showWeight 110 = .ok (.aload_n 0, 1) := by decide +kernel
theorem dX6_showWeight_111 : decode cX6_showWeight 111 = .ok (.getfield 15, 3) := by decide +kernel
theorem dX6_showWeight_114 : decode cX6_showWeight 114 = .ok (.getfield 151, 3) := by decide +kernel
theorem dX6_showWeight_117 : decode cX6_showWeight 117 = .ok (.invokevirtual 166, 3) := by decide +kernel
theorem dX6_showWeight_120 : decode cX6_showWeight 120 = .ok (.iload 4, 2) := by decide +kernel
theorem dX6_showWeight_122 : decode cX6_showWeight 122 = .ok (.iload_n 1, 1) := by decide +kernel
theorem dX6_showWeight_123 : decode cX6_showWeight 123 = .ok (.if_icmp .eq 24, 3) := by decide +kernel
theorem dX6_showWeight_126 : decode cX6_showWeight 126 = .ok (.aload_n 0, 1) := by decide +kernel
theorem dX6_showWeight_127 : decode cX6_showWeight 127 = .ok (.iload 4, 2) := by decide +kernel
theorem dX6_showWeight_129 : decode cX6_showWeight 129 = .ok (.iload_n 2, 1) := by decide +kernel
theorem dX6_showWeight_130 : decode cX6_showWeight 130 = .ok (.invokevirtual 170, 3) := by decide +kernel
theorem dX6_showWeight_133 : decode cX6_showWeight 133 = .ok (.aload_n 0, 1) := by decide +kernel
theorem dX6_showWeight_134 : decode cX6_showWeight 134 = .ok (.getfield 28, 3) := by decide +kernel
theorem dX6_showWeight_137 : decode cX6_showWeight 137 = .ok (.aload_n 0, 1) := by decide +kernel
theorem dX6_showWeight_138 : decode cX6_showWeight 138 = .ok (.getfield 15, 3) := by decide +kernel
theorem dX6_showWeight_141 : decode cX6_showWeight 141 = .ok (.getfield 135, 3) := by decide +kernel
theorem dX6_showWeight_144 : decode cX6_showWeight 144 = .ok (.invokevirtual 166, 3) := by decide +kernel
theorem dX6_showWeight_147 : decode cX6_showWeight 147 = .ok (.aload_n 0, 1) := by decide +kernel
theorem dX6_showWeight_148 : decode cX6_showWeight 148 = .ok (.iload_n 1, 1) := by decide +kernel
theorem dX6_showWeight_149 : decode cX6_showWeight 149 = .ok (.iload_n 2, 1) := by decide +kernel
theorem dX6_showWeight_150 : decode cX6_showWeight 150 = .ok (.invokevirtual 170, 3) := by decide +kernel
theorem dX6_showWeight_153 : decode cX6_showWeight 153 = .ok (.iload_n 1, 1) := by decide +kernel
theorem dX6_showWeight_154 : decode cX6_showWeight 154 = .ok (.iconst 5, 1) := by decide +kernel
theorem dX6_showWeight_155 : decode cX6_showWeight 155 = .ok (.if_icmp .ne 37, 3) := by decide +kernel
theorem dX6_showWeight_158 : decode cX6_showWeight 158 = .ok (.aload_n 0, 1) := by decide +kernel
theorem dX6_showWeight_159 : decode cX6_showWeight 159 = .ok (.getfield 15, 3) := by decide +kernel
theorem dX6_showWeight_162 : decode cX6_showWeight 162 = .ok (.getfield 142, 3) := by decide +kernel
theorem dX6_showWeight_165 : decode cX6_showWeight 165 = .ok (.aload_n 0, 1) := by decide +kernel
theorem dX6_showWeight_166 : decode cX6_showWeight 166 = .ok (.getfield 15, 3) := by decide +kernel
theorem dX6_showWeight_169 : decode cX6_showWeight 169 = .ok (.getfield 135, 3) := by decide +kernel
theorem dX6_showWeight_172 : decode cX6_showWeight 172 = .ok (.invokevirtual 166, 3) := by decide +kernel
theorem dX6_showWeight_175 : decode cX6_showWeight 175 = .ok (.aload_n 0, 1) := by decide +kernel
theorem dX6_showWeight_176 : decode cX6_showWeight 176 = .ok (.getfield 15, 3) := by decide +kernel
theorem dX6_showWeight_179 : decode cX6_showWeight 179 = .ok (.getfield 135, 3) := by decide +kernel
theorem dX6_showWeight_182 : decode cX6_showWeight 182 = .ok (.aload_n 0, 1) := by decide +kernel
theorem dX6_showWeight_183 : decode cX6_showWeight 183 = .ok (.getfield 15, 3) := by decide +kernel
theorem dX6_showWeight_186 : decode cX6_showWeight 186 = .ok (.getfield 151, 3) := by decide +kernel
theorem dX6_showWeight_189 : decode cX6_showWeight 189 = .ok (.invokevirtual 166, 3) := by decide +kernel
theorem dX6_showWeight_192 : decode cX6_showWeight 192 = .ok (.aload_n 0, 1) := by decide +kernel
theorem dX6_showWeight_193 : decode cX6_showWeight 193 = .ok (.getfield 15, 3) := by decide +kernel
theorem dX6_showWeight_196 : decode cX6_showWeight 196 = .ok (.aload_n 0, 1) := by decide +kernel
theorem dX6_showWeight_197 : decode cX6_showWeight 197 = .ok (.getfield 28, 3) := by decide +kernel
theorem dX6_showWeight_200 : decode cX6_showWeight 200 = .ok (.invokevirtual 174, 3) := by decide +kernel
theorem dX6_showWeight_203 : decode cX6_showWeight 203 = .ok (.aload_n 3, 1) := by decide +kernel
theorem dX6_showWeight_204 : decode cX6_showWeight 204 = .ok (.aload_n 0, 1) := by decide +kernel
theorem dX6_showWeight_205 : decode cX6_showWeight 205 = .ok (.getfield 15, 3) := by decide +kernel
theorem dX6_showWeight_208 : decode cX6_showWeight 208 = .ok (.getfield 154, 3) := by decide +kernel
theorem dX6_showWeight_211 : decode cX6_showWeight 211 = .ok (.invokevirtual 177, 3) := by decide +kernel
theorem dX6_showWeight_214 : decode cX6_showWeight 214 = .ok (.return_, 1) := by decide +kernel
def w_Od_showWeight_192 (C : zC) (n0 : Nat) (Q : zS → Prop)  (a0 : Nat) (a3 : Nat) (κ : zS) : Prop :=
  ∀ _ : zT κ (zR κ odSolver a0) = 12,
  ∀ _ : zT κ (zR κ odHeld a0) = 8,
  zRun C 6 mSo_settle [.ref (zR κ odSolver a0), .ref (zR κ odHeld a0)] κ (oV (fun κ1 =>
    ∀ _ : zW C n0 κ1,
    ∀ _ : zM (zn κ) κ κ1,
    ∀ _ : zT κ1 a3 = 11,
    ∀ _ : zT κ1 (zR κ1 soPart (zR κ1 odSolver a0)) = 11,
    zRun C 2 mRa_copy [.ref a3, .ref (zR κ1 soPart (zR κ1 odSolver a0))] κ1 (oV (fun κ5 =>
      ∀ _ : zW C n0 κ5,
      ∀ _ : zM (zn κ1) κ1 κ5,
      Q κ5) noX)) noX)
theorem t_Od_showWeight_192 {C : zC} {n0 : Nat} {Q : zS → Prop}   {a0 : Nat} {a3 : Nat} {κ : zS} (W : zW C n0 κ) (Ta0 : zT κ a0 = 9) (Ta3 : zT κ a3 = 11) (F : w_Od_showWeight_192 C n0 Q  a0 a3 κ) : zG C n0 7 mOd_showWeight 192 [some (.ref a0), none, none, some (.ref a3), none, none] [] κ (oV Q noX) := by
  unfold w_Od_showWeight_192 at F
  refine y_aln dX6_showWeight_192 rfl ?_
  refine gf_X6_15 W dX6_showWeight_193 rfl Ta0 ?_
  refine y_aln dX6_showWeight_196 rfl ?_
  refine gf_X6_28 W dX6_showWeight_197 rfl Ta0 ?_
  replace F := F (ty_odSolver W Ta0)
  replace F := F (ty_odHeld W Ta0)
  refine k_X6_174 W dX6_showWeight_200 rfl (Nat.le_of_ble_eq_true rfl) (Nat.le_of_ble_eq_true rfl) (Or.inl (ty_odSolver W Ta0)) F (fun  κ1 Wκ1 Mκ1 F => ?_) (fun _ _ h9 => False.elim h9)
  replace F := F Wκ1 Mκ1
  refine y_aln dX6_showWeight_203 rfl ?_
  refine y_aln dX6_showWeight_204 rfl ?_
  have h4 := (ztm W Mκ1 Ta0)
  refine gf_X6_15 Wκ1 dX6_showWeight_205 rfl h4 ?_
  refine gf_X6_154 Wκ1 dX6_showWeight_208 rfl (ty_odSolver Wκ1 h4) ?_
  have h7 := (ztm W Mκ1 Ta3)
  replace F := F h7
  replace F := F (ty_soPart Wκ1 (ty_odSolver Wκ1 h4))
  refine k_X6_177 Wκ1 dX6_showWeight_211 rfl (Nat.le_of_ble_eq_true rfl) (Nat.le_of_ble_eq_true rfl) (Or.inl h7) F (fun  κ5 Wκ5 Mκ5 F => ?_) (fun _ _ h9 => False.elim h9)
  replace F := F Wκ5 Mκ5
  exact y_rv Wκ5 dX6_showWeight_214 rfl F

def w_Od_showWeight_147 (C : zC) (n0 : Nat) (Q : zS → Prop)  (a0 : Nat) (a1 : Int32) (a2 : Int32) (a3 : Nat) (κ : zS) : Prop :=
  ∀ _ : zT κ a0 = 9,
  zRun C 5 mOd_weigh [.ref a0, .int a1, .int a2] κ (oV (fun κ1 =>
    ∀ _ : zW C n0 κ1,
    ∀ _ : zM (zn κ) κ κ1,
    (¬ a1 = (5 : Int32) →
      w_Od_showWeight_192 C n0 Q  a0 a3 κ1) ∧
    (a1 = (5 : Int32) →
      ∀ _ : zT κ1 (zR κ1 soLess (zR κ1 odSolver a0)) = 8,
      ∀ _ : zT κ1 (zR κ1 soSum (zR κ1 odSolver a0)) = 8,
      zRun C 1 mNu_copy [.ref (zR κ1 soLess (zR κ1 odSolver a0)), .ref (zR κ1 soSum (zR κ1 odSolver a0))] κ1 (oV (fun κ7 =>
        ∀ _ : zW C n0 κ7,
        ∀ _ : zM (zn κ1) κ1 κ7,
        ∀ _ : zT κ7 (zR κ7 soSum (zR κ7 odSolver a0)) = 8,
        ∀ _ : zT κ7 (zR κ7 soWhole (zR κ7 odSolver a0)) = 8,
        zRun C 1 mNu_copy [.ref (zR κ7 soSum (zR κ7 odSolver a0)), .ref (zR κ7 soWhole (zR κ7 odSolver a0))] κ7 (oV (fun κ11 =>
          ∀ _ : zW C n0 κ11,
          ∀ _ : zM (zn κ7) κ7 κ11,
          w_Od_showWeight_192 C n0 Q  a0 a3 κ11) noX)) noX))) noX)
theorem t_Od_showWeight_147 {C : zC} {n0 : Nat} {Q : zS → Prop}   {a0 : Nat} {a1 : Int32} {a2 : Int32} {a3 : Nat} {κ : zS} (W : zW C n0 κ) (Ta0 : zT κ a0 = 9) (Ta3 : zT κ a3 = 11) (F : w_Od_showWeight_147 C n0 Q  a0 a1 a2 a3 κ) : zG C n0 7 mOd_showWeight 147 [some (.ref a0), some (.int a1), some (.int a2), some (.ref a3), none, none] [] κ (oV Q noX) := by
  unfold w_Od_showWeight_147 at F
  refine y_aln dX6_showWeight_147 rfl ?_
  refine y_iln dX6_showWeight_148 rfl ?_
  refine y_iln dX6_showWeight_149 rfl ?_
  replace F := F Ta0
  refine k_X6_170 W dX6_showWeight_150 rfl (Nat.le_of_ble_eq_true rfl) (Nat.le_of_ble_eq_true rfl) (Or.inl Ta0) F (fun  κ1 Wκ1 Mκ1 F => ?_) (fun _ _ h9 => False.elim h9)
  replace F := F Wκ1 Mκ1
  refine y_iln dX6_showWeight_153 rfl ?_
  refine y_ic dX6_showWeight_154 zi_5 ?_
  refine y_iin (a1 = (5 : Int32)) dX6_showWeight_155 (t := 192) rfl rfl (fun c9 => ?_) (fun c9 => ?_)
  · replace F := F.1 c9
    have h4 := (ztm W Mκ1 Ta0)
    have h5 := (ztm W Mκ1 Ta3)
    exact y_k (t_Od_showWeight_192  Wκ1 h4 h5 F) ⟨rfl, rfl, trivial⟩
  · replace F := F.2 c9
    refine y_aln dX6_showWeight_158 rfl ?_
    have h6 := (ztm W Mκ1 Ta0)
    refine gf_X6_15 Wκ1 dX6_showWeight_159 rfl h6 ?_
    refine gf_X6_142 Wκ1 dX6_showWeight_162 rfl (ty_odSolver Wκ1 h6) ?_
    refine y_aln dX6_showWeight_165 rfl ?_
    refine gf_X6_15 Wκ1 dX6_showWeight_166 rfl h6 ?_
    refine gf_X6_135 Wκ1 dX6_showWeight_169 rfl (ty_odSolver Wκ1 h6) ?_
    replace F := F (ty_soLess Wκ1 (ty_odSolver Wκ1 h6))
    replace F := F (ty_soSum Wκ1 (ty_odSolver Wκ1 h6))
    refine k_X6_166 Wκ1 dX6_showWeight_172 rfl (Nat.le_of_ble_eq_true rfl) (Nat.le_of_ble_eq_true rfl) (Or.inl (ty_soLess Wκ1 (ty_odSolver Wκ1 h6))) F (fun  κ7 Wκ7 Mκ7 F => ?_) (fun _ _ h9 => False.elim h9)
    replace F := F Wκ7 Mκ7
    refine y_aln dX6_showWeight_175 rfl ?_
    have h10 := (ztm Wκ1 Mκ7 h6)
    refine gf_X6_15 Wκ7 dX6_showWeight_176 rfl h10 ?_
    refine gf_X6_135 Wκ7 dX6_showWeight_179 rfl (ty_odSolver Wκ7 h10) ?_
    refine y_aln dX6_showWeight_182 rfl ?_
    refine gf_X6_15 Wκ7 dX6_showWeight_183 rfl h10 ?_
    refine gf_X6_151 Wκ7 dX6_showWeight_186 rfl (ty_odSolver Wκ7 h10) ?_
    replace F := F (ty_soSum Wκ7 (ty_odSolver Wκ7 h10))
    replace F := F (ty_soWhole Wκ7 (ty_odSolver Wκ7 h10))
    refine k_X6_166 Wκ7 dX6_showWeight_189 rfl (Nat.le_of_ble_eq_true rfl) (Nat.le_of_ble_eq_true rfl) (Or.inl (ty_soSum Wκ7 (ty_odSolver Wκ7 h10))) F (fun  κ11 Wκ11 Mκ11 F => ?_) (fun _ _ h9 => False.elim h9)
    replace F := F Wκ11 Mκ11
    have h14 := (ztm Wκ7 Mκ11 h10)
    have h15 := (ztm Wκ7 Mκ11 (ztm Wκ1 Mκ7 (ztm W Mκ1 Ta3)))
    exact y_k (t_Od_showWeight_192  Wκ11 h14 h15 F) ⟨rfl, rfl, trivial⟩

def w_Od_showWeight_38 (C : zC) (n0 : Nat) (Q : zS → Prop)  (a0 : Nat) (a1 : Int32) (a2 : Int32) (a3 : Nat) (a4 : Int32) (a5 : Int32) (κ : zS) : Prop :=
  ∃ I : Nat → Nat → Int32 → Int32 → Nat → Int32 → Int32 → zS → Prop, (∃ n, I n a0 a1 a2 a3 a4 a5 κ) ∧ ∀ n a0 a1 a2 a3 a4 a5 κ, zW C n0 κ → zT κ a0 = 9 → zT κ a3 = 11 → I n a0 a1 a2 a3 a4 a5 κ →
    ((zI κ hoTotal (zR κ atStates (zR κ odAtlas a0))) ≤ a5 →
      ∀ _ : zT κ (zR κ odHeld a0) = 8,
      ∀ _ : zT κ (zR κ soWhole (zR κ odSolver a0)) = 8,
      zRun C 1 mNu_copy [.ref (zR κ odHeld a0), .ref (zR κ soWhole (zR κ odSolver a0))] κ (oV (fun κ1 =>
        ∀ _ : zW C n0 κ1,
        ∀ _ : zM (zn κ) κ κ1,
        (a4 = a1 →
          w_Od_showWeight_147 C n0 Q  a0 a1 a2 a3 κ1) ∧
        (¬ a4 = a1 →
          ∀ _ : zT κ1 a0 = 9,
          zRun C 5 mOd_weigh [.ref a0, .int a4, .int a2] κ1 (oV (fun κ6 =>
            ∀ _ : zW C n0 κ6,
            ∀ _ : zM (zn κ1) κ1 κ6,
            ∀ _ : zT κ6 (zR κ6 odHeld a0) = 8,
            ∀ _ : zT κ6 (zR κ6 soSum (zR κ6 odSolver a0)) = 8,
            zRun C 1 mNu_copy [.ref (zR κ6 odHeld a0), .ref (zR κ6 soSum (zR κ6 odSolver a0))] κ6 (oV (fun κ11 =>
              ∀ _ : zW C n0 κ11,
              ∀ _ : zM (zn κ6) κ6 κ11,
              w_Od_showWeight_147 C n0 Q  a0 a1 a2 a3 κ11) noX)) noX))) noX)) ∧
    (¬ (zI κ hoTotal (zR κ atStates (zR κ odAtlas a0))) ≤ a5 →
      ∀ _ : zT κ a0 = 9,
      zRun C 4 mOd_unitsOf [.ref a0, .int a5, .int a4, .int a2] κ (oJ (fun r17 κ16 =>
        ∀ _ : zW C n0 κ16,
        ∀ _ : zM (zn κ) κ κ16,
        ((lg_cmp r17 (0 : Int64)) = (0 : Int32) →
          ∀ v5_19 : Int32, v5_19 = a5 + (1 : Int32) →
          ∃ k < n, I k a0 a1 a2 a3 a4 v5_19 κ16) ∧
        (¬ (lg_cmp r17 (0 : Int64)) = (0 : Int32) →
          ∀ _ : zT κ16 (zR κ16 odSolver a0) = 12,
          zRun C 4 mSo_unit [.ref (zR κ16 odSolver a0), .int a5] κ16 (oV (fun κ23 =>
            ∀ _ : zW C n0 κ23,
            ∀ _ : zM (zn κ16) κ16 κ23,
            ∀ _ : zT κ23 (zR κ23 odCalc a0) = 4,
            ∀ _ : zT κ23 (zR κ23 soWhole (zR κ23 odSolver a0)) = 8,
            ∀ _ : zT κ23 (zR κ23 raBottom (zR κ23 soPart (zR κ23 odSolver a0))) = 8,
            zRun C 5 mCa_join [.ref (zR κ23 odCalc a0), .ref (zR κ23 soWhole (zR κ23 odSolver a0)), .ref (zR κ23 raBottom (zR κ23 soPart (zR κ23 odSolver a0)))] κ23 (oV (fun κ27 =>
              ∀ _ : zW C n0 κ27,
              ∀ _ : zM (zn κ23) κ23 κ27,
              ∀ v5_30 : Int32, v5_30 = a5 + (1 : Int32) →
              ∃ k < n, I k a0 a1 a2 a3 a4 v5_30 κ27) noX)) noX))) noX))
theorem t_Od_showWeight_38 {C : zC} {n0 : Nat} {Q : zS → Prop}   {a0 : Nat} {a1 : Int32} {a2 : Int32} {a3 : Nat} {a4 : Int32} {a5 : Int32} {κ : zS} (W : zW C n0 κ) (Ta0 : zT κ a0 = 9) (Ta3 : zT κ a3 = 11) (F : w_Od_showWeight_38 C n0 Q  a0 a1 a2 a3 a4 a5 κ) : zG C n0 7 mOd_showWeight 38 [some (.ref a0), some (.int a1), some (.int a2), some (.ref a3), some (.int a4), some (.int a5)] [] κ (oV Q noX) := by
  obtain ⟨I, ⟨m0, hI0⟩, F0⟩ := F
  have key : ∀ n a0 a1 a2 a3 a4 a5 κ, zW C n0 κ → zT κ a0 = 9 → zT κ a3 = 11 → I n a0 a1 a2 a3 a4 a5 κ → zG C n0 7 mOd_showWeight 38 [some (.ref a0), some (.int a1), some (.int a2), some (.ref a3), some (.int a4), some (.int a5)] [] κ (oV Q noX) := by
    intro n
    induction n using Nat.strongRecOn with
    | _ n ih =>
      intro a0 a1 a2 a3 a4 a5 κ W Ta0 Ta3 hI
      have F := F0 n a0 a1 a2 a3 a4 a5 κ W Ta0 Ta3 hI
      clear hI hI0
      refine y_il dX6_showWeight_38 rfl ?_
      refine y_aln dX6_showWeight_40 rfl ?_
      refine gf_X6_9 W dX6_showWeight_41 rfl Ta0 ?_
      refine gf_X6_125 W dX6_showWeight_44 rfl (ty_odAtlas W Ta0) ?_
      refine gf_X6_128 dX6_showWeight_47 rfl (Or.inl (ty_atStates W (ty_odAtlas W Ta0))) ?_
      refine y_ii ((zI κ hoTotal (zR κ atStates (zR κ odAtlas a0))) ≤ a5) dX6_showWeight_50 (t := 106) rfl rfl (fun c9 => ?_) (fun c9 => ?_)
      · replace F := F.1 c9
        refine y_aln dX6_showWeight_106 rfl ?_
        refine gf_X6_28 W dX6_showWeight_107 rfl Ta0 ?_
        refine y_aln dX6_showWeight_110 rfl ?_
        refine gf_X6_15 W dX6_showWeight_111 rfl Ta0 ?_
        refine gf_X6_151 W dX6_showWeight_114 rfl (ty_odSolver W Ta0) ?_
        replace F := F (ty_odHeld W Ta0)
        replace F := F (ty_soWhole W (ty_odSolver W Ta0))
        refine k_X6_166 W dX6_showWeight_117 rfl (Nat.le_of_ble_eq_true rfl) (Nat.le_of_ble_eq_true rfl) (Or.inl (ty_odHeld W Ta0)) F (fun  κ1 Wκ1 Mκ1 F => ?_) (fun _ _ h9 => False.elim h9)
        replace F := F Wκ1 Mκ1
        refine y_il dX6_showWeight_120 rfl ?_
        refine y_iln dX6_showWeight_122 rfl ?_
        refine y_ii (a4 = a1) dX6_showWeight_123 (t := 147) rfl rfl (fun c9 => ?_) (fun c9 => ?_)
        · replace F := F.1 c9
          have h4 := (ztm W Mκ1 Ta0)
          have h5 := (ztm W Mκ1 Ta3)
          exact y_k (t_Od_showWeight_147  Wκ1 h4 h5 F) ⟨rfl, rfl, rfl, rfl, trivial⟩
        · replace F := F.2 c9
          refine y_aln dX6_showWeight_126 rfl ?_
          refine y_il dX6_showWeight_127 rfl ?_
          refine y_iln dX6_showWeight_129 rfl ?_
          have h8 := (ztm W Mκ1 Ta0)
          replace F := F h8
          refine k_X6_170 Wκ1 dX6_showWeight_130 rfl (Nat.le_of_ble_eq_true rfl) (Nat.le_of_ble_eq_true rfl) (Or.inl h8) F (fun  κ6 Wκ6 Mκ6 F => ?_) (fun _ _ h9 => False.elim h9)
          replace F := F Wκ6 Mκ6
          refine y_aln dX6_showWeight_133 rfl ?_
          have h10 := (ztm Wκ1 Mκ6 h8)
          refine gf_X6_28 Wκ6 dX6_showWeight_134 rfl h10 ?_
          refine y_aln dX6_showWeight_137 rfl ?_
          refine gf_X6_15 Wκ6 dX6_showWeight_138 rfl h10 ?_
          refine gf_X6_135 Wκ6 dX6_showWeight_141 rfl (ty_odSolver Wκ6 h10) ?_
          replace F := F (ty_odHeld Wκ6 h10)
          replace F := F (ty_soSum Wκ6 (ty_odSolver Wκ6 h10))
          refine k_X6_166 Wκ6 dX6_showWeight_144 rfl (Nat.le_of_ble_eq_true rfl) (Nat.le_of_ble_eq_true rfl) (Or.inl (ty_odHeld Wκ6 h10)) F (fun  κ11 Wκ11 Mκ11 F => ?_) (fun _ _ h9 => False.elim h9)
          replace F := F Wκ11 Mκ11
          have h14 := (ztm Wκ6 Mκ11 h10)
          have h15 := (ztm Wκ6 Mκ11 (ztm Wκ1 Mκ6 (ztm W Mκ1 Ta3)))
          exact y_k (t_Od_showWeight_147  Wκ11 h14 h15 F) ⟨rfl, rfl, rfl, rfl, trivial⟩
      · replace F := F.2 c9
        refine y_aln dX6_showWeight_53 rfl ?_
        refine y_il dX6_showWeight_54 rfl ?_
        refine y_il dX6_showWeight_56 rfl ?_
        refine y_iln dX6_showWeight_58 rfl ?_
        replace F := F Ta0
        refine k_X6_131 W dX6_showWeight_59 rfl (Nat.le_of_ble_eq_true rfl) (Nat.le_of_ble_eq_true rfl) (Or.inl Ta0) F (fun r17 κ16 Wκ16 Mκ16 F => ?_) (fun _ _ h9 => False.elim h9)
        replace F := F Wκ16 Mκ16
        refine y_lc dX6_showWeight_62 zl_0 ?_
        refine y_lcmp dX6_showWeight_63 ?_
        refine y_i ((lg_cmp r17 (0 : Int64)) = (0 : Int32)) dX6_showWeight_64 (t := 100) rfl rfl (fun c9 => ?_) (fun c9 => ?_)
        · replace F := F.1 c9
          refine y_incb dX6_showWeight_100 zi_1 rfl (Nat.le_of_ble_eq_true rfl) (fun v5_19 ev5_19 => ?_)
          replace F := F v5_19 ev5_19
          show zG _ _ _ _ _ [some (.ref a0), some (.int a1), some (.int a2), some (.ref a3), some (.int a4), some (.int v5_19)] _ _ _
          refine y_goto dX6_showWeight_103 (t := 38) rfl ?_
          have h20 := (ztm W Mκ16 Ta0)
          have h21 := (ztm W Mκ16 Ta3)
          obtain ⟨k, hk, hI⟩ := F
          exact y_k (ih k hk _ _ _ _ _ _ _ Wκ16 h20 h21 hI) ⟨rfl, rfl, rfl, rfl, rfl, rfl, trivial⟩
        · replace F := F.2 c9
          refine y_aln dX6_showWeight_67 rfl ?_
          have h22 := (ztm W Mκ16 Ta0)
          refine gf_X6_15 Wκ16 dX6_showWeight_68 rfl h22 ?_
          refine y_il dX6_showWeight_71 rfl ?_
          replace F := F (ty_odSolver Wκ16 h22)
          refine k_X6_145 Wκ16 dX6_showWeight_73 rfl (Nat.le_of_ble_eq_true rfl) (Nat.le_of_ble_eq_true rfl) (Or.inl (ty_odSolver Wκ16 h22)) F (fun  κ23 Wκ23 Mκ23 F => ?_) (fun _ _ h9 => False.elim h9)
          replace F := F Wκ23 Mκ23
          refine y_aln dX6_showWeight_76 rfl ?_
          have h26 := (ztm Wκ16 Mκ23 h22)
          refine gf_X6_19 Wκ23 dX6_showWeight_77 rfl h26 ?_
          refine y_aln dX6_showWeight_80 rfl ?_
          refine gf_X6_15 Wκ23 dX6_showWeight_81 rfl h26 ?_
          refine gf_X6_151 Wκ23 dX6_showWeight_84 rfl (ty_odSolver Wκ23 h26) ?_
          refine y_aln dX6_showWeight_87 rfl ?_
          refine gf_X6_15 Wκ23 dX6_showWeight_88 rfl h26 ?_
          refine gf_X6_154 Wκ23 dX6_showWeight_91 rfl (ty_odSolver Wκ23 h26) ?_
          refine gf_X6_157 Wκ23 dX6_showWeight_94 rfl (ty_soPart Wκ23 (ty_odSolver Wκ23 h26)) ?_
          replace F := F (ty_odCalc Wκ23 h26)
          replace F := F (ty_soWhole Wκ23 (ty_odSolver Wκ23 h26))
          replace F := F (ty_raBottom Wκ23 (ty_soPart Wκ23 (ty_odSolver Wκ23 h26)))
          refine k_X6_160 Wκ23 dX6_showWeight_97 rfl (Nat.le_of_ble_eq_true rfl) (Nat.le_of_ble_eq_true rfl) (Or.inl (ty_odCalc Wκ23 h26)) F (fun  κ27 Wκ27 Mκ27 F => ?_) (fun _ _ h9 => False.elim h9)
          replace F := F Wκ27 Mκ27
          refine y_incb dX6_showWeight_100 zi_1 rfl (Nat.le_of_ble_eq_true rfl) (fun v5_30 ev5_30 => ?_)
          replace F := F v5_30 ev5_30
          show zG _ _ _ _ _ [some (.ref a0), some (.int a1), some (.int a2), some (.ref a3), some (.int a4), some (.int v5_30)] _ _ _
          refine y_goto dX6_showWeight_103 (t := 38) rfl ?_
          have h31 := (ztm Wκ23 Mκ27 h26)
          have h32 := (ztm Wκ23 Mκ27 (ztm Wκ16 Mκ23 (ztm W Mκ16 Ta3)))
          obtain ⟨k, hk, hI⟩ := F
          exact y_k (ih k hk _ _ _ _ _ _ _ Wκ27 h31 h32 hI) ⟨rfl, rfl, rfl, rfl, rfl, rfl, trivial⟩
  exact key m0 a0 a1 a2 a3 a4 a5 κ W Ta0 Ta3 hI0

def w_Od_showWeight_22 (C : zC) (n0 : Nat) (Q : zS → Prop)  (a0 : Nat) (a1 : Int32) (a2 : Int32) (a3 : Nat) (s0 : Int32) (κ : zS) : Prop :=
  ∀ _ : zT κ (zR κ soWhole (zR κ odSolver a0)) = 8,
  zRun C 0 mNu_put [.ref (zR κ soWhole (zR κ odSolver a0)), .long (1 : Int64)] κ (oV (fun κ1 =>
    ∀ _ : zW C n0 κ1,
    ∀ _ : zM (zn κ) κ κ1,
    w_Od_showWeight_38 C n0 Q  a0 a1 a2 a3 s0 (0 : Int32) κ1) noX)
theorem t_Od_showWeight_22 {C : zC} {n0 : Nat} {Q : zS → Prop}   {a0 : Nat} {a1 : Int32} {a2 : Int32} {a3 : Nat} {s0 : Int32} {κ : zS} (W : zW C n0 κ) (Ta0 : zT κ a0 = 9) (Ta3 : zT κ a3 = 11) (F : w_Od_showWeight_22 C n0 Q  a0 a1 a2 a3 s0 κ) : zG C n0 7 mOd_showWeight 22 [some (.ref a0), some (.int a1), some (.int a2), some (.ref a3), none, none] [.int s0] κ (oV Q noX) := by
  unfold w_Od_showWeight_22 at F
  refine y_is dX6_showWeight_22 (Nat.le_of_ble_eq_true rfl) rfl ?_
  show zG _ _ _ _ _ [some (.ref a0), some (.int a1), some (.int a2), some (.ref a3), some (.int s0), none] _ _ _
  refine y_aln dX6_showWeight_24 rfl ?_
  refine gf_X6_15 W dX6_showWeight_25 rfl Ta0 ?_
  refine gf_X6_151 W dX6_showWeight_28 rfl (ty_odSolver W Ta0) ?_
  refine y_lc dX6_showWeight_31 zl_1 ?_
  replace F := F (ty_soWhole W (ty_odSolver W Ta0))
  refine k_X6_138 W dX6_showWeight_32 rfl (Nat.le_of_ble_eq_true rfl) (Nat.le_of_ble_eq_true rfl) (Or.inl (ty_soWhole W (ty_odSolver W Ta0))) F (fun  κ1 Wκ1 Mκ1 F => ?_) (fun _ _ h9 => False.elim h9)
  replace F := F Wκ1 Mκ1
  refine y_ic dX6_showWeight_35 zi_0 ?_
  refine y_is dX6_showWeight_36 (Nat.le_of_ble_eq_true rfl) rfl ?_
  show zG _ _ _ _ _ [some (.ref a0), some (.int a1), some (.int a2), some (.ref a3), some (.int s0), some (.int (0 : Int32))] _ _ _
  have h4 := (ztm W Mκ1 Ta0)
  have h5 := (ztm W Mκ1 Ta3)
  exact y_k (t_Od_showWeight_38  Wκ1 h4 h5 F) ⟨rfl, rfl, rfl, rfl, rfl, rfl, trivial⟩

def w_Od_showWeight_0 (C : zC) (n0 : Nat) (Q : zS → Prop)  (a0 : Nat) (a1 : Int32) (a2 : Int32) (a3 : Nat) (κ : zS) : Prop :=
  ((1 : Int32) < a1 →
    (¬ a1 = (10 : Int32) →
      w_Od_showWeight_22 C n0 Q  a0 a1 a2 a3 a1 κ) ∧
    (a1 = (10 : Int32) →
      w_Od_showWeight_22 C n0 Q  a0 a1 a2 a3 (7 : Int32) κ)) ∧
  (¬ (1 : Int32) < a1 →
    w_Od_showWeight_22 C n0 Q  a0 a1 a2 a3 (6 : Int32) κ)
theorem t_Od_showWeight_0 {C : zC} {n0 : Nat} {Q : zS → Prop}   {a0 : Nat} {a1 : Int32} {a2 : Int32} {a3 : Nat} {κ : zS} (W : zW C n0 κ) (Ta0 : zT κ a0 = 9) (Ta3 : zT κ a3 = 11) (F : w_Od_showWeight_0 C n0 Q  a0 a1 a2 a3 κ) : zG C n0 7 mOd_showWeight 0 [some (.ref a0), some (.int a1), some (.int a2), some (.ref a3), none, none] [] κ (oV Q noX) := by
  unfold w_Od_showWeight_0 at F
  refine y_iln dX6_showWeight_0 rfl ?_
  refine y_ic dX6_showWeight_1 zi_1 ?_
  refine y_ii ((1 : Int32) < a1) dX6_showWeight_2 (t := 10) rfl rfl (fun c9 => ?_) (fun c9 => ?_)
  · replace F := F.1 c9
    refine y_iln dX6_showWeight_10 rfl ?_
    refine y_bi1 dX6_showWeight_11 zb_10 ?_
    refine y_iin (a1 = (10 : Int32)) dX6_showWeight_13 (t := 21) rfl rfl (fun c9 => ?_) (fun c9 => ?_)
    · replace F := F.1 c9
      refine y_iln dX6_showWeight_21 rfl ?_
      exact y_k (t_Od_showWeight_22  W Ta0 Ta3 F) ⟨rfl, rfl, rfl, rfl, trivial⟩
    · replace F := F.2 c9
      refine y_bi1 dX6_showWeight_16 zb_7 ?_
      refine y_goto dX6_showWeight_18 (t := 22) rfl ?_
      exact y_k (t_Od_showWeight_22  W Ta0 Ta3 F) ⟨rfl, rfl, rfl, rfl, trivial⟩
  · replace F := F.2 c9
    refine y_bi1 dX6_showWeight_5 zb_6 ?_
    refine y_goto dX6_showWeight_7 (t := 22) rfl ?_
    exact y_k (t_Od_showWeight_22  W Ta0 Ta3 F) ⟨rfl, rfl, rfl, rfl, trivial⟩

theorem Od_showWeight_run {C : zC} {n0 : Nat} {Q : zS → Prop} {a0 : Nat} {a1 : Int32} {a2 : Int32} {a3 : Nat} {κ : zS} (W : zW C n0 κ) (Ta0 : zT κ a0 = 9) (Ta3 : zT κ a3 = 11) (F : w_Od_showWeight_0 C (zn κ) Q a0 a1 a2 a3 κ) : zRun C 7 mOd_showWeight [.ref a0, .int a1, .int a2, .ref a3] κ (oV Q noX) := z_run (m_ent _ 2) (t_Od_showWeight_0 (W.lo (Nat.le_trans W.1.2.1 W.1.2.2) (Nat.le_refl _)) Ta0 Ta3 F)

