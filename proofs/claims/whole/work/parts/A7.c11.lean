/-! methods of the class: Od_throughCell, Od_edge, Od_rowsAgree, Od_tablesAgree, Pa_init, Pa_take, Pa_refuse, Pa_expect, Ta_findName -/
theorem dX6_throughCell_0 : decode cX6_throughCell 0 = .ok (.aload_n 0, 1) := by decide +kernel
theorem dX6_throughCell_1 : decode cX6_throughCell 1 = .ok (.getfield 15, 3) := by decide +kernel
theorem dX6_throughCell_4 : decode cX6_throughCell 4 = .ok (.getfield 135, 3) := by decide +kernel
theorem dX6_throughCell_7 : decode cX6_throughCell 7 = .ok (.lconst 0, 1) := by decide +kernel
theorem dX6_throughCell_8 : decode cX6_throughCell 8 = .ok (.invokevirtual 138, 3) := by decide +kernel
theorem dX6_throughCell_11 : decode cX6_throughCell 11 = .ok (.iconst 0, 1) := by decide +kernel
theorem dX6_throughCell_12 : decode cX6_throughCell 12 = .ok (.istore_n 3, 1) := by decide +kernel
theorem dX6_throughCell_13 : decode cX6_throughCell 13 = .ok (.aload_n 0, 1) := by decide +kernel
theorem dX6_throughCell_14 : decode cX6_throughCell 14 = .ok (.getfield 60, 3) := by decide +kernel
theorem dX6_throughCell_17 : decode cX6_throughCell 17 = .ok (.iload_n 1, 1) := by decide +kernel
theorem dX6_throughCell_18 : decode cX6_throughCell 18 = .ok (.iaload, 1) := by decide +kernel
theorem dX6_throughCell_19 : decode cX6_throughCell 19 = .ok (.istore 4, 2) := by decide +kernel
theorem dX6_throughCell_21 : decode cX6_throughCell 21 = .ok (.lconst 0, 1) := by decide +kernel
theorem dX6_throughCell_22 : decode cX6_throughCell 22 = .ok (.lstore 5, 2) := by decide +kernel
theorem dX6_throughCell_24 : decode cX6_throughCell 24 = .ok (.iconst 0, 1) := by decide +kernel
theorem dX6_throughCell_25 : decode cX6_throughCell 25 = .ok (.istore 7, 2) := by decide +kernel
theorem dX6_throughCell_27 : decode cX6_throughCell 27 = .ok (.iload 7, 2) := by decide +kernel
theorem dX6_throughCell_29 : decode cX6_throughCell 29 = .ok (.aload_n 0, 1) := by decide +kernel
theorem dX6_throughCell_30 : decode cX6_throughCell 30 = .ok (.getfield 9, 3) := by decide +kernel
theorem dX6_throughCell_33 : decode cX6_throughCell 33 = .ok (.getfield 180, 3) := by decide +kernel
theorem dX6_throughCell_36 : decode cX6_throughCell 36 = .ok (.if_icmp .ge 151, 3) := by decide +kernel
theorem dX6_throughCell_39 : decode cX6_throughCell 39 = .ok (.iload 4, 2) := by decide +kernel
theorem dX6_throughCell_41 : decode cX6_throughCell 41 = .ok (.iconst (-1), 1) := by decide +kernel
theorem dX6_throughCell_42 : decode cX6_throughCell 42 = .ok (.if_icmp .eq 145, 3) := by decide +kernel
theorem dX6_throughCell_45 : decode cX6_throughCell 45 = .ok (.iload_n 3, 1) := by decide +kernel
theorem dX6_throughCell_46 : decode cX6_throughCell 46 = .ok (.iconst 1, 1) := by decide +kernel
theorem dX6_throughCell_47 : decode cX6_throughCell 47 = .ok (.iadd, 1) := by decide +kernel
theorem dX6_throughCell_48 : decode cX6_throughCell 48 = .ok (.aload_n 0, 1) := by decide +kernel
theorem dX6_throughCell_49 : decode cX6_throughCell 49 = .ok (.getfield 9, 3) := by decide +kernel
theorem dX6_throughCell_52 : decode cX6_throughCell 52 = .ok (.getfield 125, 3) := by decide +kernel
theorem dX6_throughCell_55 : decode cX6_throughCell 55 = .ok (.getfield 128, 3) := by decide +kernel
theorem dX6_throughCell_58 : decode cX6_throughCell 58 = .ok (.if_icmp .ge 25, 3) := by decide +kernel
theorem dX6_throughCell_61 : decode cX6_throughCell 61 = .ok (.aload_n 0, 1) := by decide +kernel
theorem dX6_throughCell_62 : decode cX6_throughCell 62 = .ok (.getfield 9, 3) := by decide +kernel
theorem dX6_throughCell_65 : decode cX6_throughCell 65 = .ok (.getfield 105, 3) := by decide +kernel
theorem dX6_throughCell_68 : decode cX6_throughCell 68 = .ok (.iload_n 3, 1) := by decide +kernel
theorem dX6_throughCell_69 : decode cX6_throughCell 69 = .ok (.iconst 1, 1) := by decide +kernel
theorem dX6_throughCell_70 : decode cX6_throughCell 70 = .ok (.iadd, 1) := by decide +kernel
theorem dX6_throughCell_71 : decode cX6_throughCell 71 = .ok (.iaload, 1) := by decide +kernel
theorem dX6_throughCell_72 : decode cX6_throughCell 72 = .ok (.iload 4, 2) := by decide +kernel
theorem dX6_throughCell_74 : decode cX6_throughCell 74 = .ok (.if_icmp .gt 9, 3) := by decide +kernel
theorem dX6_throughCell_77 : decode cX6_throughCell 77 = .ok (.iinc 3 1, 3) := by decide +kernel
theorem dX6_throughCell_80 : decode cX6_throughCell 80 = .ok (.goto (-35), 3) := by decide +kernel
theorem dX6_throughCell_83 : decode cX6_throughCell 83 = .ok (.lload 5, 2) := by decide +kernel
theorem dX6_throughCell_85 : decode cX6_throughCell 85 = .ok (.aload_n 0, 1) := by decide +kernel
theorem dX6_throughCell_86 : decode cX6_throughCell 86 = .ok (.getfield 9, 3) := by decide +kernel
theorem dX6_throughCell_89 : decode cX6_throughCell 89 = .ok (.getfield 122, 3) := by decide +kernel
theorem dX6_throughCell_92 : decode cX6_throughCell 92 = .ok (.iload 4, 2) := by decide +kernel
theorem dX6_throughCell_94 : decode cX6_throughCell 94 = .ok (.iaload, 1) := by decide +kernel
theorem dX6_throughCell_95 : decode cX6_throughCell 95 = .ok (.i2l, 1) := by decide +kernel
theorem dX6_throughCell_96 : decode cX6_throughCell 96 = .ok (.ladd, 1) := by decide +kernel
theorem dX6_throughCell_97 : decode cX6_throughCell 97 = .ok (.lstore 5, 2) := by decide +kernel
theorem dX6_throughCell_99 : decode cX6_throughCell 99 = .ok (.aload_n 0, 1) := by decide +kernel
theorem dX6_throughCell_100 : decode cX6_throughCell 100 = .ok (.getfield 63, 3) := by decide +kernel
theorem dX6_throughCell_103 : decode cX6_throughCell 103 = .ok (.iload 4, 2) := by decide +kernel
theorem dX6_throughCell_105 : decode cX6_throughCell 105 = .ok (.iaload, 1) := by decide +kernel
theorem dX6_throughCell_106 : decode cX6_throughCell 106 = .ok (.istore 4, 2) := by decide +kernel
theorem dX6_throughCell_108 : decode cX6_throughCell 108 = .ok (.iload 4, 2) := by decide +kernel
theorem dX6_throughCell_110 : decode cX6_throughCell 110 = .ok (.iconst (-1), 1) := by decide +kernel
theorem dX6_throughCell_111 : decode cX6_throughCell 111 = .ok (.if_icmp .eq 19, 3) := by decide +kernel
theorem dX6_throughCell_114 : decode cX6_throughCell 114 = .ok (.iload 4, 2) := by decide +kernel
theorem dX6_throughCell_116 : decode cX6_throughCell 116 = .ok (.aload_n 0, 1) := by decide +kernel
theorem dX6_throughCell_117 : decode cX6_throughCell 117 = .ok (.getfield 9, 3) := by decide +kernel
theorem dX6_throughCell_120 : decode cX6_throughCell 120 = .ok (.getfield 105, 3) := by decide +kernel
theorem dX6_throughCell_123 : decode cX6_throughCell 123 = .ok (.iload_n 3, 1) := by decide +kernel
theorem dX6_throughCell_124 : decode cX6_throughCell 124 = .ok (.iconst 1, 1) := by decide +kernel
theorem dX6_throughCell_125 : decode cX6_throughCell 125 = .ok (.iadd, 1) := by decide +kernel
theorem dX6_throughCell_126 : decode cX6_throughCell 126 = .ok (.iaload, 1) := by decide +kernel
theorem dX6_throughCell_127 : decode cX6_throughCell 127 = .ok (.if_icmp .lt 54, 3) := by decide +kernel
theorem dX6_throughCell_130 : decode cX6_throughCell 130 = .ok (.aload_n 0, 1) := by decide +kernel
theorem dX6_throughCell_131 : decode cX6_throughCell 131 = .ok (.getfield 15, 3) := by decide +kernel
theorem dX6_throughCell_134 : decode cX6_throughCell 134 = .ok (.iload_n 3, 1) := by decide +kernel
theorem dX6_throughCell_135 : decode cX6_throughCell 135 = .ok (.invokevirtual 145, 3) := by decide +kernel
theorem dX6_throughCell_138 : decode cX6_throughCell 138 = .ok (.iload_n 2, 1) := by decide +kernel
theorem dX6_throughCell_139 : decode cX6_throughCell 139 = .ok (.ifCond .eq 30, 3) := by decide +kernel
theorem dX6_throughCell_142 : decode cX6_throughCell 142 = .ok (.aload_n 0, 1) := by decide +kernel
theorem dX6_throughCell_143 : decode cX6_throughCell 143 = .ok (.getfield 19, 3) := by decide +kernel
theorem dX6_throughCell_146 : decode cX6_throughCell 146 = .ok (.aload_n 0, 1) := by decide +kernel
theorem dX6_throughCell_147 : decode cX6_throughCell 147 = .ok (.getfield 15, 3) := by decide +kernel
theorem dX6_throughCell_150 : decode cX6_throughCell 150 = .ok (.getfield 151, 3) := by decide +kernel
theorem dX6_throughCell_153 : decode cX6_throughCell 153 = .ok (.aload_n 0, 1) := by decide +kernel
theorem dX6_throughCell_154 : decode cX6_throughCell 154 = .ok (.getfield 15, 3) := by decide +kernel
theorem dX6_throughCell_157 : decode cX6_throughCell 157 = .ok (.getfield 154, 3) := by decide +kernel
theorem dX6_throughCell_160 : decode cX6_throughCell 160 = .ok (.getfield 157, 3) := by decide +kernel
theorem dX6_throughCell_163 : decode cX6_throughCell 163 = .ok (.invokevirtual 160, 3) := by decide +kernel
theorem dX6_throughCell_166 : decode cX6_throughCell 166 = .ok (.goto 12, 3) := by decide +kernel
theorem dX6_throughCell_169 : decode cX6_throughCell 169 = .ok (.aload_n 0, 1) := by decide +kernel
theorem dX6_throughCell_170 : decode cX6_throughCell 170 = .ok (.getfield 15, 3) := by decide +kernel
theorem dX6_throughCell_173 : decode cX6_throughCell 173 = .ok (.lload 5, 2) := by decide +kernel
theorem dX6_throughCell_175 : decode cX6_throughCell 175 = .ok (.invokevirtual 148, 3) := by decide +kernel
theorem dX6_throughCell_178 : decode cX6_throughCell 178 = .ok (.lconst 0, 1) := by decide +kernel
theorem dX6_throughCell_179 : decode cX6_throughCell 179 = .ok (.lstore 5, 2) := by decide +kernel
theorem dX6_throughCell_181 : decode cX6_throughCell 181 = .ok (.iinc 7 1, 3) := by decide +kernel
theorem dX6_throughCell_184 : decode cX6_throughCell 184 = .ok (.goto (-157), 3) := by decide +kernel
theorem dX6_throughCell_187 : decode cX6_throughCell 187 = .ok (.return_, 1) := by decide +kernel
def w_Od_throughCell_130 (C : zC) (n0 : Nat) (Q : zS → Prop) (B27 : Nat → Int32 → Int32 → Int32 → Int64 → Int32 → zS → Prop) (a0 : Nat) (a2 : Int32) (a3 : Int32) (a4 : Int32) (a5 : Int64) (a7 : Int32) (κ : zS) : Prop :=
  ∀ _ : zT κ (zR κ odSolver a0) = 12,
  zRun C 4 mSo_unit [.ref (zR κ odSolver a0), .int a3] κ (oV (fun κ1 =>
    ∀ _ : zW C n0 κ1,
    ∀ _ : zM (zn κ) κ κ1,
    (a2 = (0 : Int32) →
      ∀ _ : zT κ1 (zR κ1 odSolver a0) = 12,
      zRun C 4 mSo_addTerm [.ref (zR κ1 odSolver a0), .long a5] κ1 (oV (fun κ5 =>
        ∀ _ : zW C n0 κ5,
        ∀ _ : zM (zn κ1) κ1 κ5,
        ∀ v7_8 : Int32, v7_8 = a7 + (1 : Int32) →
        B27 a0 a2 a3 a4 (0 : Int64) v7_8 κ5) noX)) ∧
    (¬ a2 = (0 : Int32) →
      ∀ _ : zT κ1 (zR κ1 odCalc a0) = 4,
      ∀ _ : zT κ1 (zR κ1 soWhole (zR κ1 odSolver a0)) = 8,
      ∀ _ : zT κ1 (zR κ1 raBottom (zR κ1 soPart (zR κ1 odSolver a0))) = 8,
      zRun C 5 mCa_join [.ref (zR κ1 odCalc a0), .ref (zR κ1 soWhole (zR κ1 odSolver a0)), .ref (zR κ1 raBottom (zR κ1 soPart (zR κ1 odSolver a0)))] κ1 (oV (fun κ11 =>
        ∀ _ : zW C n0 κ11,
        ∀ _ : zM (zn κ1) κ1 κ11,
        ∀ v7_14 : Int32, v7_14 = a7 + (1 : Int32) →
        B27 a0 a2 a3 a4 (0 : Int64) v7_14 κ11) noX))) noX)
theorem t_Od_throughCell_130 {C : zC} {n0 : Nat} {Q : zS → Prop} {B27 : Nat → Int32 → Int32 → Int32 → Int64 → Int32 → zS → Prop} (hB27 : ∀ a0' a2' a3' a4' a5' a7' τ, zW C n0 τ → zT τ a0' = 9 → B27 a0' a2' a3' a4' a5' a7' τ → zG C n0 6 mOd_throughCell 27 [some (.ref a0'), none, some (.int a2'), some (.int a3'), some (.int a4'), some (.long a5'), none, some (.int a7')] [] τ (oV Q noX)) {a0 : Nat} {a2 : Int32} {a3 : Int32} {a4 : Int32} {a5 : Int64} {a7 : Int32} {κ : zS} (W : zW C n0 κ) (Ta0 : zT κ a0 = 9) (F : w_Od_throughCell_130 C n0 Q B27 a0 a2 a3 a4 a5 a7 κ) : zG C n0 6 mOd_throughCell 130 [some (.ref a0), none, some (.int a2), some (.int a3), some (.int a4), some (.long a5), none, some (.int a7)] [] κ (oV Q noX) := by
  unfold w_Od_throughCell_130 at F
  refine y_aln dX6_throughCell_130 rfl ?_
  refine gf_X6_15 W dX6_throughCell_131 rfl Ta0 ?_
  refine y_iln dX6_throughCell_134 rfl ?_
  replace F := F (ty_odSolver W Ta0)
  refine k_X6_145 W dX6_throughCell_135 rfl (Nat.le_of_ble_eq_true rfl) (Nat.le_of_ble_eq_true rfl) (Or.inl (ty_odSolver W Ta0)) F (fun  κ1 Wκ1 Mκ1 F => ?_) (fun _ _ h9 => False.elim h9)
  replace F := F Wκ1 Mκ1
  refine y_iln dX6_throughCell_138 rfl ?_
  refine y_i (a2 = (0 : Int32)) dX6_throughCell_139 (t := 169) rfl rfl (fun c9 => ?_) (fun c9 => ?_)
  · replace F := F.1 c9
    refine y_aln dX6_throughCell_169 rfl ?_
    have h4 := (ztm W Mκ1 Ta0)
    refine gf_X6_15 Wκ1 dX6_throughCell_170 rfl h4 ?_
    refine y_ll dX6_throughCell_173 rfl ?_
    replace F := F (ty_odSolver Wκ1 h4)
    refine k_X6_148 Wκ1 dX6_throughCell_175 rfl (Nat.le_of_ble_eq_true rfl) (Nat.le_of_ble_eq_true rfl) (Or.inl (ty_odSolver Wκ1 h4)) F (fun  κ5 Wκ5 Mκ5 F => ?_) (fun _ _ h9 => False.elim h9)
    replace F := F Wκ5 Mκ5
    refine y_lc dX6_throughCell_178 zl_0 ?_
    refine y_ls dX6_throughCell_179 (Nat.le_of_ble_eq_true rfl) rfl ?_
    show zG _ _ _ _ _ [some (.ref a0), none, some (.int a2), some (.int a3), some (.int a4), some (.long (0 : Int64)), none, some (.int a7)] _ _ _
    refine y_incb dX6_throughCell_181 zi_1 rfl (Nat.le_of_ble_eq_true rfl) (fun v7_8 ev7_8 => ?_)
    replace F := F v7_8 ev7_8
    show zG _ _ _ _ _ [some (.ref a0), none, some (.int a2), some (.int a3), some (.int a4), some (.long (0 : Int64)), none, some (.int v7_8)] _ _ _
    refine y_goto dX6_throughCell_184 (t := 27) rfl ?_
    have h9 := (ztm Wκ1 Mκ5 h4)
    exact y_k (hB27 _ _ _ _ _ _ _ Wκ5 h9 F) ⟨rfl, rfl, rfl, rfl, rfl, rfl, trivial⟩
  · replace F := F.2 c9
    refine y_aln dX6_throughCell_142 rfl ?_
    have h10 := (ztm W Mκ1 Ta0)
    refine gf_X6_19 Wκ1 dX6_throughCell_143 rfl h10 ?_
    refine y_aln dX6_throughCell_146 rfl ?_
    refine gf_X6_15 Wκ1 dX6_throughCell_147 rfl h10 ?_
    refine gf_X6_151 Wκ1 dX6_throughCell_150 rfl (ty_odSolver Wκ1 h10) ?_
    refine y_aln dX6_throughCell_153 rfl ?_
    refine gf_X6_15 Wκ1 dX6_throughCell_154 rfl h10 ?_
    refine gf_X6_154 Wκ1 dX6_throughCell_157 rfl (ty_odSolver Wκ1 h10) ?_
    refine gf_X6_157 Wκ1 dX6_throughCell_160 rfl (ty_soPart Wκ1 (ty_odSolver Wκ1 h10)) ?_
    replace F := F (ty_odCalc Wκ1 h10)
    replace F := F (ty_soWhole Wκ1 (ty_odSolver Wκ1 h10))
    replace F := F (ty_raBottom Wκ1 (ty_soPart Wκ1 (ty_odSolver Wκ1 h10)))
    refine k_X6_160 Wκ1 dX6_throughCell_163 rfl (Nat.le_of_ble_eq_true rfl) (Nat.le_of_ble_eq_true rfl) (Or.inl (ty_odCalc Wκ1 h10)) F (fun  κ11 Wκ11 Mκ11 F => ?_) (fun _ _ h9 => False.elim h9)
    replace F := F Wκ11 Mκ11
    refine y_goto dX6_throughCell_166 (t := 178) rfl ?_
    refine y_lc dX6_throughCell_178 zl_0 ?_
    refine y_ls dX6_throughCell_179 (Nat.le_of_ble_eq_true rfl) rfl ?_
    show zG _ _ _ _ _ [some (.ref a0), none, some (.int a2), some (.int a3), some (.int a4), some (.long (0 : Int64)), none, some (.int a7)] _ _ _
    refine y_incb dX6_throughCell_181 zi_1 rfl (Nat.le_of_ble_eq_true rfl) (fun v7_14 ev7_14 => ?_)
    replace F := F v7_14 ev7_14
    show zG _ _ _ _ _ [some (.ref a0), none, some (.int a2), some (.int a3), some (.int a4), some (.long (0 : Int64)), none, some (.int v7_14)] _ _ _
    refine y_goto dX6_throughCell_184 (t := 27) rfl ?_
    have h15 := (ztm Wκ1 Mκ11 h10)
    exact y_k (hB27 _ _ _ _ _ _ _ Wκ11 h15 F) ⟨rfl, rfl, rfl, rfl, rfl, rfl, trivial⟩

def w_Od_throughCell_83 (C : zC) (n0 : Nat) (Q : zS → Prop) (B27 : Nat → Int32 → Int32 → Int32 → Int64 → Int32 → zS → Prop) (a0 : Nat) (a2 : Int32) (a3 : Int32) (a4 : Int32) (a5 : Int64) (a7 : Int32) (κ : zS) : Prop :=
  inb a4 (zN κ (zR κ atWeights (zR κ odAtlas a0))) ∧
  ∀ v5_1 : Int64, v5_1 = (a5 + (Int32.toInt64 (zA κ (zR κ atWeights (zR κ odAtlas a0)) (a4).toNatClampNeg))) →
  inb a4 (zN κ (zR κ odLinks a0)) ∧
  ∀ v4_2 : Int32, v4_2 = (zA κ (zR κ odLinks a0) (a4).toNatClampNeg) →
  (v4_2 = (-1 : Int32) →
    w_Od_throughCell_130 C n0 Q B27 a0 a2 a3 v4_2 v5_1 a7 κ) ∧
  (¬ v4_2 = (-1 : Int32) →
    inb (a3 + (1 : Int32)) (zN κ (zR κ atFirsts (zR κ odAtlas a0))) ∧
    (v4_2 < (zA κ (zR κ atFirsts (zR κ odAtlas a0)) ((a3 + (1 : Int32))).toNatClampNeg) →
      ∀ v7_3 : Int32, v7_3 = a7 + (1 : Int32) →
      B27 a0 a2 a3 v4_2 v5_1 v7_3 κ) ∧
    (¬ v4_2 < (zA κ (zR κ atFirsts (zR κ odAtlas a0)) ((a3 + (1 : Int32))).toNatClampNeg) →
      w_Od_throughCell_130 C n0 Q B27 a0 a2 a3 v4_2 v5_1 a7 κ))
theorem t_Od_throughCell_83 {C : zC} {n0 : Nat} {Q : zS → Prop} {B27 : Nat → Int32 → Int32 → Int32 → Int64 → Int32 → zS → Prop} (hB27 : ∀ a0' a2' a3' a4' a5' a7' τ, zW C n0 τ → zT τ a0' = 9 → B27 a0' a2' a3' a4' a5' a7' τ → zG C n0 6 mOd_throughCell 27 [some (.ref a0'), none, some (.int a2'), some (.int a3'), some (.int a4'), some (.long a5'), none, some (.int a7')] [] τ (oV Q noX)) {a0 : Nat} {a2 : Int32} {a3 : Int32} {a4 : Int32} {a5 : Int64} {a7 : Int32} {κ : zS} (W : zW C n0 κ) (Ta0 : zT κ a0 = 9) (F : w_Od_throughCell_83 C n0 Q B27 a0 a2 a3 a4 a5 a7 κ) : zG C n0 6 mOd_throughCell 83 [some (.ref a0), none, some (.int a2), some (.int a3), some (.int a4), some (.long a5), none, some (.int a7)] [] κ (oV Q noX) := by
  unfold w_Od_throughCell_83 at F
  refine y_ll dX6_throughCell_83 rfl ?_
  refine y_aln dX6_throughCell_85 rfl ?_
  refine gf_X6_9 W dX6_throughCell_86 rfl Ta0 ?_
  refine gf_X6_122 W dX6_throughCell_89 rfl (ty_odAtlas W Ta0) ?_
  refine y_il dX6_throughCell_92 rfl ?_
  refine y_ald dX6_throughCell_94 (ty_atWeights W (ty_odAtlas W Ta0)) F.1 ?_
  replace F := F.2
  refine y_i2l dX6_throughCell_95 ?_
  refine y_ladd dX6_throughCell_96 ?_
  refine y_lsb dX6_throughCell_97 (Nat.le_of_ble_eq_true rfl) (fun v5_1 ev5_1 => ?_)
  replace F := F v5_1 ev5_1
  show zG _ _ _ _ _ [some (.ref a0), none, some (.int a2), some (.int a3), some (.int a4), some (.long v5_1), none, some (.int a7)] _ _ _
  refine y_aln dX6_throughCell_99 rfl ?_
  refine gf_X6_63 W dX6_throughCell_100 rfl Ta0 ?_
  refine y_il dX6_throughCell_103 rfl ?_
  refine y_ald dX6_throughCell_105 (ty_odLinks W Ta0) F.1 ?_
  replace F := F.2
  refine y_isb dX6_throughCell_106 (Nat.le_of_ble_eq_true rfl) (fun v4_2 ev4_2 => ?_)
  replace F := F v4_2 ev4_2
  show zG _ _ _ _ _ [some (.ref a0), none, some (.int a2), some (.int a3), some (.int v4_2), some (.long v5_1), none, some (.int a7)] _ _ _
  refine y_il dX6_throughCell_108 rfl ?_
  refine y_ic dX6_throughCell_110 zi_m1 ?_
  refine y_ii (v4_2 = (-1 : Int32)) dX6_throughCell_111 (t := 130) rfl rfl (fun c9 => ?_) (fun c9 => ?_)
  · replace F := F.1 c9
    exact y_k (t_Od_throughCell_130 hB27 W Ta0 F) ⟨rfl, rfl, rfl, rfl, rfl, rfl, trivial⟩
  · replace F := F.2 c9
    refine y_il dX6_throughCell_114 rfl ?_
    refine y_aln dX6_throughCell_116 rfl ?_
    refine gf_X6_9 W dX6_throughCell_117 rfl Ta0 ?_
    refine gf_X6_105 W dX6_throughCell_120 rfl (ty_odAtlas W Ta0) ?_
    refine y_iln dX6_throughCell_123 rfl ?_
    refine y_ic dX6_throughCell_124 zi_1 ?_
    refine y_iadd dX6_throughCell_125 ?_
    refine y_ald dX6_throughCell_126 (ty_atFirsts W (ty_odAtlas W Ta0)) F.1 ?_
    replace F := F.2
    refine y_ii (v4_2 < (zA κ (zR κ atFirsts (zR κ odAtlas a0)) ((a3 + (1 : Int32))).toNatClampNeg)) dX6_throughCell_127 (t := 181) rfl rfl (fun c9 => ?_) (fun c9 => ?_)
    · replace F := F.1 c9
      refine y_incb dX6_throughCell_181 zi_1 rfl (Nat.le_of_ble_eq_true rfl) (fun v7_3 ev7_3 => ?_)
      replace F := F v7_3 ev7_3
      show zG _ _ _ _ _ [some (.ref a0), none, some (.int a2), some (.int a3), some (.int v4_2), some (.long v5_1), none, some (.int v7_3)] _ _ _
      refine y_goto dX6_throughCell_184 (t := 27) rfl ?_
      exact y_k (hB27 _ _ _ _ _ _ _ W Ta0 F) ⟨rfl, rfl, rfl, rfl, rfl, rfl, trivial⟩
    · replace F := F.2 c9
      exact y_k (t_Od_throughCell_130 hB27 W Ta0 F) ⟨rfl, rfl, rfl, rfl, rfl, rfl, trivial⟩

def w_Od_throughCell_45 (C : zC) (n0 : Nat) (Q : zS → Prop) (B27 : Nat → Int32 → Int32 → Int32 → Int64 → Int32 → zS → Prop) (a0 : Nat) (a2 : Int32) (a3 : Int32) (a4 : Int32) (a5 : Int64) (a7 : Int32) (κ : zS) : Prop :=
  ∃ I : Nat → Nat → Int32 → Int32 → Int32 → Int64 → Int32 → zS → Prop, (∃ n, I n a0 a2 a3 a4 a5 a7 κ) ∧ ∀ n a0 a2 a3 a4 a5 a7 κ, zW C n0 κ → zT κ a0 = 9 → I n a0 a2 a3 a4 a5 a7 κ →
    ((zI κ hoTotal (zR κ atStates (zR κ odAtlas a0))) ≤ (a3 + (1 : Int32)) →
      w_Od_throughCell_83 C n0 Q B27 a0 a2 a3 a4 a5 a7 κ) ∧
    (¬ (zI κ hoTotal (zR κ atStates (zR κ odAtlas a0))) ≤ (a3 + (1 : Int32)) →
      inb (a3 + (1 : Int32)) (zN κ (zR κ atFirsts (zR κ odAtlas a0))) ∧
      (a4 < (zA κ (zR κ atFirsts (zR κ odAtlas a0)) ((a3 + (1 : Int32))).toNatClampNeg) →
        w_Od_throughCell_83 C n0 Q B27 a0 a2 a3 a4 a5 a7 κ) ∧
      (¬ a4 < (zA κ (zR κ atFirsts (zR κ odAtlas a0)) ((a3 + (1 : Int32))).toNatClampNeg) →
        ∀ v3_1 : Int32, v3_1 = a3 + (1 : Int32) →
        ∃ k < n, I k a0 a2 v3_1 a4 a5 a7 κ))
theorem t_Od_throughCell_45 {C : zC} {n0 : Nat} {Q : zS → Prop} {B27 : Nat → Int32 → Int32 → Int32 → Int64 → Int32 → zS → Prop} (hB27 : ∀ a0' a2' a3' a4' a5' a7' τ, zW C n0 τ → zT τ a0' = 9 → B27 a0' a2' a3' a4' a5' a7' τ → zG C n0 6 mOd_throughCell 27 [some (.ref a0'), none, some (.int a2'), some (.int a3'), some (.int a4'), some (.long a5'), none, some (.int a7')] [] τ (oV Q noX)) {a0 : Nat} {a2 : Int32} {a3 : Int32} {a4 : Int32} {a5 : Int64} {a7 : Int32} {κ : zS} (W : zW C n0 κ) (Ta0 : zT κ a0 = 9) (F : w_Od_throughCell_45 C n0 Q B27 a0 a2 a3 a4 a5 a7 κ) : zG C n0 6 mOd_throughCell 45 [some (.ref a0), none, some (.int a2), some (.int a3), some (.int a4), some (.long a5), none, some (.int a7)] [] κ (oV Q noX) := by
  obtain ⟨I, ⟨m0, hI0⟩, F0⟩ := F
  have key : ∀ n a0 a2 a3 a4 a5 a7 κ, zW C n0 κ → zT κ a0 = 9 → I n a0 a2 a3 a4 a5 a7 κ → zG C n0 6 mOd_throughCell 45 [some (.ref a0), none, some (.int a2), some (.int a3), some (.int a4), some (.long a5), none, some (.int a7)] [] κ (oV Q noX) := by
    intro n
    induction n using Nat.strongRecOn with
    | _ n ih =>
      intro a0 a2 a3 a4 a5 a7 κ W Ta0 hI
      have F := F0 n a0 a2 a3 a4 a5 a7 κ W Ta0 hI
      clear hI hI0
      refine y_iln dX6_throughCell_45 rfl ?_
      refine y_ic dX6_throughCell_46 zi_1 ?_
      refine y_iadd dX6_throughCell_47 ?_
      refine y_aln dX6_throughCell_48 rfl ?_
      refine gf_X6_9 W dX6_throughCell_49 rfl Ta0 ?_
      refine gf_X6_125 W dX6_throughCell_52 rfl (ty_odAtlas W Ta0) ?_
      refine gf_X6_128 dX6_throughCell_55 rfl (Or.inl (ty_atStates W (ty_odAtlas W Ta0))) ?_
      refine y_ii ((zI κ hoTotal (zR κ atStates (zR κ odAtlas a0))) ≤ (a3 + (1 : Int32))) dX6_throughCell_58 (t := 83) rfl rfl (fun c9 => ?_) (fun c9 => ?_)
      · replace F := F.1 c9
        exact y_k (t_Od_throughCell_83 hB27 W Ta0 F) ⟨rfl, rfl, rfl, rfl, rfl, rfl, trivial⟩
      · replace F := F.2 c9
        refine y_aln dX6_throughCell_61 rfl ?_
        refine gf_X6_9 W dX6_throughCell_62 rfl Ta0 ?_
        refine gf_X6_105 W dX6_throughCell_65 rfl (ty_odAtlas W Ta0) ?_
        refine y_iln dX6_throughCell_68 rfl ?_
        refine y_ic dX6_throughCell_69 zi_1 ?_
        refine y_iadd dX6_throughCell_70 ?_
        refine y_ald dX6_throughCell_71 (ty_atFirsts W (ty_odAtlas W Ta0)) F.1 ?_
        replace F := F.2
        refine y_il dX6_throughCell_72 rfl ?_
        refine y_ii (a4 < (zA κ (zR κ atFirsts (zR κ odAtlas a0)) ((a3 + (1 : Int32))).toNatClampNeg)) dX6_throughCell_74 (t := 83) rfl rfl (fun c9 => ?_) (fun c9 => ?_)
        · replace F := F.1 c9
          exact y_k (t_Od_throughCell_83 hB27 W Ta0 F) ⟨rfl, rfl, rfl, rfl, rfl, rfl, trivial⟩
        · replace F := F.2 c9
          refine y_incb dX6_throughCell_77 zi_1 rfl (Nat.le_of_ble_eq_true rfl) (fun v3_1 ev3_1 => ?_)
          replace F := F v3_1 ev3_1
          show zG _ _ _ _ _ [some (.ref a0), none, some (.int a2), some (.int v3_1), some (.int a4), some (.long a5), none, some (.int a7)] _ _ _
          refine y_goto dX6_throughCell_80 (t := 45) rfl ?_
          obtain ⟨k, hk, hI⟩ := F
          exact y_k (ih k hk _ _ _ _ _ _ _ W Ta0 hI) ⟨rfl, rfl, rfl, rfl, rfl, rfl, trivial⟩
  exact key m0 a0 a2 a3 a4 a5 a7 κ W Ta0 hI0

def w_Od_throughCell_27 (C : zC) (n0 : Nat) (Q : zS → Prop)  (a0 : Nat) (a2 : Int32) (a3 : Int32) (a4 : Int32) (a5 : Int64) (a7 : Int32) (κ : zS) : Prop :=
  ∃ I : Nat → Nat → Int32 → Int32 → Int32 → Int64 → Int32 → zS → Prop, (∃ n, I n a0 a2 a3 a4 a5 a7 κ) ∧ ∀ n a0 a2 a3 a4 a5 a7 κ, zW C n0 κ → zT κ a0 = 9 → I n a0 a2 a3 a4 a5 a7 κ →
    ((zI κ atNexts (zR κ odAtlas a0)) ≤ a7 →
      Q κ) ∧
    (¬ (zI κ atNexts (zR κ odAtlas a0)) ≤ a7 →
      (a4 = (-1 : Int32) →
        Q κ) ∧
      (¬ a4 = (-1 : Int32) →
        w_Od_throughCell_45 C n0 Q (fun a0' a2' a3' a4' a5' a7' τ => ∃ k < n, I k a0' a2' a3' a4' a5' a7' τ) a0 a2 a3 a4 a5 a7 κ))
theorem t_Od_throughCell_27 {C : zC} {n0 : Nat} {Q : zS → Prop}   {a0 : Nat} {a2 : Int32} {a3 : Int32} {a4 : Int32} {a5 : Int64} {a7 : Int32} {κ : zS} (W : zW C n0 κ) (Ta0 : zT κ a0 = 9) (F : w_Od_throughCell_27 C n0 Q  a0 a2 a3 a4 a5 a7 κ) : zG C n0 6 mOd_throughCell 27 [some (.ref a0), none, some (.int a2), some (.int a3), some (.int a4), some (.long a5), none, some (.int a7)] [] κ (oV Q noX) := by
  obtain ⟨I, ⟨m0, hI0⟩, F0⟩ := F
  have key : ∀ n a0 a2 a3 a4 a5 a7 κ, zW C n0 κ → zT κ a0 = 9 → I n a0 a2 a3 a4 a5 a7 κ → zG C n0 6 mOd_throughCell 27 [some (.ref a0), none, some (.int a2), some (.int a3), some (.int a4), some (.long a5), none, some (.int a7)] [] κ (oV Q noX) := by
    intro n
    induction n using Nat.strongRecOn with
    | _ n ih =>
      intro a0 a2 a3 a4 a5 a7 κ W Ta0 hI
      have F := F0 n a0 a2 a3 a4 a5 a7 κ W Ta0 hI
      clear hI hI0
      refine y_il dX6_throughCell_27 rfl ?_
      refine y_aln dX6_throughCell_29 rfl ?_
      refine gf_X6_9 W dX6_throughCell_30 rfl Ta0 ?_
      refine gf_X6_180 dX6_throughCell_33 rfl (Or.inl (ty_odAtlas W Ta0)) ?_
      refine y_ii ((zI κ atNexts (zR κ odAtlas a0)) ≤ a7) dX6_throughCell_36 (t := 187) rfl rfl (fun c9 => ?_) (fun c9 => ?_)
      · replace F := F.1 c9
        exact y_rv W dX6_throughCell_187 rfl F
      · replace F := F.2 c9
        refine y_il dX6_throughCell_39 rfl ?_
        refine y_ic dX6_throughCell_41 zi_m1 ?_
        refine y_ii (a4 = (-1 : Int32)) dX6_throughCell_42 (t := 187) rfl rfl (fun c9 => ?_) (fun c9 => ?_)
        · replace F := F.1 c9
          exact y_rv W dX6_throughCell_187 rfl F
        · replace F := F.2 c9
          exact y_k (t_Od_throughCell_45 (fun a0' a2' a3' a4' a5' a7' τ w9 f09 hb => by obtain ⟨k, hk, hI⟩ := hb; exact ih k hk a0' a2' a3' a4' a5' a7' τ w9 f09 hI) W Ta0 F) ⟨rfl, rfl, rfl, rfl, rfl, rfl, trivial⟩
  exact key m0 a0 a2 a3 a4 a5 a7 κ W Ta0 hI0

def w_Od_throughCell_0 (C : zC) (n0 : Nat) (Q : zS → Prop)  (a0 : Nat) (a1 : Int32) (a2 : Int32) (κ : zS) : Prop :=
  ∀ _ : zT κ (zR κ soSum (zR κ odSolver a0)) = 8,
  zRun C 0 mNu_put [.ref (zR κ soSum (zR κ odSolver a0)), .long (0 : Int64)] κ (oV (fun κ1 =>
    ∀ _ : zW C n0 κ1,
    ∀ _ : zM (zn κ) κ κ1,
    inb a1 (zN κ1 (zR κ1 odHeads a0)) ∧
    ∀ v4_5 : Int32, v4_5 = (zA κ1 (zR κ1 odHeads a0) (a1).toNatClampNeg) →
    w_Od_throughCell_27 C n0 Q  a0 a2 (0 : Int32) v4_5 (0 : Int64) (0 : Int32) κ1) noX)
theorem t_Od_throughCell_0 {C : zC} {n0 : Nat} {Q : zS → Prop}   {a0 : Nat} {a1 : Int32} {a2 : Int32} {κ : zS} (W : zW C n0 κ) (Ta0 : zT κ a0 = 9) (F : w_Od_throughCell_0 C n0 Q  a0 a1 a2 κ) : zG C n0 6 mOd_throughCell 0 [some (.ref a0), some (.int a1), some (.int a2), none, none, none, none, none] [] κ (oV Q noX) := by
  unfold w_Od_throughCell_0 at F
  refine y_aln dX6_throughCell_0 rfl ?_
  refine gf_X6_15 W dX6_throughCell_1 rfl Ta0 ?_
  refine gf_X6_135 W dX6_throughCell_4 rfl (ty_odSolver W Ta0) ?_
  refine y_lc dX6_throughCell_7 zl_0 ?_
  replace F := F (ty_soSum W (ty_odSolver W Ta0))
  refine k_X6_138 W dX6_throughCell_8 rfl (Nat.le_of_ble_eq_true rfl) (Nat.le_of_ble_eq_true rfl) (Or.inl (ty_soSum W (ty_odSolver W Ta0))) F (fun  κ1 Wκ1 Mκ1 F => ?_) (fun _ _ h9 => False.elim h9)
  replace F := F Wκ1 Mκ1
  refine y_ic dX6_throughCell_11 zi_0 ?_
  refine y_isn dX6_throughCell_12 (Nat.le_of_ble_eq_true rfl) rfl ?_
  show zG _ _ _ _ _ [some (.ref a0), some (.int a1), some (.int a2), some (.int (0 : Int32)), none, none, none, none] _ _ _
  refine y_aln dX6_throughCell_13 rfl ?_
  have h4 := (ztm W Mκ1 Ta0)
  refine gf_X6_60 Wκ1 dX6_throughCell_14 rfl h4 ?_
  refine y_iln dX6_throughCell_17 rfl ?_
  refine y_ald dX6_throughCell_18 (ty_odHeads Wκ1 h4) F.1 ?_
  replace F := F.2
  refine y_isb dX6_throughCell_19 (Nat.le_of_ble_eq_true rfl) (fun v4_5 ev4_5 => ?_)
  replace F := F v4_5 ev4_5
  show zG _ _ _ _ _ [some (.ref a0), some (.int a1), some (.int a2), some (.int (0 : Int32)), some (.int v4_5), none, none, none] _ _ _
  refine y_lc dX6_throughCell_21 zl_0 ?_
  refine y_ls dX6_throughCell_22 (Nat.le_of_ble_eq_true rfl) rfl ?_
  show zG _ _ _ _ _ [some (.ref a0), some (.int a1), some (.int a2), some (.int (0 : Int32)), some (.int v4_5), some (.long (0 : Int64)), none, none] _ _ _
  refine y_ic dX6_throughCell_24 zi_0 ?_
  refine y_is dX6_throughCell_25 (Nat.le_of_ble_eq_true rfl) rfl ?_
  show zG _ _ _ _ _ [some (.ref a0), some (.int a1), some (.int a2), some (.int (0 : Int32)), some (.int v4_5), some (.long (0 : Int64)), none, some (.int (0 : Int32))] _ _ _
  exact y_k (t_Od_throughCell_27  Wκ1 h4 F) ⟨rfl, rfl, rfl, rfl, rfl, rfl, trivial⟩

theorem Od_throughCell_run {C : zC} {n0 : Nat} {Q : zS → Prop} {a0 : Nat} {a1 : Int32} {a2 : Int32} {κ : zS} (W : zW C n0 κ) (Ta0 : zT κ a0 = 9) (F : w_Od_throughCell_0 C (zn κ) Q a0 a1 a2 κ) : zRun C 6 mOd_throughCell [.ref a0, .int a1, .int a2] κ (oV Q noX) := z_run (m_ent _ 5) (t_Od_throughCell_0 (W.lo (Nat.le_trans W.1.2.1 W.1.2.2) (Nat.le_refl _)) Ta0 F)

theorem dX6_edge_0 : decode cX6_edge 0 = .ok (.aload_n 0, 1) := by decide +kernel
theorem dX6_edge_1 : decode cX6_edge 1 = .ok (.getfield 66, 3) := by decide +kernel
theorem dX6_edge_4 : decode cX6_edge 4 = .ok (.iload_n 1, 1) := by decide +kernel
theorem dX6_edge_5 : decode cX6_edge 5 = .ok (.aaload, 1) := by decide +kernel
theorem dX6_edge_6 : decode cX6_edge 6 = .ok (.ifnonnull 17, 3) := by decide +kernel
theorem dX6_edge_9 : decode cX6_edge 9 = .ok (.aload_n 0, 1) := by decide +kernel
theorem dX6_edge_10 : decode cX6_edge 10 = .ok (.getfield 66, 3) := by decide +kernel
theorem dX6_edge_13 : decode cX6_edge 13 = .ok (.iload_n 1, 1) := by decide +kernel
theorem dX6_edge_14 : decode cX6_edge 14 = .ok (.new 23, 3) := by decide +kernel
theorem dX6_edge_17 : decode cX6_edge 17 = .ok (.dup, 1) := by decide +kernel
theorem dX6_edge_18 : decode cX6_edge 18 = .ok (.iconst 4, 1) := by decide +kernel
theorem dX6_edge_19 : decode cX6_edge 19 = .ok (.invokespecial 25, 3) := by decide +kernel
theorem dX6_edge_22 : decode cX6_edge 22 = .ok (.aastore, 1) := by decide +kernel
theorem dX6_edge_23 : decode cX6_edge 23 = .ok (.aload_n 0, 1) := by decide +kernel
theorem dX6_edge_24 : decode cX6_edge 24 = .ok (.getfield 66, 3) := by decide +kernel
theorem dX6_edge_27 : decode cX6_edge 27 = .ok (.iload_n 1, 1) := by decide +kernel
theorem dX6_edge_28 : decode cX6_edge 28 = .ok (.aaload, 1) := by decide +kernel
theorem dX6_edge_29 : decode cX6_edge 29 = .ok (.areturn, 1) := by decide +kernel
def w_Od_edge_23 (C : zC) (n0 : Nat) (Q : Nat → zS → Prop)  (a0 : Nat) (a1 : Int32) (κ : zS) : Prop :=
  inb a1 (zN κ (zR κ odEdges a0)) ∧
  ∃ u1, (zQ κ (zR κ odEdges a0) (a1).toNatClampNeg) = some u1 ∧
  Q u1 κ
theorem t_Od_edge_23 {C : zC} {n0 : Nat} {Q : Nat → zS → Prop}   {a0 : Nat} {a1 : Int32} {κ : zS} (W : zW C n0 κ) (Ta0 : zT κ a0 = 9) (F : w_Od_edge_23 C n0 Q  a0 a1 κ) : zG C n0 2 mOd_edge 23 [some (.ref a0), some (.int a1)] [] κ (oR 8 Q noX) := by
  unfold w_Od_edge_23 at F
  refine y_aln dX6_edge_23 rfl ?_
  refine gf_X6_66 W dX6_edge_24 rfl Ta0 ?_
  refine y_iln dX6_edge_27 rfl ?_
  refine y_qld (t := 4) dX6_edge_28 (ty_odEdges W Ta0) (by decide) F.1 ?_
  replace F := F.2
  obtain ⟨u1, Eu1, F⟩ := F
  have Tu1 : zT κ u1 = 8 := (fun v hv => W.2.2.2.1 _ _ v (ty_odEdges W Ta0) hv) u1 Eu1
  refine y_uq0 Eu1 ?_
  exact y_ro W dX6_edge_29 rfl Tu1 F

def w_Od_edge_0 (C : zC) (n0 : Nat) (Q : Nat → zS → Prop)  (a0 : Nat) (a1 : Int32) (κ : zS) : Prop :=
  inb a1 (zN κ (zR κ odEdges a0)) ∧
  (∀ u1, (zQ κ (zR κ odEdges a0) (a1).toNatClampNeg) = some u1 →
    w_Od_edge_23 C n0 Q  a0 a1 κ) ∧
  ((zQ κ (zR κ odEdges a0) (a1).toNatClampNeg) = none →
    ∀ κ2, κ2 = noo κ 8 →
    ∀ _ : zW C n0 κ2,
    ∀ _ : zT κ2 (zn κ) = 48,
    zRun C 1 mNu_init [.ref (zn κ), .int (4 : Int32)] κ2 (oV (fun κ4 =>
      ∀ _ : zW C n0 κ4,
      ∀ _ : zM (zn κ2) κ2 κ4,
      zOk κ4 (zn κ) 8 ∧
      ∀ κ7, κ7 = nff κ4 (zn κ) →
      ∀ _ : zW C n0 κ7,
      inb a1 (zN κ7 (zR κ odEdges a0)) ∧
      ∀ κ9, κ9 = uq κ7 (zR κ odEdges a0) (a1).toNatClampNeg (some (zn κ)) →
      ∀ _ : zW C n0 κ9,
      w_Od_edge_23 C n0 Q  a0 a1 κ9) noX))
theorem t_Od_edge_0 {C : zC} {n0 : Nat} {Q : Nat → zS → Prop}   {a0 : Nat} {a1 : Int32} {κ : zS} (W : zW C n0 κ) (Ta0 : zT κ a0 = 9) (F : w_Od_edge_0 C n0 Q  a0 a1 κ) : zG C n0 2 mOd_edge 0 [some (.ref a0), some (.int a1)] [] κ (oR 8 Q noX) := by
  unfold w_Od_edge_0 at F
  refine y_aln dX6_edge_0 rfl ?_
  refine gf_X6_66 W dX6_edge_1 rfl Ta0 ?_
  refine y_iln dX6_edge_4 rfl ?_
  refine y_qld (t := 4) dX6_edge_5 (ty_odEdges W Ta0) (by decide) F.1 ?_
  replace F := F.2
  refine y_nn dX6_edge_6 (t := 23) rfl (fun u1 c9 => ?_) (fun c9 => ?_)
  · replace F := F.1 u1 c9
    exact y_k (t_Od_edge_23  W Ta0 F) ⟨rfl, rfl, trivial⟩
  · replace F := F.2 c9
    refine y_aln dX6_edge_9 rfl ?_
    refine gf_X6_66 W dX6_edge_10 rfl Ta0 ?_
    refine y_iln dX6_edge_13 rfl ?_
    refine y_newo W dX6_edge_14 rfl znw_X6_23 znx_X6_23 (by decide) (fun κ2 eκ2 => ?_)
    replace F := F κ2 eκ2
    have Wκ2 : zW C n0 κ2 := zW_no W eκ2
    have Mκ2 : zM (zn κ) κ κ2 := zM_no (W.lo (Nat.le_trans W.1.2.1 W.1.2.2) (Nat.le_refl _)) eκ2
    replace F := F Wκ2
    have g3 : zT κ2 (zn κ) = 48 := by rw [eκ2]; exact if_pos rfl
    refine y_dup dX6_edge_17 rfl ?_
    refine y_ic dX6_edge_18 zi_4 ?_
    replace F := F g3
    refine k_X6_25 Wκ2 dX6_edge_19 rfl (Nat.le_of_ble_eq_true rfl) (Nat.le_of_ble_eq_true rfl)  F (fun  κ4 Wκ4 Mκ4 F => ?_) (fun _ _ h9 => False.elim h9)
    replace F := F Wκ4 Mκ4
    have h8 := (ztm Wκ2 Mκ4 g3)
    have Rκ7 := h8
    refine y_flip (ci := 8) Rκ7 (by decide) (Nat.le_trans W.1.2.2 (Nat.le_refl _)) (fun κ7 eκ7 => ?_)
    have Wκ7 : zW C n0 κ7 := zW_nf Wκ4 eκ7 Rκ7 (by decide) (by decide) F.1
    replace F := F.2 κ7 eκ7 Wκ7
    have Gκ7 : zT κ7 (zn κ) = 8 := zth eκ7 Rκ7 (by decide)
    have h10 := (ztf eκ7 Rκ7 (by decide) (ztm Wκ2 Mκ4 (ztm W Mκ2 (ty_odEdges W Ta0))) (by decide))
    refine y_qst (t := 4) Wκ7 dX6_edge_22 h10 (by decide) Gκ7 F.1 (fun κ9 eκ9 => ?_)
    replace F := F.2 κ9 eκ9
    have Wκ9 : zW C n0 κ9 := zW_uq Wκ7 eκ9 (fun _ => Gκ7) (fun h => absurd (h.symm.trans h10) (by decide))
    have Mκ9 : zM (zn κ7) κ7 κ9 := by rw [eκ9]; exact zM.of rfl rfl rfl
    replace F := F Wκ9
    have h11 := (ztm Wκ7 Mκ9 (ztf eκ7 Rκ7 (by decide) (ztm Wκ2 Mκ4 (ztm W Mκ2 Ta0)) (by decide)))
    exact y_k (t_Od_edge_23  Wκ9 h11 F) ⟨rfl, rfl, trivial⟩

theorem Od_edge_run {C : zC} {n0 : Nat} {Q : Nat → zS → Prop} {a0 : Nat} {a1 : Int32} {κ : zS} (W : zW C n0 κ) (Ta0 : zT κ a0 = 9) (F : w_Od_edge_0 C (zn κ) Q a0 a1 κ) : zRun C 2 mOd_edge [.ref a0, .int a1] κ (oR 8 Q noX) := z_run (m_ent _ 0) (t_Od_edge_0 (W.lo (Nat.le_trans W.1.2.1 W.1.2.2) (Nat.le_refl _)) Ta0 F)

theorem dX6_rowsAgree_0 : decode cX6_rowsAgree 0 = .ok (.aload_n 0, 1) := by decide +kernel
theorem dX6_rowsAgree_1 : decode cX6_rowsAgree 1 = .ok (.getfield 15, 3) := by decide +kernel
theorem dX6_rowsAgree_4 : decode cX6_rowsAgree 4 = .ok (.getfield 151, 3) := by decide +kernel
theorem dX6_rowsAgree_7 : decode cX6_rowsAgree 7 = .ok (.lconst 1, 1) := by decide +kernel
theorem dX6_rowsAgree_8 : decode cX6_rowsAgree 8 = .ok (.invokevirtual 138, 3) := by decide +kernel
theorem dX6_rowsAgree_11 : decode cX6_rowsAgree 11 = .ok (.iload_n 1, 1) := by decide +kernel
theorem dX6_rowsAgree_12 : decode cX6_rowsAgree 12 = .ok (.istore 4, 2) := by decide +kernel
theorem dX6_rowsAgree_14 : decode cX6_rowsAgree 14 = .ok (.iload 4, 2) := by decide +kernel
theorem dX6_rowsAgree_16 : decode cX6_rowsAgree 16 = .ok (.iload_n 1, 1) := by decide +kernel
theorem dX6_rowsAgree_17 : decode cX6_rowsAgree 17 = .ok (.iload_n 2, 1) := by decide +kernel
theorem dX6_rowsAgree_18 : decode cX6_rowsAgree 18 = .ok (.iload_n 3, 1) := by decide +kernel
theorem dX6_rowsAgree_19 : decode cX6_rowsAgree 19 = .ok (.imul, 1) := by decide +kernel
theorem dX6_rowsAgree_20 : decode cX6_rowsAgree 20 = .ok (.iadd, 1) := by decide +kernel
theorem dX6_rowsAgree_21 : decode cX6_rowsAgree 21 = .ok (.if_icmp .ge 16, 3) := by decide +kernel
theorem dX6_rowsAgree_24 : decode cX6_rowsAgree 24 = .ok (.aload_n 0, 1) := by decide +kernel
theorem dX6_rowsAgree_25 : decode cX6_rowsAgree 25 = .ok (.iload 4, 2) := by decide +kernel
theorem dX6_rowsAgree_27 : decode cX6_rowsAgree 27 = .ok (.iconst 1, 1) := by decide +kernel
theorem dX6_rowsAgree_28 : decode cX6_rowsAgree 28 = .ok (.invokevirtual 235, 3) := by decide +kernel
theorem dX6_rowsAgree_31 : decode cX6_rowsAgree 31 = .ok (.iinc 4 1, 3) := by decide +kernel
theorem dX6_rowsAgree_34 : decode cX6_rowsAgree 34 = .ok (.goto (-20), 3) := by decide +kernel
theorem dX6_rowsAgree_37 : decode cX6_rowsAgree 37 = .ok (.iconst 0, 1) := by decide +kernel
theorem dX6_rowsAgree_38 : decode cX6_rowsAgree 38 = .ok (.istore 4, 2) := by decide +kernel
theorem dX6_rowsAgree_40 : decode cX6_rowsAgree 40 = .ok (.iload 4, 2) := by decide +kernel
theorem dX6_rowsAgree_42 : decode cX6_rowsAgree 42 = .ok (.iload_n 3, 1) := by decide +kernel
theorem dX6_rowsAgree_43 : decode cX6_rowsAgree 43 = .ok (.if_icmp .ge 34, 3) := by decide +kernel
theorem dX6_rowsAgree_46 : decode cX6_rowsAgree 46 = .ok (.aload_n 0, 1) := by decide +kernel
theorem dX6_rowsAgree_47 : decode cX6_rowsAgree 47 = .ok (.iload_n 1, 1) := by decide +kernel
theorem dX6_rowsAgree_48 : decode cX6_rowsAgree 48 = .ok (.iload 4, 2) := by decide +kernel
theorem dX6_rowsAgree_50 : decode cX6_rowsAgree 50 = .ok (.iadd, 1) := by decide +kernel
theorem dX6_rowsAgree_51 : decode cX6_rowsAgree 51 = .ok (.iconst 0, 1) := by decide +kernel
theorem dX6_rowsAgree_52 : decode cX6_rowsAgree 52 = .ok (.invokevirtual 235, 3) := by decide +kernel
theorem dX6_rowsAgree_55 : decode cX6_rowsAgree 55 = .ok (.aload_n 0, 1) := by decide +kernel
theorem dX6_rowsAgree_56 : decode cX6_rowsAgree 56 = .ok (.iload 4, 2) := by decide +kernel
theorem dX6_rowsAgree_58 : decode cX6_rowsAgree 58 = .ok (.invokevirtual 239, 3) := by decide +kernel
theorem dX6_rowsAgree_61 : decode cX6_rowsAgree 61 = .ok (.aload_n 0, 1) := by decide +kernel
theorem dX6_rowsAgree_62 : decode cX6_rowsAgree 62 = .ok (.getfield 15, 3) := by decide +kernel
theorem dX6_rowsAgree_65 : decode cX6_rowsAgree 65 = .ok (.getfield 135, 3) := by decide +kernel
theorem dX6_rowsAgree_68 : decode cX6_rowsAgree 68 = .ok (.invokevirtual 166, 3) := by decide +kernel
theorem dX6_rowsAgree_71 : decode cX6_rowsAgree 71 = .ok (.iinc 4 1, 3) := by decide +kernel
theorem dX6_rowsAgree_74 : decode cX6_rowsAgree 74 = .ok (.goto (-34), 3) := by decide +kernel
theorem dX6_rowsAgree_77 : decode cX6_rowsAgree 77 = .ok (.iconst 1, 1) := by decide +kernel
theorem dX6_rowsAgree_78 : decode cX6_rowsAgree 78 = .ok (.istore 4, 2) := by decide +kernel
theorem dX6_rowsAgree_80 : decode cX6_rowsAgree 80 = .ok (.iload 4, 2) := by decide +kernel
theorem dX6_rowsAgree_82 : decode cX6_rowsAgree 82 = .ok (.iload_n 2, 1) := by decide +kernel
theorem dX6_rowsAgree_83 : decode cX6_rowsAgree 83 = .ok (.if_icmp .ge 127, 3) := by decide +kernel
theorem dX6_rowsAgree_86 : decode cX6_rowsAgree 86 = .ok (.iload_n 1, 1) := by decide +kernel
theorem dX6_rowsAgree_87 : decode cX6_rowsAgree 87 = .ok (.iload 4, 2) := by decide +kernel
theorem dX6_rowsAgree_89 : decode cX6_rowsAgree 89 = .ok (.iload_n 3, 1) := by decide +kernel
theorem dX6_rowsAgree_90 : decode cX6_rowsAgree 90 = .ok (.imul, 1) := by decide +kernel
theorem dX6_rowsAgree_91 : decode cX6_rowsAgree 91 = .ok (.iadd, 1) := by decide +kernel
theorem dX6_rowsAgree_92 : decode cX6_rowsAgree 92 = .ok (.istore 5, 2) := by decide +kernel
theorem dX6_rowsAgree_94 : decode cX6_rowsAgree 94 = .ok (.aload_n 0, 1) := by decide +kernel
theorem dX6_rowsAgree_95 : decode cX6_rowsAgree 95 = .ok (.iload 5, 2) := by decide +kernel
theorem dX6_rowsAgree_97 : decode cX6_rowsAgree 97 = .ok (.iconst 0, 1) := by decide +kernel
theorem dX6_rowsAgree_98 : decode cX6_rowsAgree 98 = .ok (.invokevirtual 235, 3) := by decide +kernel
theorem dX6_rowsAgree_101 : decode cX6_rowsAgree 101 = .ok (.aload_n 0, 1) := by decide +kernel
theorem dX6_rowsAgree_102 : decode cX6_rowsAgree 102 = .ok (.getfield 28, 3) := by decide +kernel
theorem dX6_rowsAgree_105 : decode cX6_rowsAgree 105 = .ok (.aload_n 0, 1) := by decide +kernel
theorem dX6_rowsAgree_106 : decode cX6_rowsAgree 106 = .ok (.getfield 15, 3) := by decide +kernel
theorem dX6_rowsAgree_109 : decode cX6_rowsAgree 109 = .ok (.getfield 135, 3) := by decide +kernel
theorem dX6_rowsAgree_112 : decode cX6_rowsAgree 112 = .ok (.invokevirtual 166, 3) := by decide +kernel
theorem dX6_rowsAgree_115 : decode cX6_rowsAgree 115 = .ok (.iconst 1, 1) := by decide +kernel
theorem dX6_rowsAgree_116 : decode cX6_rowsAgree 116 = .ok (.istore 6, 2) := by decide +kernel
theorem dX6_rowsAgree_118 : decode cX6_rowsAgree 118 = .ok (.iload 6, 2) := by decide +kernel
theorem dX6_rowsAgree_120 : decode cX6_rowsAgree 120 = .ok (.iload_n 3, 1) := by decide +kernel
theorem dX6_rowsAgree_121 : decode cX6_rowsAgree 121 = .ok (.if_icmp .ge 83, 3) := by decide +kernel
theorem dX6_rowsAgree_124 : decode cX6_rowsAgree 124 = .ok (.aload_n 0, 1) := by decide +kernel
theorem dX6_rowsAgree_125 : decode cX6_rowsAgree 125 = .ok (.iload 5, 2) := by decide +kernel
theorem dX6_rowsAgree_127 : decode cX6_rowsAgree 127 = .ok (.iload 6, 2) := by decide +kernel
theorem dX6_rowsAgree_129 : decode cX6_rowsAgree 129 = .ok (.iadd, 1) := by decide +kernel
theorem dX6_rowsAgree_130 : decode cX6_rowsAgree 130 = .ok (.iconst 0, 1) := by decide +kernel
theorem dX6_rowsAgree_131 : decode cX6_rowsAgree 131 = .ok (.invokevirtual 235, 3) := by decide +kernel
theorem dX6_rowsAgree_134 : decode cX6_rowsAgree 134 = .ok (.aload_n 0, 1) := by decide +kernel
theorem dX6_rowsAgree_135 : decode cX6_rowsAgree 135 = .ok (.getfield 15, 3) := by decide +kernel
theorem dX6_rowsAgree_138 : decode cX6_rowsAgree 138 = .ok (.getfield 142, 3) := by decide +kernel
theorem dX6_rowsAgree_141 : decode cX6_rowsAgree 141 = .ok (.aload_n 0, 1) := by decide +kernel
theorem dX6_rowsAgree_142 : decode cX6_rowsAgree 142 = .ok (.getfield 15, 3) := by decide +kernel
theorem dX6_rowsAgree_145 : decode cX6_rowsAgree 145 = .ok (.getfield 135, 3) := by decide +kernel
theorem dX6_rowsAgree_148 : decode cX6_rowsAgree 148 = .ok (.aload_n 0, 1) := by decide +kernel
theorem dX6_rowsAgree_149 : decode cX6_rowsAgree 149 = .ok (.iconst 0, 1) := by decide +kernel
theorem dX6_rowsAgree_150 : decode cX6_rowsAgree 150 = .ok (.invokevirtual 239, 3) := by decide +kernel
theorem dX6_rowsAgree_153 : decode cX6_rowsAgree 153 = .ok (.invokevirtual 243, 3) := by decide +kernel
theorem dX6_rowsAgree_156 : decode cX6_rowsAgree 156 = .ok (.aload_n 0, 1) := by decide +kernel
theorem dX6_rowsAgree_157 : decode cX6_rowsAgree 157 = .ok (.getfield 15, 3) := by decide +kernel
theorem dX6_rowsAgree_160 : decode cX6_rowsAgree 160 = .ok (.getfield 246, 3) := by decide +kernel
theorem dX6_rowsAgree_163 : decode cX6_rowsAgree 163 = .ok (.aload_n 0, 1) := by decide +kernel
theorem dX6_rowsAgree_164 : decode cX6_rowsAgree 164 = .ok (.getfield 28, 3) := by decide +kernel
theorem dX6_rowsAgree_167 : decode cX6_rowsAgree 167 = .ok (.aload_n 0, 1) := by decide +kernel
theorem dX6_rowsAgree_168 : decode cX6_rowsAgree 168 = .ok (.iload 6, 2) := by decide +kernel
theorem dX6_rowsAgree_170 : decode cX6_rowsAgree 170 = .ok (.invokevirtual 239, 3) := by decide +kernel
theorem dX6_rowsAgree_173 : decode cX6_rowsAgree 173 = .ok (.invokevirtual 243, 3) := by decide +kernel
theorem dX6_rowsAgree_176 : decode cX6_rowsAgree 176 = .ok (.aload_n 0, 1) := by decide +kernel
theorem dX6_rowsAgree_177 : decode cX6_rowsAgree 177 = .ok (.getfield 15, 3) := by decide +kernel
theorem dX6_rowsAgree_180 : decode cX6_rowsAgree 180 = .ok (.getfield 142, 3) := by decide +kernel
theorem dX6_rowsAgree_183 : decode cX6_rowsAgree 183 = .ok (.aload_n 0, 1) := by decide +kernel
theorem dX6_rowsAgree_184 : decode cX6_rowsAgree 184 = .ok (.getfield 15, 3) := by decide +kernel
theorem dX6_rowsAgree_187 : decode cX6_rowsAgree 187 = .ok (.getfield 246, 3) := by decide +kernel
theorem dX6_rowsAgree_190 : decode cX6_rowsAgree 190 = .ok (.invokevirtual 249, 3) := by decide +kernel
theorem dX6_rowsAgree_193 : decode cX6_rowsAgree 193 = .ok (.ifCond .eq 5, 3) := by decide +kernel
theorem dX6_rowsAgree_196 : decode cX6_rowsAgree 196 = .ok (.iconst 0, 1) := by decide +kernel
theorem dX6_rowsAgree_197 : decode cX6_rowsAgree 197 = .ok (.ireturn, 1) := by decide +kernel
theorem dX6_rowsAgree_198 : decode cX6_rowsAgree 198 = .ok (.iinc 6 1, 3) := by decide +kernel
theorem dX6_rowsAgree_201 : decode cX6_rowsAgree 201 = .ok (.goto (-83), 3) := by decide +kernel
theorem dX6_rowsAgree_204 : decode cX6_rowsAgree 204 = .ok (.iinc 4 1, 3) := by decide +kernel
theorem dX6_rowsAgree_207 : decode cX6_rowsAgree 207 = .ok (.goto (-127), 3) := by decide +kernel
theorem dX6_rowsAgree_210 : decode cX6_rowsAgree 210 = .ok (.iconst 1, 1) := by decide +kernel
theorem dX6_rowsAgree_211 : decode cX6_rowsAgree 211 = .ok (.ireturn, 1) := by decide +kernel
def w_Od_rowsAgree_118 (C : zC) (n0 : Nat) (Q : Int32 → zS → Prop) (B80 : Nat → Int32 → Int32 → Int32 → Int32 → zS → Prop) (a0 : Nat) (a1 : Int32) (a2 : Int32) (a3 : Int32) (a4 : Int32) (a5 : Int32) (a6 : Int32) (κ : zS) : Prop :=
  ∃ I : Nat → Nat → Int32 → Int32 → Int32 → Int32 → Int32 → Int32 → zS → Prop, (∃ n, I n a0 a1 a2 a3 a4 a5 a6 κ) ∧ ∀ n a0 a1 a2 a3 a4 a5 a6 κ, zW C n0 κ → zT κ a0 = 9 → I n a0 a1 a2 a3 a4 a5 a6 κ →
    (a3 ≤ a6 →
      ∀ v4_1 : Int32, v4_1 = a4 + (1 : Int32) →
      B80 a0 a1 a2 a3 v4_1 κ) ∧
    (¬ a3 ≤ a6 →
      ∀ _ : zT κ a0 = 9,
      zRun C 6 mOd_throughCell [.ref a0, .int (a5 + a6), .int (0 : Int32)] κ (oV (fun κ2 =>
        ∀ _ : zW C n0 κ2,
        ∀ _ : zM (zn κ) κ κ2,
        ∀ _ : zT κ2 a0 = 9,
        zRun C 2 mOd_edge [.ref a0, .int (0 : Int32)] κ2 (oR 8 (fun r7 κ6 =>
          ∀ _ : zW C n0 κ6,
          ∀ _ : zM (zn κ2) κ2 κ6,
          ∀ _ : zT κ6 r7 = 8,
          ∀ _ : zT κ6 (zR κ2 soLess (zR κ2 odSolver a0)) = 8,
          ∀ _ : zT κ6 (zR κ2 soSum (zR κ2 odSolver a0)) = 8,
          ∀ _ : zT κ6 r7 = 8,
          zRun C 3 mNu_product [.ref (zR κ2 soLess (zR κ2 odSolver a0)), .ref (zR κ2 soSum (zR κ2 odSolver a0)), .ref r7] κ6 (oV (fun κ9 =>
            ∀ _ : zW C n0 κ9,
            ∀ _ : zM (zn κ6) κ6 κ9,
            ∀ _ : zT κ9 a0 = 9,
            zRun C 2 mOd_edge [.ref a0, .int a6] κ9 (oR 8 (fun r16 κ15 =>
              ∀ _ : zW C n0 κ15,
              ∀ _ : zM (zn κ9) κ9 κ15,
              ∀ _ : zT κ15 r16 = 8,
              ∀ _ : zT κ15 (zR κ9 soTerm (zR κ9 odSolver a0)) = 8,
              ∀ _ : zT κ15 (zR κ9 odHeld a0) = 8,
              ∀ _ : zT κ15 r16 = 8,
              zRun C 3 mNu_product [.ref (zR κ9 soTerm (zR κ9 odSolver a0)), .ref (zR κ9 odHeld a0), .ref r16] κ15 (oV (fun κ18 =>
                ∀ _ : zW C n0 κ18,
                ∀ _ : zM (zn κ15) κ15 κ18,
                ∀ _ : zT κ18 (zR κ18 soLess (zR κ18 odSolver a0)) = 8,
                ∀ _ : zT κ18 (zR κ18 soTerm (zR κ18 odSolver a0)) = 8,
                zRun C 0 mNu_compare [.ref (zR κ18 soLess (zR κ18 odSolver a0)), .ref (zR κ18 soTerm (zR κ18 odSolver a0))] κ18 (oI (fun r25 κ24 =>
                  ∀ _ : zW C n0 κ24,
                  ∀ _ : zM (zn κ18) κ18 κ24,
                  (r25 = (0 : Int32) →
                    ∀ v6_27 : Int32, v6_27 = a6 + (1 : Int32) →
                    ∃ k < n, I k a0 a1 a2 a3 a4 a5 v6_27 κ24) ∧
                  (¬ r25 = (0 : Int32) →
                    Q (0 : Int32) κ24)) noX)) noX)) noX)) noX)) noX)) noX))
theorem t_Od_rowsAgree_118 {C : zC} {n0 : Nat} {Q : Int32 → zS → Prop} {B80 : Nat → Int32 → Int32 → Int32 → Int32 → zS → Prop} (hB80 : ∀ a0' a1' a2' a3' a4' τ, zW C n0 τ → zT τ a0' = 9 → B80 a0' a1' a2' a3' a4' τ → zG C n0 7 mOd_rowsAgree 80 [some (.ref a0'), some (.int a1'), some (.int a2'), some (.int a3'), some (.int a4'), none, none] [] τ (oI Q noX)) {a0 : Nat} {a1 : Int32} {a2 : Int32} {a3 : Int32} {a4 : Int32} {a5 : Int32} {a6 : Int32} {κ : zS} (W : zW C n0 κ) (Ta0 : zT κ a0 = 9) (F : w_Od_rowsAgree_118 C n0 Q B80 a0 a1 a2 a3 a4 a5 a6 κ) : zG C n0 7 mOd_rowsAgree 118 [some (.ref a0), some (.int a1), some (.int a2), some (.int a3), some (.int a4), some (.int a5), some (.int a6)] [] κ (oI Q noX) := by
  obtain ⟨I, ⟨m0, hI0⟩, F0⟩ := F
  have key : ∀ n a0 a1 a2 a3 a4 a5 a6 κ, zW C n0 κ → zT κ a0 = 9 → I n a0 a1 a2 a3 a4 a5 a6 κ → zG C n0 7 mOd_rowsAgree 118 [some (.ref a0), some (.int a1), some (.int a2), some (.int a3), some (.int a4), some (.int a5), some (.int a6)] [] κ (oI Q noX) := by
    intro n
    induction n using Nat.strongRecOn with
    | _ n ih =>
      intro a0 a1 a2 a3 a4 a5 a6 κ W Ta0 hI
      have F := F0 n a0 a1 a2 a3 a4 a5 a6 κ W Ta0 hI
      clear hI hI0
      refine y_il dX6_rowsAgree_118 rfl ?_
      refine y_iln dX6_rowsAgree_120 rfl ?_
      refine y_ii (a3 ≤ a6) dX6_rowsAgree_121 (t := 204) rfl rfl (fun c9 => ?_) (fun c9 => ?_)
      · replace F := F.1 c9
        refine y_incb dX6_rowsAgree_204 zi_1 rfl (Nat.le_of_ble_eq_true rfl) (fun v4_1 ev4_1 => ?_)
        replace F := F v4_1 ev4_1
        show zG _ _ _ _ _ [some (.ref a0), some (.int a1), some (.int a2), some (.int a3), some (.int v4_1), some (.int a5), some (.int a6)] _ _ _
        refine y_goto dX6_rowsAgree_207 (t := 80) rfl ?_
        exact y_k (hB80 _ _ _ _ _ _ W Ta0 F) ⟨rfl, rfl, rfl, rfl, rfl, trivial⟩
      · replace F := F.2 c9
        refine y_aln dX6_rowsAgree_124 rfl ?_
        refine y_il dX6_rowsAgree_125 rfl ?_
        refine y_il dX6_rowsAgree_127 rfl ?_
        refine y_iadd dX6_rowsAgree_129 ?_
        refine y_ic dX6_rowsAgree_130 zi_0 ?_
        replace F := F Ta0
        refine k_X6_235 W dX6_rowsAgree_131 rfl (Nat.le_of_ble_eq_true rfl) (Nat.le_of_ble_eq_true rfl) (Or.inl Ta0) F (fun  κ2 Wκ2 Mκ2 F => ?_) (fun _ _ h9 => False.elim h9)
        replace F := F Wκ2 Mκ2
        refine y_aln dX6_rowsAgree_134 rfl ?_
        have h5 := (ztm W Mκ2 Ta0)
        refine gf_X6_15 Wκ2 dX6_rowsAgree_135 rfl h5 ?_
        refine gf_X6_142 Wκ2 dX6_rowsAgree_138 rfl (ty_odSolver Wκ2 h5) ?_
        refine y_aln dX6_rowsAgree_141 rfl ?_
        refine gf_X6_15 Wκ2 dX6_rowsAgree_142 rfl h5 ?_
        refine gf_X6_135 Wκ2 dX6_rowsAgree_145 rfl (ty_odSolver Wκ2 h5) ?_
        refine y_aln dX6_rowsAgree_148 rfl ?_
        refine y_ic dX6_rowsAgree_149 zi_0 ?_
        replace F := F h5
        refine k_X6_239 Wκ2 dX6_rowsAgree_150 rfl (Nat.le_of_ble_eq_true rfl) (Nat.le_of_ble_eq_true rfl) (Or.inl h5) F (fun r7 κ6 Wκ6 Mκ6 g8 F => ?_) (fun _ _ h9 => False.elim h9)
        replace F := F Wκ6 Mκ6 g8
        have h11 := (ztm Wκ2 Mκ6 (ty_soLess Wκ2 (ty_odSolver Wκ2 h5)))
        replace F := F h11
        have h12 := (ztm Wκ2 Mκ6 (ty_soSum Wκ2 (ty_odSolver Wκ2 h5)))
        replace F := F h12
        replace F := F g8
        refine k_X6_243 Wκ6 dX6_rowsAgree_153 rfl (Nat.le_of_ble_eq_true rfl) (Nat.le_of_ble_eq_true rfl) (Or.inl h11) F (fun  κ9 Wκ9 Mκ9 F => ?_) (fun _ _ h9 => False.elim h9)
        replace F := F Wκ9 Mκ9
        refine y_aln dX6_rowsAgree_156 rfl ?_
        have h14 := (ztm Wκ6 Mκ9 (ztm Wκ2 Mκ6 h5))
        refine gf_X6_15 Wκ9 dX6_rowsAgree_157 rfl h14 ?_
        refine gf_X6_246 Wκ9 dX6_rowsAgree_160 rfl (ty_odSolver Wκ9 h14) ?_
        refine y_aln dX6_rowsAgree_163 rfl ?_
        refine gf_X6_28 Wκ9 dX6_rowsAgree_164 rfl h14 ?_
        refine y_aln dX6_rowsAgree_167 rfl ?_
        refine y_il dX6_rowsAgree_168 rfl ?_
        replace F := F h14
        refine k_X6_239 Wκ9 dX6_rowsAgree_170 rfl (Nat.le_of_ble_eq_true rfl) (Nat.le_of_ble_eq_true rfl) (Or.inl h14) F (fun r16 κ15 Wκ15 Mκ15 g17 F => ?_) (fun _ _ h9 => False.elim h9)
        replace F := F Wκ15 Mκ15 g17
        have h20 := (ztm Wκ9 Mκ15 (ty_soTerm Wκ9 (ty_odSolver Wκ9 h14)))
        replace F := F h20
        have h21 := (ztm Wκ9 Mκ15 (ty_odHeld Wκ9 h14))
        replace F := F h21
        replace F := F g17
        refine k_X6_243 Wκ15 dX6_rowsAgree_173 rfl (Nat.le_of_ble_eq_true rfl) (Nat.le_of_ble_eq_true rfl) (Or.inl h20) F (fun  κ18 Wκ18 Mκ18 F => ?_) (fun _ _ h9 => False.elim h9)
        replace F := F Wκ18 Mκ18
        refine y_aln dX6_rowsAgree_176 rfl ?_
        have h23 := (ztm Wκ15 Mκ18 (ztm Wκ9 Mκ15 h14))
        refine gf_X6_15 Wκ18 dX6_rowsAgree_177 rfl h23 ?_
        refine gf_X6_142 Wκ18 dX6_rowsAgree_180 rfl (ty_odSolver Wκ18 h23) ?_
        refine y_aln dX6_rowsAgree_183 rfl ?_
        refine gf_X6_15 Wκ18 dX6_rowsAgree_184 rfl h23 ?_
        refine gf_X6_246 Wκ18 dX6_rowsAgree_187 rfl (ty_odSolver Wκ18 h23) ?_
        replace F := F (ty_soLess Wκ18 (ty_odSolver Wκ18 h23))
        replace F := F (ty_soTerm Wκ18 (ty_odSolver Wκ18 h23))
        refine k_X6_249 Wκ18 dX6_rowsAgree_190 rfl (Nat.le_of_ble_eq_true rfl) (Nat.le_of_ble_eq_true rfl) (Or.inl (ty_soLess Wκ18 (ty_odSolver Wκ18 h23))) F (fun r25 κ24 Wκ24 Mκ24 F => ?_) (fun _ _ h9 => False.elim h9)
        replace F := F Wκ24 Mκ24
        refine y_i (r25 = (0 : Int32)) dX6_rowsAgree_193 (t := 198) rfl rfl (fun c9 => ?_) (fun c9 => ?_)
        · replace F := F.1 c9
          refine y_incb dX6_rowsAgree_198 zi_1 rfl (Nat.le_of_ble_eq_true rfl) (fun v6_27 ev6_27 => ?_)
          replace F := F v6_27 ev6_27
          show zG _ _ _ _ _ [some (.ref a0), some (.int a1), some (.int a2), some (.int a3), some (.int a4), some (.int a5), some (.int v6_27)] _ _ _
          refine y_goto dX6_rowsAgree_201 (t := 118) rfl ?_
          have h28 := (ztm Wκ18 Mκ24 h23)
          obtain ⟨k, hk, hI⟩ := F
          exact y_k (ih k hk _ _ _ _ _ _ _ _ Wκ24 h28 hI) ⟨rfl, rfl, rfl, rfl, rfl, rfl, rfl, trivial⟩
        · replace F := F.2 c9
          refine y_ic dX6_rowsAgree_196 zi_0 ?_
          exact y_ri Wκ24 dX6_rowsAgree_197 rfl (nb_nar nb_0) F
  exact key m0 a0 a1 a2 a3 a4 a5 a6 κ W Ta0 hI0

def w_Od_rowsAgree_80 (C : zC) (n0 : Nat) (Q : Int32 → zS → Prop)  (a0 : Nat) (a1 : Int32) (a2 : Int32) (a3 : Int32) (a4 : Int32) (κ : zS) : Prop :=
  ∃ I : Nat → Nat → Int32 → Int32 → Int32 → Int32 → zS → Prop, (∃ n, I n a0 a1 a2 a3 a4 κ) ∧ ∀ n a0 a1 a2 a3 a4 κ, zW C n0 κ → zT κ a0 = 9 → I n a0 a1 a2 a3 a4 κ →
    (a2 ≤ a4 →
      Q (1 : Int32) κ) ∧
    (¬ a2 ≤ a4 →
      ∀ v5_1 : Int32, v5_1 = (a1 + (a4 * a3)) →
      ∀ _ : zT κ a0 = 9,
      zRun C 6 mOd_throughCell [.ref a0, .int v5_1, .int (0 : Int32)] κ (oV (fun κ2 =>
        ∀ _ : zW C n0 κ2,
        ∀ _ : zM (zn κ) κ κ2,
        ∀ _ : zT κ2 (zR κ2 odHeld a0) = 8,
        ∀ _ : zT κ2 (zR κ2 soSum (zR κ2 odSolver a0)) = 8,
        zRun C 1 mNu_copy [.ref (zR κ2 odHeld a0), .ref (zR κ2 soSum (zR κ2 odSolver a0))] κ2 (oV (fun κ6 =>
          ∀ _ : zW C n0 κ6,
          ∀ _ : zM (zn κ2) κ2 κ6,
          w_Od_rowsAgree_118 C n0 Q (fun a0' a1' a2' a3' a4' τ => ∃ k < n, I k a0' a1' a2' a3' a4' τ) a0 a1 a2 a3 a4 v5_1 (1 : Int32) κ6) noX)) noX))
theorem t_Od_rowsAgree_80 {C : zC} {n0 : Nat} {Q : Int32 → zS → Prop}   {a0 : Nat} {a1 : Int32} {a2 : Int32} {a3 : Int32} {a4 : Int32} {κ : zS} (W : zW C n0 κ) (Ta0 : zT κ a0 = 9) (F : w_Od_rowsAgree_80 C n0 Q  a0 a1 a2 a3 a4 κ) : zG C n0 7 mOd_rowsAgree 80 [some (.ref a0), some (.int a1), some (.int a2), some (.int a3), some (.int a4), none, none] [] κ (oI Q noX) := by
  obtain ⟨I, ⟨m0, hI0⟩, F0⟩ := F
  have key : ∀ n a0 a1 a2 a3 a4 κ, zW C n0 κ → zT κ a0 = 9 → I n a0 a1 a2 a3 a4 κ → zG C n0 7 mOd_rowsAgree 80 [some (.ref a0), some (.int a1), some (.int a2), some (.int a3), some (.int a4), none, none] [] κ (oI Q noX) := by
    intro n
    induction n using Nat.strongRecOn with
    | _ n ih =>
      intro a0 a1 a2 a3 a4 κ W Ta0 hI
      have F := F0 n a0 a1 a2 a3 a4 κ W Ta0 hI
      clear hI hI0
      refine y_il dX6_rowsAgree_80 rfl ?_
      refine y_iln dX6_rowsAgree_82 rfl ?_
      refine y_ii (a2 ≤ a4) dX6_rowsAgree_83 (t := 210) rfl rfl (fun c9 => ?_) (fun c9 => ?_)
      · replace F := F.1 c9
        refine y_ic dX6_rowsAgree_210 zi_1 ?_
        exact y_ri W dX6_rowsAgree_211 rfl (nb_nar nb_1) F
      · replace F := F.2 c9
        refine y_iln dX6_rowsAgree_86 rfl ?_
        refine y_il dX6_rowsAgree_87 rfl ?_
        refine y_iln dX6_rowsAgree_89 rfl ?_
        refine y_imul dX6_rowsAgree_90 ?_
        refine y_iadd dX6_rowsAgree_91 ?_
        refine y_isb dX6_rowsAgree_92 (Nat.le_of_ble_eq_true rfl) (fun v5_1 ev5_1 => ?_)
        replace F := F v5_1 ev5_1
        show zG _ _ _ _ _ [some (.ref a0), some (.int a1), some (.int a2), some (.int a3), some (.int a4), some (.int v5_1), none] _ _ _
        refine y_aln dX6_rowsAgree_94 rfl ?_
        refine y_il dX6_rowsAgree_95 rfl ?_
        refine y_ic dX6_rowsAgree_97 zi_0 ?_
        replace F := F Ta0
        refine k_X6_235 W dX6_rowsAgree_98 rfl (Nat.le_of_ble_eq_true rfl) (Nat.le_of_ble_eq_true rfl) (Or.inl Ta0) F (fun  κ2 Wκ2 Mκ2 F => ?_) (fun _ _ h9 => False.elim h9)
        replace F := F Wκ2 Mκ2
        refine y_aln dX6_rowsAgree_101 rfl ?_
        have h5 := (ztm W Mκ2 Ta0)
        refine gf_X6_28 Wκ2 dX6_rowsAgree_102 rfl h5 ?_
        refine y_aln dX6_rowsAgree_105 rfl ?_
        refine gf_X6_15 Wκ2 dX6_rowsAgree_106 rfl h5 ?_
        refine gf_X6_135 Wκ2 dX6_rowsAgree_109 rfl (ty_odSolver Wκ2 h5) ?_
        replace F := F (ty_odHeld Wκ2 h5)
        replace F := F (ty_soSum Wκ2 (ty_odSolver Wκ2 h5))
        refine k_X6_166 Wκ2 dX6_rowsAgree_112 rfl (Nat.le_of_ble_eq_true rfl) (Nat.le_of_ble_eq_true rfl) (Or.inl (ty_odHeld Wκ2 h5)) F (fun  κ6 Wκ6 Mκ6 F => ?_) (fun _ _ h9 => False.elim h9)
        replace F := F Wκ6 Mκ6
        refine y_ic dX6_rowsAgree_115 zi_1 ?_
        refine y_is dX6_rowsAgree_116 (Nat.le_of_ble_eq_true rfl) rfl ?_
        show zG _ _ _ _ _ [some (.ref a0), some (.int a1), some (.int a2), some (.int a3), some (.int a4), some (.int v5_1), some (.int (1 : Int32))] _ _ _
        have h9 := (ztm Wκ2 Mκ6 h5)
        exact y_k (t_Od_rowsAgree_118 (fun a0' a1' a2' a3' a4' τ w9 f09 hb => by obtain ⟨k, hk, hI⟩ := hb; exact ih k hk a0' a1' a2' a3' a4' τ w9 f09 hI) Wκ6 h9 F) ⟨rfl, rfl, rfl, rfl, rfl, rfl, rfl, trivial⟩
  exact key m0 a0 a1 a2 a3 a4 κ W Ta0 hI0

def w_Od_rowsAgree_40 (C : zC) (n0 : Nat) (Q : Int32 → zS → Prop)  (a0 : Nat) (a1 : Int32) (a2 : Int32) (a3 : Int32) (a4 : Int32) (κ : zS) : Prop :=
  ∃ I : Nat → Nat → Int32 → Int32 → Int32 → Int32 → zS → Prop, (∃ n, I n a0 a1 a2 a3 a4 κ) ∧ ∀ n a0 a1 a2 a3 a4 κ, zW C n0 κ → zT κ a0 = 9 → I n a0 a1 a2 a3 a4 κ →
    (a3 ≤ a4 →
      w_Od_rowsAgree_80 C n0 Q  a0 a1 a2 a3 (1 : Int32) κ) ∧
    (¬ a3 ≤ a4 →
      ∀ _ : zT κ a0 = 9,
      zRun C 6 mOd_throughCell [.ref a0, .int (a1 + a4), .int (0 : Int32)] κ (oV (fun κ1 =>
        ∀ _ : zW C n0 κ1,
        ∀ _ : zM (zn κ) κ κ1,
        ∀ _ : zT κ1 a0 = 9,
        zRun C 2 mOd_edge [.ref a0, .int a4] κ1 (oR 8 (fun r5 κ4 =>
          ∀ _ : zW C n0 κ4,
          ∀ _ : zM (zn κ1) κ1 κ4,
          ∀ _ : zT κ4 r5 = 8,
          ∀ _ : zT κ4 r5 = 8,
          ∀ _ : zT κ4 (zR κ4 soSum (zR κ4 odSolver a0)) = 8,
          zRun C 1 mNu_copy [.ref r5, .ref (zR κ4 soSum (zR κ4 odSolver a0))] κ4 (oV (fun κ9 =>
            ∀ _ : zW C n0 κ9,
            ∀ _ : zM (zn κ4) κ4 κ9,
            ∀ v4_12 : Int32, v4_12 = a4 + (1 : Int32) →
            ∃ k < n, I k a0 a1 a2 a3 v4_12 κ9) noX)) noX)) noX))
theorem t_Od_rowsAgree_40 {C : zC} {n0 : Nat} {Q : Int32 → zS → Prop}   {a0 : Nat} {a1 : Int32} {a2 : Int32} {a3 : Int32} {a4 : Int32} {κ : zS} (W : zW C n0 κ) (Ta0 : zT κ a0 = 9) (F : w_Od_rowsAgree_40 C n0 Q  a0 a1 a2 a3 a4 κ) : zG C n0 7 mOd_rowsAgree 40 [some (.ref a0), some (.int a1), some (.int a2), some (.int a3), some (.int a4), none, none] [] κ (oI Q noX) := by
  obtain ⟨I, ⟨m0, hI0⟩, F0⟩ := F
  have key : ∀ n a0 a1 a2 a3 a4 κ, zW C n0 κ → zT κ a0 = 9 → I n a0 a1 a2 a3 a4 κ → zG C n0 7 mOd_rowsAgree 40 [some (.ref a0), some (.int a1), some (.int a2), some (.int a3), some (.int a4), none, none] [] κ (oI Q noX) := by
    intro n
    induction n using Nat.strongRecOn with
    | _ n ih =>
      intro a0 a1 a2 a3 a4 κ W Ta0 hI
      have F := F0 n a0 a1 a2 a3 a4 κ W Ta0 hI
      clear hI hI0
      refine y_il dX6_rowsAgree_40 rfl ?_
      refine y_iln dX6_rowsAgree_42 rfl ?_
      refine y_ii (a3 ≤ a4) dX6_rowsAgree_43 (t := 77) rfl rfl (fun c9 => ?_) (fun c9 => ?_)
      · replace F := F.1 c9
        refine y_ic dX6_rowsAgree_77 zi_1 ?_
        refine y_is dX6_rowsAgree_78 (Nat.le_of_ble_eq_true rfl) rfl ?_
        show zG _ _ _ _ _ [some (.ref a0), some (.int a1), some (.int a2), some (.int a3), some (.int (1 : Int32)), none, none] _ _ _
        exact y_k (t_Od_rowsAgree_80  W Ta0 F) ⟨rfl, rfl, rfl, rfl, rfl, trivial⟩
      · replace F := F.2 c9
        refine y_aln dX6_rowsAgree_46 rfl ?_
        refine y_iln dX6_rowsAgree_47 rfl ?_
        refine y_il dX6_rowsAgree_48 rfl ?_
        refine y_iadd dX6_rowsAgree_50 ?_
        refine y_ic dX6_rowsAgree_51 zi_0 ?_
        replace F := F Ta0
        refine k_X6_235 W dX6_rowsAgree_52 rfl (Nat.le_of_ble_eq_true rfl) (Nat.le_of_ble_eq_true rfl) (Or.inl Ta0) F (fun  κ1 Wκ1 Mκ1 F => ?_) (fun _ _ h9 => False.elim h9)
        replace F := F Wκ1 Mκ1
        refine y_aln dX6_rowsAgree_55 rfl ?_
        refine y_il dX6_rowsAgree_56 rfl ?_
        have h6 := (ztm W Mκ1 Ta0)
        replace F := F h6
        refine k_X6_239 Wκ1 dX6_rowsAgree_58 rfl (Nat.le_of_ble_eq_true rfl) (Nat.le_of_ble_eq_true rfl) (Or.inl h6) F (fun r5 κ4 Wκ4 Mκ4 g7 F => ?_) (fun _ _ h9 => False.elim h9)
        replace F := F Wκ4 Mκ4 g7
        refine y_aln dX6_rowsAgree_61 rfl ?_
        have h8 := (ztm Wκ1 Mκ4 h6)
        refine gf_X6_15 Wκ4 dX6_rowsAgree_62 rfl h8 ?_
        refine gf_X6_135 Wκ4 dX6_rowsAgree_65 rfl (ty_odSolver Wκ4 h8) ?_
        replace F := F g7
        replace F := F (ty_soSum Wκ4 (ty_odSolver Wκ4 h8))
        refine k_X6_166 Wκ4 dX6_rowsAgree_68 rfl (Nat.le_of_ble_eq_true rfl) (Nat.le_of_ble_eq_true rfl) (Or.inl g7) F (fun  κ9 Wκ9 Mκ9 F => ?_) (fun _ _ h9 => False.elim h9)
        replace F := F Wκ9 Mκ9
        refine y_incb dX6_rowsAgree_71 zi_1 rfl (Nat.le_of_ble_eq_true rfl) (fun v4_12 ev4_12 => ?_)
        replace F := F v4_12 ev4_12
        show zG _ _ _ _ _ [some (.ref a0), some (.int a1), some (.int a2), some (.int a3), some (.int v4_12), none, none] _ _ _
        refine y_goto dX6_rowsAgree_74 (t := 40) rfl ?_
        have h13 := (ztm Wκ4 Mκ9 h8)
        obtain ⟨k, hk, hI⟩ := F
        exact y_k (ih k hk _ _ _ _ _ _ Wκ9 h13 hI) ⟨rfl, rfl, rfl, rfl, rfl, trivial⟩
  exact key m0 a0 a1 a2 a3 a4 κ W Ta0 hI0

def w_Od_rowsAgree_14 (C : zC) (n0 : Nat) (Q : Int32 → zS → Prop)  (a0 : Nat) (a1 : Int32) (a2 : Int32) (a3 : Int32) (a4 : Int32) (κ : zS) : Prop :=
  ∃ I : Nat → Nat → Int32 → Int32 → Int32 → Int32 → zS → Prop, (∃ n, I n a0 a1 a2 a3 a4 κ) ∧ ∀ n a0 a1 a2 a3 a4 κ, zW C n0 κ → zT κ a0 = 9 → I n a0 a1 a2 a3 a4 κ →
    ((a1 + (a2 * a3)) ≤ a4 →
      w_Od_rowsAgree_40 C n0 Q  a0 a1 a2 a3 (0 : Int32) κ) ∧
    (¬ (a1 + (a2 * a3)) ≤ a4 →
      ∀ _ : zT κ a0 = 9,
      zRun C 6 mOd_throughCell [.ref a0, .int a4, .int (1 : Int32)] κ (oV (fun κ1 =>
        ∀ _ : zW C n0 κ1,
        ∀ _ : zM (zn κ) κ κ1,
        ∀ v4_4 : Int32, v4_4 = a4 + (1 : Int32) →
        ∃ k < n, I k a0 a1 a2 a3 v4_4 κ1) noX))
theorem t_Od_rowsAgree_14 {C : zC} {n0 : Nat} {Q : Int32 → zS → Prop}   {a0 : Nat} {a1 : Int32} {a2 : Int32} {a3 : Int32} {a4 : Int32} {κ : zS} (W : zW C n0 κ) (Ta0 : zT κ a0 = 9) (F : w_Od_rowsAgree_14 C n0 Q  a0 a1 a2 a3 a4 κ) : zG C n0 7 mOd_rowsAgree 14 [some (.ref a0), some (.int a1), some (.int a2), some (.int a3), some (.int a4), none, none] [] κ (oI Q noX) := by
  obtain ⟨I, ⟨m0, hI0⟩, F0⟩ := F
  have key : ∀ n a0 a1 a2 a3 a4 κ, zW C n0 κ → zT κ a0 = 9 → I n a0 a1 a2 a3 a4 κ → zG C n0 7 mOd_rowsAgree 14 [some (.ref a0), some (.int a1), some (.int a2), some (.int a3), some (.int a4), none, none] [] κ (oI Q noX) := by
    intro n
    induction n using Nat.strongRecOn with
    | _ n ih =>
      intro a0 a1 a2 a3 a4 κ W Ta0 hI
      have F := F0 n a0 a1 a2 a3 a4 κ W Ta0 hI
      clear hI hI0
      refine y_il dX6_rowsAgree_14 rfl ?_
      refine y_iln dX6_rowsAgree_16 rfl ?_
      refine y_iln dX6_rowsAgree_17 rfl ?_
      refine y_iln dX6_rowsAgree_18 rfl ?_
      refine y_imul dX6_rowsAgree_19 ?_
      refine y_iadd dX6_rowsAgree_20 ?_
      refine y_ii ((a1 + (a2 * a3)) ≤ a4) dX6_rowsAgree_21 (t := 37) rfl rfl (fun c9 => ?_) (fun c9 => ?_)
      · replace F := F.1 c9
        refine y_ic dX6_rowsAgree_37 zi_0 ?_
        refine y_is dX6_rowsAgree_38 (Nat.le_of_ble_eq_true rfl) rfl ?_
        show zG _ _ _ _ _ [some (.ref a0), some (.int a1), some (.int a2), some (.int a3), some (.int (0 : Int32)), none, none] _ _ _
        exact y_k (t_Od_rowsAgree_40  W Ta0 F) ⟨rfl, rfl, rfl, rfl, rfl, trivial⟩
      · replace F := F.2 c9
        refine y_aln dX6_rowsAgree_24 rfl ?_
        refine y_il dX6_rowsAgree_25 rfl ?_
        refine y_ic dX6_rowsAgree_27 zi_1 ?_
        replace F := F Ta0
        refine k_X6_235 W dX6_rowsAgree_28 rfl (Nat.le_of_ble_eq_true rfl) (Nat.le_of_ble_eq_true rfl) (Or.inl Ta0) F (fun  κ1 Wκ1 Mκ1 F => ?_) (fun _ _ h9 => False.elim h9)
        replace F := F Wκ1 Mκ1
        refine y_incb dX6_rowsAgree_31 zi_1 rfl (Nat.le_of_ble_eq_true rfl) (fun v4_4 ev4_4 => ?_)
        replace F := F v4_4 ev4_4
        show zG _ _ _ _ _ [some (.ref a0), some (.int a1), some (.int a2), some (.int a3), some (.int v4_4), none, none] _ _ _
        refine y_goto dX6_rowsAgree_34 (t := 14) rfl ?_
        have h5 := (ztm W Mκ1 Ta0)
        obtain ⟨k, hk, hI⟩ := F
        exact y_k (ih k hk _ _ _ _ _ _ Wκ1 h5 hI) ⟨rfl, rfl, rfl, rfl, rfl, trivial⟩
  exact key m0 a0 a1 a2 a3 a4 κ W Ta0 hI0

def w_Od_rowsAgree_0 (C : zC) (n0 : Nat) (Q : Int32 → zS → Prop)  (a0 : Nat) (a1 : Int32) (a2 : Int32) (a3 : Int32) (κ : zS) : Prop :=
  ∀ _ : zT κ (zR κ soWhole (zR κ odSolver a0)) = 8,
  zRun C 0 mNu_put [.ref (zR κ soWhole (zR κ odSolver a0)), .long (1 : Int64)] κ (oV (fun κ1 =>
    ∀ _ : zW C n0 κ1,
    ∀ _ : zM (zn κ) κ κ1,
    w_Od_rowsAgree_14 C n0 Q  a0 a1 a2 a3 a1 κ1) noX)
theorem t_Od_rowsAgree_0 {C : zC} {n0 : Nat} {Q : Int32 → zS → Prop}   {a0 : Nat} {a1 : Int32} {a2 : Int32} {a3 : Int32} {κ : zS} (W : zW C n0 κ) (Ta0 : zT κ a0 = 9) (F : w_Od_rowsAgree_0 C n0 Q  a0 a1 a2 a3 κ) : zG C n0 7 mOd_rowsAgree 0 [some (.ref a0), some (.int a1), some (.int a2), some (.int a3), none, none, none] [] κ (oI Q noX) := by
  unfold w_Od_rowsAgree_0 at F
  refine y_aln dX6_rowsAgree_0 rfl ?_
  refine gf_X6_15 W dX6_rowsAgree_1 rfl Ta0 ?_
  refine gf_X6_151 W dX6_rowsAgree_4 rfl (ty_odSolver W Ta0) ?_
  refine y_lc dX6_rowsAgree_7 zl_1 ?_
  replace F := F (ty_soWhole W (ty_odSolver W Ta0))
  refine k_X6_138 W dX6_rowsAgree_8 rfl (Nat.le_of_ble_eq_true rfl) (Nat.le_of_ble_eq_true rfl) (Or.inl (ty_soWhole W (ty_odSolver W Ta0))) F (fun  κ1 Wκ1 Mκ1 F => ?_) (fun _ _ h9 => False.elim h9)
  replace F := F Wκ1 Mκ1
  refine y_iln dX6_rowsAgree_11 rfl ?_
  refine y_is dX6_rowsAgree_12 (Nat.le_of_ble_eq_true rfl) rfl ?_
  show zG _ _ _ _ _ [some (.ref a0), some (.int a1), some (.int a2), some (.int a3), some (.int a1), none, none] _ _ _
  have h4 := (ztm W Mκ1 Ta0)
  exact y_k (t_Od_rowsAgree_14  Wκ1 h4 F) ⟨rfl, rfl, rfl, rfl, rfl, trivial⟩

theorem Od_rowsAgree_run {C : zC} {n0 : Nat} {Q : Int32 → zS → Prop} {a0 : Nat} {a1 : Int32} {a2 : Int32} {a3 : Int32} {κ : zS} (W : zW C n0 κ) (Ta0 : zT κ a0 = 9) (F : w_Od_rowsAgree_0 C (zn κ) Q a0 a1 a2 a3 κ) : zRun C 7 mOd_rowsAgree [.ref a0, .int a1, .int a2, .int a3] κ (oI Q noX) := z_run (m_ent _ 3) (t_Od_rowsAgree_0 (W.lo (Nat.le_trans W.1.2.1 W.1.2.2) (Nat.le_refl _)) Ta0 F)

theorem dX6_tablesAgree_0 : decode cX6_tablesAgree 0 = .ok (.iconst 0, 1) := by decide +kernel
theorem dX6_tablesAgree_1 : decode cX6_tablesAgree 1 = .ok (.istore_n 1, 1) := by decide +kernel
theorem dX6_tablesAgree_2 : decode cX6_tablesAgree 2 = .ok (.iload_n 1, 1) := by decide +kernel
theorem dX6_tablesAgree_3 : decode cX6_tablesAgree 3 = .ok (.aload_n 0, 1) := by decide +kernel
theorem dX6_tablesAgree_4 : decode cX6_tablesAgree 4 = .ok (.getfield 37, 3) := by decide +kernel
theorem dX6_tablesAgree_7 : decode cX6_tablesAgree 7 = .ok (.getfield 128, 3) := by decide +kernel
theorem dX6_tablesAgree_10 : decode cX6_tablesAgree 10 = .ok (.if_icmp .ge 73, 3) := by decide +kernel
theorem dX6_tablesAgree_13 : decode cX6_tablesAgree 13 = .ok (.aload_n 0, 1) := by decide +kernel
theorem dX6_tablesAgree_14 : decode cX6_tablesAgree 14 = .ok (.getfield 37, 3) := by decide +kernel
theorem dX6_tablesAgree_17 : decode cX6_tablesAgree 17 = .ok (.iload_n 1, 1) := by decide +kernel
theorem dX6_tablesAgree_18 : decode cX6_tablesAgree 18 = .ok (.iconst 0, 1) := by decide +kernel
theorem dX6_tablesAgree_19 : decode cX6_tablesAgree 19 = .ok (.invokevirtual 89, 3) := by decide +kernel
theorem dX6_tablesAgree_22 : decode cX6_tablesAgree 22 = .ok (.ifCond .ne 55, 3) := by decide +kernel
theorem dX6_tablesAgree_25 : decode cX6_tablesAgree 25 = .ok (.aload_n 0, 1) := by decide +kernel
theorem dX6_tablesAgree_26 : decode cX6_tablesAgree 26 = .ok (.getfield 45, 3) := by decide +kernel
theorem dX6_tablesAgree_29 : decode cX6_tablesAgree 29 = .ok (.iload_n 1, 1) := by decide +kernel
theorem dX6_tablesAgree_30 : decode cX6_tablesAgree 30 = .ok (.iaload, 1) := by decide +kernel
theorem dX6_tablesAgree_31 : decode cX6_tablesAgree 31 = .ok (.aload_n 0, 1) := by decide +kernel
theorem dX6_tablesAgree_32 : decode cX6_tablesAgree 32 = .ok (.getfield 48, 3) := by decide +kernel
theorem dX6_tablesAgree_35 : decode cX6_tablesAgree 35 = .ok (.iload_n 1, 1) := by decide +kernel
theorem dX6_tablesAgree_36 : decode cX6_tablesAgree 36 = .ok (.iaload, 1) := by decide +kernel
theorem dX6_tablesAgree_37 : decode cX6_tablesAgree 37 = .ok (.invokestatic 183, 3) := by decide +kernel
theorem dX6_tablesAgree_40 : decode cX6_tablesAgree 40 = .ok (.istore_n 2, 1) := by decide +kernel
theorem dX6_tablesAgree_41 : decode cX6_tablesAgree 41 = .ok (.iload_n 2, 1) := by decide +kernel
theorem dX6_tablesAgree_42 : decode cX6_tablesAgree 42 = .ok (.iconst 1, 1) := by decide +kernel
theorem dX6_tablesAgree_43 : decode cX6_tablesAgree 43 = .ok (.if_icmp .le 34, 3) := by decide +kernel
theorem dX6_tablesAgree_46 : decode cX6_tablesAgree 46 = .ok (.aload_n 0, 1) := by decide +kernel
theorem dX6_tablesAgree_47 : decode cX6_tablesAgree 47 = .ok (.aload_n 0, 1) := by decide +kernel
theorem dX6_tablesAgree_48 : decode cX6_tablesAgree 48 = .ok (.getfield 51, 3) := by decide +kernel
theorem dX6_tablesAgree_51 : decode cX6_tablesAgree 51 = .ok (.iload_n 1, 1) := by decide +kernel
theorem dX6_tablesAgree_52 : decode cX6_tablesAgree 52 = .ok (.iaload, 1) := by decide +kernel
theorem dX6_tablesAgree_53 : decode cX6_tablesAgree 53 = .ok (.aload_n 0, 1) := by decide +kernel
theorem dX6_tablesAgree_54 : decode cX6_tablesAgree 54 = .ok (.getfield 45, 3) := by decide +kernel
theorem dX6_tablesAgree_57 : decode cX6_tablesAgree 57 = .ok (.iload_n 1, 1) := by decide +kernel
theorem dX6_tablesAgree_58 : decode cX6_tablesAgree 58 = .ok (.iaload, 1) := by decide +kernel
theorem dX6_tablesAgree_59 : decode cX6_tablesAgree 59 = .ok (.aload_n 0, 1) := by decide +kernel
theorem dX6_tablesAgree_60 : decode cX6_tablesAgree 60 = .ok (.getfield 48, 3) := by decide +kernel
theorem dX6_tablesAgree_63 : decode cX6_tablesAgree 63 = .ok (.iload_n 1, 1) := by decide +kernel
theorem dX6_tablesAgree_64 : decode cX6_tablesAgree 64 = .ok (.iaload, 1) := by decide +kernel
theorem dX6_tablesAgree_65 : decode cX6_tablesAgree 65 = .ok (.invokestatic 224, 3) := by decide +kernel
theorem dX6_tablesAgree_68 : decode cX6_tablesAgree 68 = .ok (.iload_n 2, 1) := by decide +kernel
theorem dX6_tablesAgree_69 : decode cX6_tablesAgree 69 = .ok (.invokevirtual 231, 3) := by decide +kernel
theorem dX6_tablesAgree_72 : decode cX6_tablesAgree 72 = .ok (.ifCond .ne 5, 3) := by decide +kernel
theorem dX6_tablesAgree_75 : decode cX6_tablesAgree 75 = .ok (.iconst 0, 1) := by decide +kernel
theorem dX6_tablesAgree_76 : decode cX6_tablesAgree 76 = .ok (.ireturn, 1) := by decide +kernel
theorem dX6_tablesAgree_77 : decode cX6_tablesAgree 77 = .ok (.iinc 1 1, 3) := by decide +kernel
theorem dX6_tablesAgree_80 : decode cX6_tablesAgree 80 = .ok (.goto (-78), 3) := by decide +kernel
theorem dX6_tablesAgree_83 : decode cX6_tablesAgree 83 = .ok (.iconst 1, 1) := by decide +kernel
theorem dX6_tablesAgree_84 : decode cX6_tablesAgree 84 = .ok (.ireturn, 1) := by decide +kernel
def w_Od_tablesAgree_2 (C : zC) (n0 : Nat) (Q : Int32 → zS → Prop)  (a0 : Nat) (a1 : Int32) (κ : zS) : Prop :=
  ∃ I : Nat → Nat → Int32 → zS → Prop, (∃ n, I n a0 a1 κ) ∧ ∀ n a0 a1 κ, zW C n0 κ → zT κ a0 = 9 → I n a0 a1 κ →
    ((zI κ hoTotal (zR κ odGroups a0)) ≤ a1 →
      Q (1 : Int32) κ) ∧
    (¬ (zI κ hoTotal (zR κ odGroups a0)) ≤ a1 →
      ∀ _ : zT κ (zR κ odGroups a0) = 6,
      zRun C 1 mHo_part [.ref (zR κ odGroups a0), .int a1, .int (0 : Int32)] κ (oI (fun r2 κ1 =>
        ∀ _ : zW C n0 κ1,
        ∀ _ : zM (zn κ) κ κ1,
        (¬ r2 = (0 : Int32) →
          ∀ v1_4 : Int32, v1_4 = a1 + (1 : Int32) →
          ∃ k < n, I k a0 v1_4 κ1) ∧
        (r2 = (0 : Int32) →
          inb a1 (zN κ1 (zR κ1 odLefts a0)) ∧
          inb a1 (zN κ1 (zR κ1 odRights a0)) ∧
          ∀ v2_7 : Int32, v2_7 = (if (zA κ1 (zR κ1 odRights a0) (a1).toNatClampNeg) < (zA κ1 (zR κ1 odLefts a0) (a1).toNatClampNeg) then (zA κ1 (zR κ1 odRights a0) (a1).toNatClampNeg) else (zA κ1 (zR κ1 odLefts a0) (a1).toNatClampNeg)) →
          (v2_7 ≤ (1 : Int32) →
            ∀ v1_8 : Int32, v1_8 = a1 + (1 : Int32) →
            ∃ k < n, I k a0 v1_8 κ1) ∧
          (¬ v2_7 ≤ (1 : Int32) →
            inb a1 (zN κ1 (zR κ1 odBases a0)) ∧
            inb a1 (zN κ1 (zR κ1 odLefts a0)) ∧
            inb a1 (zN κ1 (zR κ1 odRights a0)) ∧
            ∀ _ : zT κ1 a0 = 9,
            zRun C 7 mOd_rowsAgree [.ref a0, .int (zA κ1 (zR κ1 odBases a0) (a1).toNatClampNeg), .int (if (zA κ1 (zR κ1 odLefts a0) (a1).toNatClampNeg) < (zA κ1 (zR κ1 odRights a0) (a1).toNatClampNeg) then (zA κ1 (zR κ1 odRights a0) (a1).toNatClampNeg) else (zA κ1 (zR κ1 odLefts a0) (a1).toNatClampNeg)), .int v2_7] κ1 (oI (fun r10 κ9 =>
              ∀ _ : zW C n0 κ9,
              ∀ _ : zM (zn κ1) κ1 κ9,
              (¬ r10 = (0 : Int32) →
                ∀ v1_12 : Int32, v1_12 = a1 + (1 : Int32) →
                ∃ k < n, I k a0 v1_12 κ9) ∧
              (r10 = (0 : Int32) →
                Q (0 : Int32) κ9)) noX)))) noX))
theorem t_Od_tablesAgree_2 {C : zC} {n0 : Nat} {Q : Int32 → zS → Prop}   {a0 : Nat} {a1 : Int32} {κ : zS} (W : zW C n0 κ) (Ta0 : zT κ a0 = 9) (F : w_Od_tablesAgree_2 C n0 Q  a0 a1 κ) : zG C n0 8 mOd_tablesAgree 2 [some (.ref a0), some (.int a1), none] [] κ (oI Q noX) := by
  obtain ⟨I, ⟨m0, hI0⟩, F0⟩ := F
  have key : ∀ n a0 a1 κ, zW C n0 κ → zT κ a0 = 9 → I n a0 a1 κ → zG C n0 8 mOd_tablesAgree 2 [some (.ref a0), some (.int a1), none] [] κ (oI Q noX) := by
    intro n
    induction n using Nat.strongRecOn with
    | _ n ih =>
      intro a0 a1 κ W Ta0 hI
      have F := F0 n a0 a1 κ W Ta0 hI
      clear hI hI0
      refine y_iln dX6_tablesAgree_2 rfl ?_
      refine y_aln dX6_tablesAgree_3 rfl ?_
      refine gf_X6_37 W dX6_tablesAgree_4 rfl Ta0 ?_
      refine gf_X6_128 dX6_tablesAgree_7 rfl (Or.inl (ty_odGroups W Ta0)) ?_
      refine y_ii ((zI κ hoTotal (zR κ odGroups a0)) ≤ a1) dX6_tablesAgree_10 (t := 83) rfl rfl (fun c9 => ?_) (fun c9 => ?_)
      · replace F := F.1 c9
        refine y_ic dX6_tablesAgree_83 zi_1 ?_
        exact y_ri W dX6_tablesAgree_84 rfl (nb_nar nb_1) F
      · replace F := F.2 c9
        refine y_aln dX6_tablesAgree_13 rfl ?_
        refine gf_X6_37 W dX6_tablesAgree_14 rfl Ta0 ?_
        refine y_iln dX6_tablesAgree_17 rfl ?_
        refine y_ic dX6_tablesAgree_18 zi_0 ?_
        replace F := F (ty_odGroups W Ta0)
        refine k_X6_89 W dX6_tablesAgree_19 rfl (Nat.le_of_ble_eq_true rfl) (Nat.le_of_ble_eq_true rfl) (Or.inl (ty_odGroups W Ta0)) F (fun r2 κ1 Wκ1 Mκ1 F => ?_) (fun _ _ h9 => False.elim h9)
        replace F := F Wκ1 Mκ1
        refine y_in (r2 = (0 : Int32)) dX6_tablesAgree_22 (t := 77) rfl rfl (fun c9 => ?_) (fun c9 => ?_)
        · replace F := F.1 c9
          refine y_incb dX6_tablesAgree_77 zi_1 rfl (Nat.le_of_ble_eq_true rfl) (fun v1_4 ev1_4 => ?_)
          replace F := F v1_4 ev1_4
          show zG _ _ _ _ _ [some (.ref a0), some (.int v1_4), none] _ _ _
          refine y_goto dX6_tablesAgree_80 (t := 2) rfl ?_
          have h5 := (ztm W Mκ1 Ta0)
          obtain ⟨k, hk, hI⟩ := F
          exact y_k (ih k hk _ _ _ Wκ1 h5 hI) ⟨rfl, rfl, trivial⟩
        · replace F := F.2 c9
          refine y_aln dX6_tablesAgree_25 rfl ?_
          have h6 := (ztm W Mκ1 Ta0)
          refine gf_X6_45 Wκ1 dX6_tablesAgree_26 rfl h6 ?_
          refine y_iln dX6_tablesAgree_29 rfl ?_
          refine y_ald dX6_tablesAgree_30 (ty_odLefts Wκ1 h6) F.1 ?_
          replace F := F.2
          refine y_aln dX6_tablesAgree_31 rfl ?_
          refine gf_X6_48 Wκ1 dX6_tablesAgree_32 rfl h6 ?_
          refine y_iln dX6_tablesAgree_35 rfl ?_
          refine y_ald dX6_tablesAgree_36 (ty_odRights Wκ1 h6) F.1 ?_
          replace F := F.2
          refine y_min dX6_tablesAgree_37 rfl zbi_X6_183 (Nat.le_of_ble_eq_true rfl) (Nat.le_of_ble_eq_true rfl) ?_
          refine y_isnb dX6_tablesAgree_40 (Nat.le_of_ble_eq_true rfl) (fun v2_7 ev2_7 => ?_)
          replace F := F v2_7 ev2_7
          show zG _ _ _ _ _ [some (.ref a0), some (.int a1), some (.int v2_7)] _ _ _
          refine y_iln dX6_tablesAgree_41 rfl ?_
          refine y_ic dX6_tablesAgree_42 zi_1 ?_
          refine y_ii (v2_7 ≤ (1 : Int32)) dX6_tablesAgree_43 (t := 77) rfl rfl (fun c9 => ?_) (fun c9 => ?_)
          · replace F := F.1 c9
            refine y_incb dX6_tablesAgree_77 zi_1 rfl (Nat.le_of_ble_eq_true rfl) (fun v1_8 ev1_8 => ?_)
            replace F := F v1_8 ev1_8
            show zG _ _ _ _ _ [some (.ref a0), some (.int v1_8), some (.int v2_7)] _ _ _
            refine y_goto dX6_tablesAgree_80 (t := 2) rfl ?_
            obtain ⟨k, hk, hI⟩ := F
            exact y_k (ih k hk _ _ _ Wκ1 h6 hI) ⟨rfl, rfl, trivial⟩
          · replace F := F.2 c9
            refine y_aln dX6_tablesAgree_46 rfl ?_
            refine y_aln dX6_tablesAgree_47 rfl ?_
            refine gf_X6_51 Wκ1 dX6_tablesAgree_48 rfl h6 ?_
            refine y_iln dX6_tablesAgree_51 rfl ?_
            refine y_ald dX6_tablesAgree_52 (ty_odBases Wκ1 h6) F.1 ?_
            replace F := F.2
            refine y_aln dX6_tablesAgree_53 rfl ?_
            refine gf_X6_45 Wκ1 dX6_tablesAgree_54 rfl h6 ?_
            refine y_iln dX6_tablesAgree_57 rfl ?_
            refine y_ald dX6_tablesAgree_58 (ty_odLefts Wκ1 h6) F.1 ?_
            replace F := F.2
            refine y_aln dX6_tablesAgree_59 rfl ?_
            refine gf_X6_48 Wκ1 dX6_tablesAgree_60 rfl h6 ?_
            refine y_iln dX6_tablesAgree_63 rfl ?_
            refine y_ald dX6_tablesAgree_64 (ty_odRights Wκ1 h6) F.1 ?_
            replace F := F.2
            refine y_max dX6_tablesAgree_65 rfl zbi_X6_224 (Nat.le_of_ble_eq_true rfl) (Nat.le_of_ble_eq_true rfl) ?_
            refine y_iln dX6_tablesAgree_68 rfl ?_
            replace F := F h6
            refine k_X6_231 Wκ1 dX6_tablesAgree_69 rfl (Nat.le_of_ble_eq_true rfl) (Nat.le_of_ble_eq_true rfl) (Or.inl h6) F (fun r10 κ9 Wκ9 Mκ9 F => ?_) (fun _ _ h9 => False.elim h9)
            replace F := F Wκ9 Mκ9
            refine y_in (r10 = (0 : Int32)) dX6_tablesAgree_72 (t := 77) rfl rfl (fun c9 => ?_) (fun c9 => ?_)
            · replace F := F.1 c9
              refine y_incb dX6_tablesAgree_77 zi_1 rfl (Nat.le_of_ble_eq_true rfl) (fun v1_12 ev1_12 => ?_)
              replace F := F v1_12 ev1_12
              show zG _ _ _ _ _ [some (.ref a0), some (.int v1_12), some (.int v2_7)] _ _ _
              refine y_goto dX6_tablesAgree_80 (t := 2) rfl ?_
              have h13 := (ztm Wκ1 Mκ9 h6)
              obtain ⟨k, hk, hI⟩ := F
              exact y_k (ih k hk _ _ _ Wκ9 h13 hI) ⟨rfl, rfl, trivial⟩
            · replace F := F.2 c9
              refine y_ic dX6_tablesAgree_75 zi_0 ?_
              exact y_ri Wκ9 dX6_tablesAgree_76 rfl (nb_nar nb_0) F
  exact key m0 a0 a1 κ W Ta0 hI0

def w_Od_tablesAgree_0 (C : zC) (n0 : Nat) (Q : Int32 → zS → Prop)  (a0 : Nat) (κ : zS) : Prop :=
  w_Od_tablesAgree_2 C n0 Q  a0 (0 : Int32) κ
theorem t_Od_tablesAgree_0 {C : zC} {n0 : Nat} {Q : Int32 → zS → Prop}   {a0 : Nat} {κ : zS} (W : zW C n0 κ) (Ta0 : zT κ a0 = 9) (F : w_Od_tablesAgree_0 C n0 Q  a0 κ) : zG C n0 8 mOd_tablesAgree 0 [some (.ref a0), none, none] [] κ (oI Q noX) := by
  unfold w_Od_tablesAgree_0 at F
  refine y_ic dX6_tablesAgree_0 zi_0 ?_
  refine y_isn dX6_tablesAgree_1 (Nat.le_of_ble_eq_true rfl) rfl ?_
  show zG _ _ _ _ _ [some (.ref a0), some (.int (0 : Int32)), none] _ _ _
  exact y_k (t_Od_tablesAgree_2  W Ta0 F) ⟨rfl, rfl, trivial⟩

theorem Od_tablesAgree_run {C : zC} {n0 : Nat} {Q : Int32 → zS → Prop} {a0 : Nat} {κ : zS} (W : zW C n0 κ) (Ta0 : zT κ a0 = 9) (F : w_Od_tablesAgree_0 C (zn κ) Q a0 κ) : zRun C 8 mOd_tablesAgree [.ref a0] κ (oI Q noX) := z_run (m_ent _ 2) (t_Od_tablesAgree_0 (W.lo (Nat.le_trans W.1.2.1 W.1.2.2) (Nat.le_refl _)) Ta0 F)

theorem dX7_init_0 : decode cX7_init 0 = .ok (.aload_n 0, 1) := by decide +kernel
theorem dX7_init_1 : decode cX7_init 1 = .ok (.invokespecial 3, 3) := by decide +kernel
theorem dX7_init_4 : decode cX7_init 4 = .ok (.aload_n 0, 1) := by decide +kernel
theorem dX7_init_5 : decode cX7_init 5 = .ok (.aload_n 1, 1) := by decide +kernel
theorem dX7_init_6 : decode cX7_init 6 = .ok (.putfield 9, 3) := by decide +kernel
theorem dX7_init_9 : decode cX7_init 9 = .ok (.aload_n 0, 1) := by decide +kernel
theorem dX7_init_10 : decode cX7_init 10 = .ok (.aload_n 2, 1) := by decide +kernel
theorem dX7_init_11 : decode cX7_init 11 = .ok (.putfield 15, 3) := by decide +kernel
theorem dX7_init_14 : decode cX7_init 14 = .ok (.aload_n 0, 1) := by decide +kernel
theorem dX7_init_15 : decode cX7_init 15 = .ok (.bipush 10, 2) := by decide +kernel
theorem dX7_init_17 : decode cX7_init 17 = .ok (.newarray .int, 2) := by decide +kernel
theorem dX7_init_19 : decode cX7_init 19 = .ok (.putfield 19, 3) := by decide +kernel
theorem dX7_init_22 : decode cX7_init 22 = .ok (.aload_n 0, 1) := by decide +kernel
theorem dX7_init_23 : decode cX7_init 23 = .ok (.iconst 3, 1) := by decide +kernel
theorem dX7_init_24 : decode cX7_init 24 = .ok (.newarray .int, 2) := by decide +kernel
theorem dX7_init_26 : decode cX7_init 26 = .ok (.putfield 23, 3) := by decide +kernel
theorem dX7_init_29 : decode cX7_init 29 = .ok (.aload_n 0, 1) := by decide +kernel
theorem dX7_init_30 : decode cX7_init 30 = .ok (.bipush 10, 2) := by decide +kernel
theorem dX7_init_32 : decode cX7_init 32 = .ok (.newarray .int, 2) := by decide +kernel
theorem dX7_init_34 : decode cX7_init 34 = .ok (.putfield 26, 3) := by decide +kernel
theorem dX7_init_37 : decode cX7_init 37 = .ok (.aload_n 0, 1) := by decide +kernel
theorem dX7_init_38 : decode cX7_init 38 = .ok (.bipush 8, 2) := by decide +kernel
theorem dX7_init_40 : decode cX7_init 40 = .ok (.newarray .int, 2) := by decide +kernel
theorem dX7_init_42 : decode cX7_init 42 = .ok (.putfield 29, 3) := by decide +kernel
theorem dX7_init_45 : decode cX7_init 45 = .ok (.aload_n 0, 1) := by decide +kernel
theorem dX7_init_46 : decode cX7_init 46 = .ok (.bipush 41, 2) := by decide +kernel
theorem dX7_init_48 : decode cX7_init 48 = .ok (.newarray .int, 2) := by decide +kernel
theorem dX7_init_50 : decode cX7_init 50 = .ok (.putfield 32, 3) := by decide +kernel
theorem dX7_init_53 : decode cX7_init 53 = .ok (.aload_n 0, 1) := by decide +kernel
theorem dX7_init_54 : decode cX7_init 54 = .ok (.bipush 41, 2) := by decide +kernel
theorem dX7_init_56 : decode cX7_init 56 = .ok (.newarray .int, 2) := by decide +kernel
theorem dX7_init_58 : decode cX7_init 58 = .ok (.putfield 35, 3) := by decide +kernel
theorem dX7_init_61 : decode cX7_init 61 = .ok (.aload_n 0, 1) := by decide +kernel
theorem dX7_init_62 : decode cX7_init 62 = .ok (.bipush 41, 2) := by decide +kernel
theorem dX7_init_64 : decode cX7_init 64 = .ok (.newarray .boolean, 2) := by decide +kernel
theorem dX7_init_66 : decode cX7_init 66 = .ok (.putfield 38, 3) := by decide +kernel
theorem dX7_init_69 : decode cX7_init 69 = .ok (.aload_n 0, 1) := by decide +kernel
theorem dX7_init_70 : decode cX7_init 70 = .ok (.bipush 16, 2) := by decide +kernel
theorem dX7_init_72 : decode cX7_init 72 = .ok (.newarray .int, 2) := by decide +kernel
theorem dX7_init_74 : decode cX7_init 74 = .ok (.putfield 42, 3) := by decide +kernel
theorem dX7_init_77 : decode cX7_init 77 = .ok (.return_, 1) := by decide +kernel
def w_Pa_init_0 (C : zC) (n0 : Nat) (Q : zS → Prop)  (a0 : Nat) (a1 : Nat) (a2 : Nat) (κ : zS) : Prop :=
  ∀ κ1, κ1 = ur κ paTape a0 a1 →
  ∀ _ : zW C n0 κ1,
  ∀ κ2, κ2 = ur κ1 paCode a0 a2 →
  ∀ _ : zW C n0 κ2,
  nsz (10 : Int32) ∧
  ∀ κ5, κ5 = na κ2 20 ((10 : Int32)).toNatClampNeg →
  ∀ _ : zW C n0 κ5,
  zO κ5 (zn κ2) = (0, 0) ∧
  ∀ κ8, κ8 = uo κ5 paVarNames a0 (zn κ2) →
  ∀ _ : zW C n0 κ8,
  nsz (3 : Int32) ∧
  ∀ κ11, κ11 = na κ8 20 ((3 : Int32)).toNatClampNeg →
  ∀ _ : zW C n0 κ11,
  zO κ11 (zn κ8) = (0, 0) ∧
  ∀ κ14, κ14 = uo κ11 paArrayNames a0 (zn κ8) →
  ∀ _ : zW C n0 κ14,
  nsz (10 : Int32) ∧
  ∀ κ17, κ17 = na κ14 20 ((10 : Int32)).toNatClampNeg →
  ∀ _ : zW C n0 κ17,
  zO κ17 (zn κ14) = (0, 0) ∧
  ∀ κ20, κ20 = uo κ17 paFunctionNames a0 (zn κ14) →
  ∀ _ : zW C n0 κ20,
  nsz (8 : Int32) ∧
  ∀ κ23, κ23 = na κ20 20 ((8 : Int32)).toNatClampNeg →
  ∀ _ : zW C n0 κ23,
  zO κ23 (zn κ20) = (0, 0) ∧
  ∀ κ26, κ26 = uo κ23 paOwnNames a0 (zn κ20) →
  ∀ _ : zW C n0 κ26,
  nsz (41 : Int32) ∧
  ∀ κ29, κ29 = na κ26 20 ((41 : Int32)).toNatClampNeg →
  ∀ _ : zW C n0 κ29,
  zO κ29 (zn κ26) = (0, 0) ∧
  ∀ κ32, κ32 = uo κ29 paOwners a0 (zn κ26) →
  ∀ _ : zW C n0 κ32,
  nsz (41 : Int32) ∧
  ∀ κ35, κ35 = na κ32 20 ((41 : Int32)).toNatClampNeg →
  ∀ _ : zW C n0 κ35,
  zO κ35 (zn κ32) = (0, 0) ∧
  ∀ κ38, κ38 = uo κ35 paLasts a0 (zn κ32) →
  ∀ _ : zW C n0 κ38,
  nsz (41 : Int32) ∧
  ∀ κ41, κ41 = na κ38 23 ((41 : Int32)).toNatClampNeg →
  ∀ _ : zW C n0 κ41,
  zO κ41 (zn κ38) = (0, 0) ∧
  ∀ κ44, κ44 = uo κ41 paElses a0 (zn κ38) →
  ∀ _ : zW C n0 κ44,
  nsz (16 : Int32) ∧
  ∀ κ47, κ47 = na κ44 20 ((16 : Int32)).toNatClampNeg →
  ∀ _ : zW C n0 κ47,
  zO κ47 (zn κ44) = (0, 0) ∧
  ∀ κ50, κ50 = uo κ47 paWaiting a0 (zn κ44) →
  ∀ _ : zW C n0 κ50,
  Q κ50
theorem t_Pa_init_0 {C : zC} {n0 : Nat} {Q : zS → Prop}   {a0 : Nat} {a1 : Nat} {a2 : Nat} {κ : zS} (W : zW C n0 κ) (Ta0 : zT κ a0 = 50) (Ta1 : zT κ a1 = 13) (Ta2 : zT κ a2 = 5) (F : w_Pa_init_0 C n0 Q  a0 a1 a2 κ) : zG C n0 1 mPa_init 0 [some (.ref a0), some (.ref a1), some (.ref a2)] [] κ (oV Q noX) := by
  unfold w_Pa_init_0 at F
  refine y_aln dX7_init_0 rfl ?_
  refine y_oinit dX7_init_1 rfl zbi_X7_3 (Nat.le_of_ble_eq_true rfl) (Nat.le_of_ble_eq_true rfl) ?_
  refine y_aln dX7_init_4 rfl ?_
  refine y_aln dX7_init_5 rfl ?_
  refine pf_X7_9 W dX7_init_6 rfl rfl (Or.inr Ta0) Ta1 (fun κ1 eκ1 => ?_)
  replace F := F κ1 eκ1
  have Wκ1 : zW C n0 κ1 := zW_ur W eκ1 (fun t ht => by cases ht; exact ⟨by decide, Ta1⟩)
  have Mκ1 : zM (zn κ) κ κ1 := by rw [eκ1]; exact zM.of rfl rfl rfl
  replace F := F Wκ1
  refine y_aln dX7_init_9 rfl ?_
  refine y_aln dX7_init_10 rfl ?_
  have h3 := (ztm W Mκ1 Ta2)
  have h4 := (ztm W Mκ1 Ta0)
  refine pf_X7_15 Wκ1 dX7_init_11 rfl (Or.inr h4) h3 (fun κ2 eκ2 => ?_)
  replace F := F κ2 eκ2
  have Wκ2 : zW C n0 κ2 := zW_ur Wκ1 eκ2 (fun t ht => by cases ht; exact ⟨by decide, h3⟩)
  have Mκ2 : zM (zn κ1) κ1 κ2 := by rw [eκ2]; exact zM.of rfl rfl rfl
  replace F := F Wκ2
  refine y_aln dX7_init_14 rfl ?_
  refine y_bi1 dX7_init_15 zb_10 ?_
  have b6 := F.1
  refine y_newa (t := 0) Wκ2 dX7_init_17 (by decide) b6 (fun κ5 eκ5 => ?_)
  replace F := F.2 κ5 eκ5
  have Wκ5 : zW C n0 κ5 := zW_na Wκ2 eκ5 (by decide) (by decide) b6.2
  have Mκ5 : zM (zn κ2) κ2 κ5 := zM_na (Wκ2.lo (Nat.le_trans Wκ2.1.2.1 Wκ2.1.2.2) (Nat.le_refl _)) eκ5
  replace F := F Wκ5
  have g7 : zT κ5 (zn κ2) = 20 := by rw [eκ5]; exact if_pos rfl
  have b9 := F.1
  replace F := F.2
  have h10 := (ztm Wκ2 Mκ5 (ztm Wκ1 Mκ2 h4))
  refine pf_X7_19 Wκ5 dX7_init_19 rfl rfl (Or.inr h10) g7 (fun κ8 eκ8 => ?_)
  replace F := F κ8 eκ8
  have Wκ8 : zW C n0 κ8 := zW_uo Wκ5 eκ8 (fun t ht => by cases ht; exact g7) b9
  have Mκ8 : zM (zn κ5) κ5 κ8 := by rw [eκ8]; exact zM.of rfl rfl rfl
  replace F := F Wκ8
  refine y_aln dX7_init_22 rfl ?_
  refine y_ic dX7_init_23 zi_3 ?_
  have b12 := F.1
  refine y_newa (t := 0) Wκ8 dX7_init_24 (by decide) b12 (fun κ11 eκ11 => ?_)
  replace F := F.2 κ11 eκ11
  have Wκ11 : zW C n0 κ11 := zW_na Wκ8 eκ11 (by decide) (by decide) b12.2
  have Mκ11 : zM (zn κ8) κ8 κ11 := zM_na (Wκ8.lo (Nat.le_trans Wκ8.1.2.1 Wκ8.1.2.2) (Nat.le_refl _)) eκ11
  replace F := F Wκ11
  have g13 : zT κ11 (zn κ8) = 20 := by rw [eκ11]; exact if_pos rfl
  have b15 := F.1
  replace F := F.2
  have h16 := (ztm Wκ8 Mκ11 (ztm Wκ5 Mκ8 h10))
  refine pf_X7_23 Wκ11 dX7_init_26 rfl rfl (Or.inr h16) g13 (fun κ14 eκ14 => ?_)
  replace F := F κ14 eκ14
  have Wκ14 : zW C n0 κ14 := zW_uo Wκ11 eκ14 (fun t ht => by cases ht; exact g13) b15
  have Mκ14 : zM (zn κ11) κ11 κ14 := by rw [eκ14]; exact zM.of rfl rfl rfl
  replace F := F Wκ14
  refine y_aln dX7_init_29 rfl ?_
  refine y_bi1 dX7_init_30 zb_10 ?_
  have b18 := F.1
  refine y_newa (t := 0) Wκ14 dX7_init_32 (by decide) b18 (fun κ17 eκ17 => ?_)
  replace F := F.2 κ17 eκ17
  have Wκ17 : zW C n0 κ17 := zW_na Wκ14 eκ17 (by decide) (by decide) b18.2
  have Mκ17 : zM (zn κ14) κ14 κ17 := zM_na (Wκ14.lo (Nat.le_trans Wκ14.1.2.1 Wκ14.1.2.2) (Nat.le_refl _)) eκ17
  replace F := F Wκ17
  have g19 : zT κ17 (zn κ14) = 20 := by rw [eκ17]; exact if_pos rfl
  have b21 := F.1
  replace F := F.2
  have h22 := (ztm Wκ14 Mκ17 (ztm Wκ11 Mκ14 h16))
  refine pf_X7_26 Wκ17 dX7_init_34 rfl rfl (Or.inr h22) g19 (fun κ20 eκ20 => ?_)
  replace F := F κ20 eκ20
  have Wκ20 : zW C n0 κ20 := zW_uo Wκ17 eκ20 (fun t ht => by cases ht; exact g19) b21
  have Mκ20 : zM (zn κ17) κ17 κ20 := by rw [eκ20]; exact zM.of rfl rfl rfl
  replace F := F Wκ20
  refine y_aln dX7_init_37 rfl ?_
  refine y_bi1 dX7_init_38 zb_8 ?_
  have b24 := F.1
  refine y_newa (t := 0) Wκ20 dX7_init_40 (by decide) b24 (fun κ23 eκ23 => ?_)
  replace F := F.2 κ23 eκ23
  have Wκ23 : zW C n0 κ23 := zW_na Wκ20 eκ23 (by decide) (by decide) b24.2
  have Mκ23 : zM (zn κ20) κ20 κ23 := zM_na (Wκ20.lo (Nat.le_trans Wκ20.1.2.1 Wκ20.1.2.2) (Nat.le_refl _)) eκ23
  replace F := F Wκ23
  have g25 : zT κ23 (zn κ20) = 20 := by rw [eκ23]; exact if_pos rfl
  have b27 := F.1
  replace F := F.2
  have h28 := (ztm Wκ20 Mκ23 (ztm Wκ17 Mκ20 h22))
  refine pf_X7_29 Wκ23 dX7_init_42 rfl rfl (Or.inr h28) g25 (fun κ26 eκ26 => ?_)
  replace F := F κ26 eκ26
  have Wκ26 : zW C n0 κ26 := zW_uo Wκ23 eκ26 (fun t ht => by cases ht; exact g25) b27
  have Mκ26 : zM (zn κ23) κ23 κ26 := by rw [eκ26]; exact zM.of rfl rfl rfl
  replace F := F Wκ26
  refine y_aln dX7_init_45 rfl ?_
  refine y_bi1 dX7_init_46 zb_41 ?_
  have b30 := F.1
  refine y_newa (t := 0) Wκ26 dX7_init_48 (by decide) b30 (fun κ29 eκ29 => ?_)
  replace F := F.2 κ29 eκ29
  have Wκ29 : zW C n0 κ29 := zW_na Wκ26 eκ29 (by decide) (by decide) b30.2
  have Mκ29 : zM (zn κ26) κ26 κ29 := zM_na (Wκ26.lo (Nat.le_trans Wκ26.1.2.1 Wκ26.1.2.2) (Nat.le_refl _)) eκ29
  replace F := F Wκ29
  have g31 : zT κ29 (zn κ26) = 20 := by rw [eκ29]; exact if_pos rfl
  have b33 := F.1
  replace F := F.2
  have h34 := (ztm Wκ26 Mκ29 (ztm Wκ23 Mκ26 h28))
  refine pf_X7_32 Wκ29 dX7_init_50 rfl rfl (Or.inr h34) g31 (fun κ32 eκ32 => ?_)
  replace F := F κ32 eκ32
  have Wκ32 : zW C n0 κ32 := zW_uo Wκ29 eκ32 (fun t ht => by cases ht; exact g31) b33
  have Mκ32 : zM (zn κ29) κ29 κ32 := by rw [eκ32]; exact zM.of rfl rfl rfl
  replace F := F Wκ32
  refine y_aln dX7_init_53 rfl ?_
  refine y_bi1 dX7_init_54 zb_41 ?_
  have b36 := F.1
  refine y_newa (t := 0) Wκ32 dX7_init_56 (by decide) b36 (fun κ35 eκ35 => ?_)
  replace F := F.2 κ35 eκ35
  have Wκ35 : zW C n0 κ35 := zW_na Wκ32 eκ35 (by decide) (by decide) b36.2
  have Mκ35 : zM (zn κ32) κ32 κ35 := zM_na (Wκ32.lo (Nat.le_trans Wκ32.1.2.1 Wκ32.1.2.2) (Nat.le_refl _)) eκ35
  replace F := F Wκ35
  have g37 : zT κ35 (zn κ32) = 20 := by rw [eκ35]; exact if_pos rfl
  have b39 := F.1
  replace F := F.2
  have h40 := (ztm Wκ32 Mκ35 (ztm Wκ29 Mκ32 h34))
  refine pf_X7_35 Wκ35 dX7_init_58 rfl rfl (Or.inr h40) g37 (fun κ38 eκ38 => ?_)
  replace F := F κ38 eκ38
  have Wκ38 : zW C n0 κ38 := zW_uo Wκ35 eκ38 (fun t ht => by cases ht; exact g37) b39
  have Mκ38 : zM (zn κ35) κ35 κ38 := by rw [eκ38]; exact zM.of rfl rfl rfl
  replace F := F Wκ38
  refine y_aln dX7_init_61 rfl ?_
  refine y_bi1 dX7_init_62 zb_41 ?_
  have b42 := F.1
  refine y_newa (t := 3) Wκ38 dX7_init_64 (by decide) b42 (fun κ41 eκ41 => ?_)
  replace F := F.2 κ41 eκ41
  have Wκ41 : zW C n0 κ41 := zW_na Wκ38 eκ41 (by decide) (by decide) b42.2
  have Mκ41 : zM (zn κ38) κ38 κ41 := zM_na (Wκ38.lo (Nat.le_trans Wκ38.1.2.1 Wκ38.1.2.2) (Nat.le_refl _)) eκ41
  replace F := F Wκ41
  have g43 : zT κ41 (zn κ38) = 23 := by rw [eκ41]; exact if_pos rfl
  have b45 := F.1
  replace F := F.2
  have h46 := (ztm Wκ38 Mκ41 (ztm Wκ35 Mκ38 h40))
  refine pf_X7_38 Wκ41 dX7_init_66 rfl rfl (Or.inr h46) g43 (fun κ44 eκ44 => ?_)
  replace F := F κ44 eκ44
  have Wκ44 : zW C n0 κ44 := zW_uo Wκ41 eκ44 (fun t ht => by cases ht; exact g43) b45
  have Mκ44 : zM (zn κ41) κ41 κ44 := by rw [eκ44]; exact zM.of rfl rfl rfl
  replace F := F Wκ44
  refine y_aln dX7_init_69 rfl ?_
  refine y_bi1 dX7_init_70 zb_16 ?_
  have b48 := F.1
  refine y_newa (t := 0) Wκ44 dX7_init_72 (by decide) b48 (fun κ47 eκ47 => ?_)
  replace F := F.2 κ47 eκ47
  have Wκ47 : zW C n0 κ47 := zW_na Wκ44 eκ47 (by decide) (by decide) b48.2
  have Mκ47 : zM (zn κ44) κ44 κ47 := zM_na (Wκ44.lo (Nat.le_trans Wκ44.1.2.1 Wκ44.1.2.2) (Nat.le_refl _)) eκ47
  replace F := F Wκ47
  have g49 : zT κ47 (zn κ44) = 20 := by rw [eκ47]; exact if_pos rfl
  have b51 := F.1
  replace F := F.2
  have h52 := (ztm Wκ44 Mκ47 (ztm Wκ41 Mκ44 h46))
  refine pf_X7_42 Wκ47 dX7_init_74 rfl (Or.inr h52) g49 (fun κ50 eκ50 => ?_)
  replace F := F κ50 eκ50
  have Wκ50 : zW C n0 κ50 := zW_uo Wκ47 eκ50 (fun t ht => by cases ht; exact g49) b51
  have Mκ50 : zM (zn κ47) κ47 κ50 := by rw [eκ50]; exact zM.of rfl rfl rfl
  replace F := F Wκ50
  exact y_rv Wκ50 dX7_init_77 rfl F

theorem Pa_init_run {C : zC} {n0 : Nat} {Q : zS → Prop} {a0 : Nat} {a1 : Nat} {a2 : Nat} {κ : zS} (W : zW C n0 κ) (Ta0 : zT κ a0 = 50) (Ta1 : zT κ a1 = 13) (Ta2 : zT κ a2 = 5) (F : w_Pa_init_0 C (zn κ) Q a0 a1 a2 κ) : zRun C 1 mPa_init [.ref a0, .ref a1, .ref a2] κ (oV Q noX) := z_run (m_ent _ 0) (t_Pa_init_0 (W.lo (Nat.le_trans W.1.2.1 W.1.2.2) (Nat.le_refl _)) Ta0 Ta1 Ta2 F)

theorem dX7_take_0 : decode cX7_take 0 = .ok (.aload_n 0, 1) := by decide +kernel
theorem dX7_take_1 : decode cX7_take 1 = .ok (.dup, 1) := by decide +kernel
theorem dX7_take_2 : decode cX7_take 2 = .ok (.getfield 55, 3) := by decide +kernel
theorem dX7_take_5 : decode cX7_take 5 = .ok (.iconst 1, 1) := by decide +kernel
theorem dX7_take_6 : decode cX7_take 6 = .ok (.iadd, 1) := by decide +kernel
theorem dX7_take_7 : decode cX7_take 7 = .ok (.putfield 55, 3) := by decide +kernel
theorem dX7_take_10 : decode cX7_take 10 = .ok (.aload_n 0, 1) := by decide +kernel
theorem dX7_take_11 : decode cX7_take 11 = .ok (.aload_n 0, 1) := by decide +kernel
theorem dX7_take_12 : decode cX7_take 12 = .ok (.getfield 55, 3) := by decide +kernel
theorem dX7_take_15 : decode cX7_take 15 = .ok (.ifCond .lt 32, 3) := by decide +kernel
theorem dX7_take_18 : decode cX7_take 18 = .ok (.aload_n 0, 1) := by decide +kernel
theorem dX7_take_19 : decode cX7_take 19 = .ok (.getfield 55, 3) := by decide +kernel
theorem dX7_take_22 : decode cX7_take 22 = .ok (.aload_n 0, 1) := by decide +kernel
theorem dX7_take_23 : decode cX7_take 23 = .ok (.getfield 9, 3) := by decide +kernel
theorem dX7_take_26 : decode cX7_take 26 = .ok (.getfield 75, 3) := by decide +kernel
theorem dX7_take_29 : decode cX7_take 29 = .ok (.if_icmp .ge 18, 3) := by decide +kernel
theorem dX7_take_32 : decode cX7_take 32 = .ok (.aload_n 0, 1) := by decide +kernel
theorem dX7_take_33 : decode cX7_take 33 = .ok (.getfield 9, 3) := by decide +kernel
theorem dX7_take_36 : decode cX7_take 36 = .ok (.getfield 101, 3) := by decide +kernel
theorem dX7_take_39 : decode cX7_take 39 = .ok (.aload_n 0, 1) := by decide +kernel
theorem dX7_take_40 : decode cX7_take 40 = .ok (.getfield 55, 3) := by decide +kernel
theorem dX7_take_43 : decode cX7_take 43 = .ok (.iaload, 1) := by decide +kernel
theorem dX7_take_44 : decode cX7_take 44 = .ok (.goto 6, 3) := by decide +kernel
theorem dX7_take_47 : decode cX7_take 47 = .ok (.sipush 142, 3) := by decide +kernel
theorem dX7_take_50 : decode cX7_take 50 = .ok (.putfield 78, 3) := by decide +kernel
theorem dX7_take_53 : decode cX7_take 53 = .ok (.return_, 1) := by decide +kernel
def w_Pa_take_0 (C : zC) (n0 : Nat) (Q : zS → Prop)  (a0 : Nat) (κ : zS) : Prop :=
  ∀ κ1, κ1 = ui κ paAt a0 ((zI κ paAt a0) + (1 : Int32)) →
  ∀ _ : zW C n0 κ1,
  ((zI κ1 paAt a0) < (0 : Int32) →
    ∀ κ3, κ3 = ui κ1 paKind a0 (142 : Int32) →
    ∀ _ : zW C n0 κ3,
    Q κ3) ∧
  (¬ (zI κ1 paAt a0) < (0 : Int32) →
    ((zI κ1 taTotal (zR κ1 paTape a0)) ≤ (zI κ1 paAt a0) →
      ∀ κ4, κ4 = ui κ1 paKind a0 (142 : Int32) →
      ∀ _ : zW C n0 κ4,
      Q κ4) ∧
    (¬ (zI κ1 taTotal (zR κ1 paTape a0)) ≤ (zI κ1 paAt a0) →
      inb (zI κ1 paAt a0) (zN κ1 (zR κ1 taKinds (zR κ1 paTape a0))) ∧
      ∀ κ5, κ5 = ui κ1 paKind a0 (zA κ1 (zR κ1 taKinds (zR κ1 paTape a0)) ((zI κ1 paAt a0)).toNatClampNeg) →
      ∀ _ : zW C n0 κ5,
      Q κ5))
theorem t_Pa_take_0 {C : zC} {n0 : Nat} {Q : zS → Prop}   {a0 : Nat} {κ : zS} (W : zW C n0 κ) (Ta0 : zT κ a0 = 10) (F : w_Pa_take_0 C n0 Q  a0 κ) : zG C n0 0 mPa_take 0 [some (.ref a0)] [] κ (oV Q noX) := by
  unfold w_Pa_take_0 at F
  refine y_aln dX7_take_0 rfl ?_
  refine y_dup dX7_take_1 rfl ?_
  refine gf_X7_55 dX7_take_2 rfl (Or.inl Ta0) ?_
  refine y_ic dX7_take_5 zi_1 ?_
  refine y_iadd dX7_take_6 ?_
  refine pf_X7_55 W dX7_take_7 rfl (Or.inl Ta0) (fun κ1 eκ1 => ?_)
  replace F := F κ1 eκ1
  have Wκ1 : zW C n0 κ1 := zW_ui W eκ1 (fun h => absurd h (by decide))
  have Mκ1 : zM (zn κ) κ κ1 := by rw [eκ1]; exact zM.of rfl rfl rfl
  replace F := F Wκ1
  refine y_aln dX7_take_10 rfl ?_
  refine y_aln dX7_take_11 rfl ?_
  have h2 := (ztm W Mκ1 Ta0)
  refine gf_X7_55 dX7_take_12 rfl (Or.inl h2) ?_
  refine y_i ((zI κ1 paAt a0) < (0 : Int32)) dX7_take_15 (t := 47) rfl rfl (fun c9 => ?_) (fun c9 => ?_)
  · replace F := F.1 c9
    refine y_si dX7_take_47 zs_142 ?_
    refine pf_X7_78 Wκ1 dX7_take_50 rfl (Or.inl h2) (fun κ3 eκ3 => ?_)
    replace F := F κ3 eκ3
    have Wκ3 : zW C n0 κ3 := zW_ui Wκ1 eκ3 (fun h => absurd h (by decide))
    have Mκ3 : zM (zn κ1) κ1 κ3 := by rw [eκ3]; exact zM.of rfl rfl rfl
    replace F := F Wκ3
    exact y_rv Wκ3 dX7_take_53 rfl F
  · replace F := F.2 c9
    refine y_aln dX7_take_18 rfl ?_
    refine gf_X7_55 dX7_take_19 rfl (Or.inl h2) ?_
    refine y_aln dX7_take_22 rfl ?_
    refine gf_X7_9 Wκ1 dX7_take_23 rfl h2 ?_
    refine gf_X7_75 dX7_take_26 rfl (Or.inl (ty_paTape Wκ1 h2)) ?_
    refine y_ii ((zI κ1 taTotal (zR κ1 paTape a0)) ≤ (zI κ1 paAt a0)) dX7_take_29 (t := 47) rfl rfl (fun c9 => ?_) (fun c9 => ?_)
    · replace F := F.1 c9
      refine y_si dX7_take_47 zs_142 ?_
      refine pf_X7_78 Wκ1 dX7_take_50 rfl (Or.inl h2) (fun κ4 eκ4 => ?_)
      replace F := F κ4 eκ4
      have Wκ4 : zW C n0 κ4 := zW_ui Wκ1 eκ4 (fun h => absurd h (by decide))
      have Mκ4 : zM (zn κ1) κ1 κ4 := by rw [eκ4]; exact zM.of rfl rfl rfl
      replace F := F Wκ4
      exact y_rv Wκ4 dX7_take_53 rfl F
    · replace F := F.2 c9
      refine y_aln dX7_take_32 rfl ?_
      refine gf_X7_9 Wκ1 dX7_take_33 rfl h2 ?_
      refine gf_X7_101 Wκ1 dX7_take_36 rfl (ty_paTape Wκ1 h2) ?_
      refine y_aln dX7_take_39 rfl ?_
      refine gf_X7_55 dX7_take_40 rfl (Or.inl h2) ?_
      refine y_ald dX7_take_43 (ty_taKinds Wκ1 (ty_paTape Wκ1 h2)) F.1 ?_
      replace F := F.2
      refine y_goto dX7_take_44 (t := 50) rfl ?_
      refine pf_X7_78 Wκ1 dX7_take_50 rfl (Or.inl h2) (fun κ5 eκ5 => ?_)
      replace F := F κ5 eκ5
      have Wκ5 : zW C n0 κ5 := zW_ui Wκ1 eκ5 (fun h => absurd h (by decide))
      have Mκ5 : zM (zn κ1) κ1 κ5 := by rw [eκ5]; exact zM.of rfl rfl rfl
      replace F := F Wκ5
      exact y_rv Wκ5 dX7_take_53 rfl F

theorem Pa_take_run {C : zC} {n0 : Nat} {Q : zS → Prop} {a0 : Nat} {κ : zS} (W : zW C n0 κ) (Ta0 : zT κ a0 = 10) (F : w_Pa_take_0 C (zn κ) Q a0 κ) : zRun C 0 mPa_take [.ref a0] κ (oV Q noX) := z_run (m_ent _ 0) (t_Pa_take_0 (W.lo (Nat.le_trans W.1.2.1 W.1.2.2) (Nat.le_refl _)) Ta0 F)

theorem dX7_refuse_0 : decode cX7_refuse 0 = .ok (.aload_n 0, 1) := by decide +kernel
theorem dX7_refuse_1 : decode cX7_refuse 1 = .ok (.getfield 78, 3) := by decide +kernel
theorem dX7_refuse_4 : decode cX7_refuse 4 = .ok (.sipush 143, 3) := by decide +kernel
theorem dX7_refuse_7 : decode cX7_refuse 7 = .ok (.if_icmp .ne 10, 3) := by decide +kernel
theorem dX7_refuse_10 : decode cX7_refuse 10 = .ok (.aload_n 0, 1) := by decide +kernel
theorem dX7_refuse_11 : decode cX7_refuse 11 = .ok (.getfield 55, 3) := by decide +kernel
theorem dX7_refuse_14 : decode cX7_refuse 14 = .ok (.goto 4, 3) := by decide +kernel
theorem dX7_refuse_17 : decode cX7_refuse 17 = .ok (.iload_n 2, 1) := by decide +kernel
theorem dX7_refuse_18 : decode cX7_refuse 18 = .ok (.istore_n 3, 1) := by decide +kernel
theorem dX7_refuse_19 : decode cX7_refuse 19 = .ok (.aload_n 0, 1) := by decide +kernel
theorem dX7_refuse_20 : decode cX7_refuse 20 = .ok (.aload_n 0, 1) := by decide +kernel
theorem dX7_refuse_21 : decode cX7_refuse 21 = .ok (.getfield 78, 3) := by decide +kernel
theorem dX7_refuse_24 : decode cX7_refuse 24 = .ok (.sipush 143, 3) := by decide +kernel
theorem dX7_refuse_27 : decode cX7_refuse 27 = .ok (.if_icmp .ne 7, 3) := by decide +kernel
theorem dX7_refuse_30 : decode cX7_refuse 30 = .ok (.iconst 1, 1) := by decide +kernel
theorem dX7_refuse_31 : decode cX7_refuse 31 = .ok (.goto 4, 3) := by decide +kernel
theorem dX7_refuse_34 : decode cX7_refuse 34 = .ok (.iload_n 1, 1) := by decide +kernel
theorem dX7_refuse_35 : decode cX7_refuse 35 = .ok (.putfield 104, 3) := by decide +kernel
theorem dX7_refuse_38 : decode cX7_refuse 38 = .ok (.aload_n 0, 1) := by decide +kernel
theorem dX7_refuse_39 : decode cX7_refuse 39 = .ok (.iload_n 3, 1) := by decide +kernel
theorem dX7_refuse_40 : decode cX7_refuse 40 = .ok (.ifCond .lt 26, 3) := by decide +kernel
theorem dX7_refuse_43 : decode cX7_refuse 43 = .ok (.iload_n 3, 1) := by decide +kernel
theorem dX7_refuse_44 : decode cX7_refuse 44 = .ok (.aload_n 0, 1) := by decide +kernel
theorem dX7_refuse_45 : decode cX7_refuse 45 = .ok (.getfield 9, 3) := by decide +kernel
theorem dX7_refuse_48 : decode cX7_refuse 48 = .ok (.getfield 75, 3) := by decide +kernel
theorem dX7_refuse_51 : decode cX7_refuse 51 = .ok (.if_icmp .ge 15, 3) := by decide +kernel
theorem dX7_refuse_54 : decode cX7_refuse 54 = .ok (.aload_n 0, 1) := by decide +kernel
theorem dX7_refuse_55 : decode cX7_refuse 55 = .ok (.getfield 9, 3) := by decide +kernel
theorem dX7_refuse_58 : decode cX7_refuse 58 = .ok (.getfield 107, 3) := by decide +kernel
theorem dX7_refuse_61 : decode cX7_refuse 61 = .ok (.iload_n 3, 1) := by decide +kernel
theorem dX7_refuse_62 : decode cX7_refuse 62 = .ok (.iaload, 1) := by decide +kernel
theorem dX7_refuse_63 : decode cX7_refuse 63 = .ok (.goto 10, 3) := by decide +kernel
theorem dX7_refuse_66 : decode cX7_refuse 66 = .ok (.aload_n 0, 1) := by decide +kernel
theorem dX7_refuse_67 : decode cX7_refuse 67 = .ok (.getfield 9, 3) := by decide +kernel
theorem dX7_refuse_70 : decode cX7_refuse 70 = .ok (.getfield 110, 3) := by decide +kernel
theorem dX7_refuse_73 : decode cX7_refuse 73 = .ok (.putfield 113, 3) := by decide +kernel
theorem dX7_refuse_76 : decode cX7_refuse 76 = .ok (.new 116, 3) := by decide +kernel
theorem dX7_refuse_79 : decode cX7_refuse 79 = .ok (.dup, 1) := by decide +kernel
theorem dX7_refuse_80 : decode cX7_refuse 80 = .ok (.ldc 118, 2) := by decide +kernel
theorem dX7_refuse_82 : decode cX7_refuse 82 = .ok (.invokespecial 120, 3) := by decide +kernel
theorem dX7_refuse_85 : decode cX7_refuse 85 = .ok (.athrow, 1) := by decide +kernel
def w_Pa_refuse_66 (C : zC) (n0 : Nat) (Q : zS → Prop) (X : zXp)  (a0 : Nat) (s0 : Nat) (κ : zS) : Prop :=
  ∀ κ1, κ1 = ui κ paFaultPlace s0 (zI κ taLength (zR κ paTape a0)) →
  ∀ _ : zW C n0 κ1,
  ∀ κ2, κ2 = ut κ1 → X "java/lang/IllegalStateException" κ2
theorem t_Pa_refuse_66 {C : zC} {n0 : Nat} {Q : zS → Prop} {X : zXp}   {a0 : Nat} {s0 : Nat} {κ : zS} (W : zW C n0 κ) (Ta0 : zT κ a0 = 10) (Ts0 : zT κ s0 = 10) (F : w_Pa_refuse_66 C n0 Q X  a0 s0 κ) : zG C n0 8 mPa_refuse 66 [some (.ref a0), none, none, none] [.ref s0] κ (oV Q X) := by
  unfold w_Pa_refuse_66 at F
  refine y_aln dX7_refuse_66 rfl ?_
  refine gf_X7_9 W dX7_refuse_67 rfl Ta0 ?_
  refine gf_X7_110 dX7_refuse_70 rfl (Or.inl (ty_paTape W Ta0)) ?_
  refine pf_X7_113 W dX7_refuse_73 rfl (Or.inl Ts0) (fun κ1 eκ1 => ?_)
  replace F := F κ1 eκ1
  have Wκ1 : zW C n0 κ1 := zW_ui W eκ1 (fun h => absurd h (by decide))
  have Mκ1 : zM (zn κ) κ κ1 := by rw [eκ1]; exact zM.of rfl rfl rfl
  replace F := F Wκ1
  exact y_thr Wκ1 (dxat_yes dX7_refuse_76 dX7_refuse_79 dX7_refuse_80 dX7_refuse_82 dX7_refuse_85 rfl rfl rfl) (Nat.le_of_ble_eq_true rfl) (Nat.le_of_ble_eq_true rfl) (fun κ9 e9 => Or.inr ⟨_, rfl, F κ9 e9⟩)

def w_Pa_refuse_35 (C : zC) (n0 : Nat) (Q : zS → Prop) (X : zXp)  (a0 : Nat) (a3 : Int32) (s0 : Nat) (s1 : Int32) (κ : zS) : Prop :=
  ∀ κ1, κ1 = ui κ paFaultCode s0 s1 →
  ∀ _ : zW C n0 κ1,
  (a3 < (0 : Int32) →
    w_Pa_refuse_66 C n0 Q X  a0 a0 κ1) ∧
  (¬ a3 < (0 : Int32) →
    ((zI κ1 taTotal (zR κ1 paTape a0)) ≤ a3 →
      w_Pa_refuse_66 C n0 Q X  a0 a0 κ1) ∧
    (¬ (zI κ1 taTotal (zR κ1 paTape a0)) ≤ a3 →
      inb a3 (zN κ1 (zR κ1 taPlaces (zR κ1 paTape a0))) ∧
      ∀ κ4, κ4 = ui κ1 paFaultPlace a0 (zA κ1 (zR κ1 taPlaces (zR κ1 paTape a0)) (a3).toNatClampNeg) →
      ∀ _ : zW C n0 κ4,
      ∀ κ5, κ5 = ut κ4 → X "java/lang/IllegalStateException" κ5))
theorem t_Pa_refuse_35 {C : zC} {n0 : Nat} {Q : zS → Prop} {X : zXp}   {a0 : Nat} {a3 : Int32} {s0 : Nat} {s1 : Int32} {κ : zS} (W : zW C n0 κ) (Ta0 : zT κ a0 = 10) (Ts0 : zT κ s0 = 10) (F : w_Pa_refuse_35 C n0 Q X  a0 a3 s0 s1 κ) : zG C n0 8 mPa_refuse 35 [some (.ref a0), none, none, some (.int a3)] [.int s1, .ref s0] κ (oV Q X) := by
  unfold w_Pa_refuse_35 at F
  refine pf_X7_104 W dX7_refuse_35 rfl (Or.inl Ts0) (fun κ1 eκ1 => ?_)
  replace F := F κ1 eκ1
  have Wκ1 : zW C n0 κ1 := zW_ui W eκ1 (fun h => absurd h (by decide))
  have Mκ1 : zM (zn κ) κ κ1 := by rw [eκ1]; exact zM.of rfl rfl rfl
  replace F := F Wκ1
  refine y_aln dX7_refuse_38 rfl ?_
  refine y_iln dX7_refuse_39 rfl ?_
  refine y_i (a3 < (0 : Int32)) dX7_refuse_40 (t := 66) rfl rfl (fun c9 => ?_) (fun c9 => ?_)
  · replace F := F.1 c9
    have h2 := (ztm W Mκ1 Ta0)
    exact y_k (t_Pa_refuse_66  Wκ1 h2 h2 F) ⟨rfl, trivial⟩
  · replace F := F.2 c9
    refine y_iln dX7_refuse_43 rfl ?_
    refine y_aln dX7_refuse_44 rfl ?_
    have h3 := (ztm W Mκ1 Ta0)
    refine gf_X7_9 Wκ1 dX7_refuse_45 rfl h3 ?_
    refine gf_X7_75 dX7_refuse_48 rfl (Or.inl (ty_paTape Wκ1 h3)) ?_
    refine y_ii ((zI κ1 taTotal (zR κ1 paTape a0)) ≤ a3) dX7_refuse_51 (t := 66) rfl rfl (fun c9 => ?_) (fun c9 => ?_)
    · replace F := F.1 c9
      exact y_k (t_Pa_refuse_66  Wκ1 h3 h3 F) ⟨rfl, trivial⟩
    · replace F := F.2 c9
      refine y_aln dX7_refuse_54 rfl ?_
      refine gf_X7_9 Wκ1 dX7_refuse_55 rfl h3 ?_
      refine gf_X7_107 Wκ1 dX7_refuse_58 rfl (ty_paTape Wκ1 h3) ?_
      refine y_iln dX7_refuse_61 rfl ?_
      refine y_ald dX7_refuse_62 (ty_taPlaces Wκ1 (ty_paTape Wκ1 h3)) F.1 ?_
      replace F := F.2
      refine y_goto dX7_refuse_63 (t := 73) rfl ?_
      refine pf_X7_113 Wκ1 dX7_refuse_73 rfl (Or.inl h3) (fun κ4 eκ4 => ?_)
      replace F := F κ4 eκ4
      have Wκ4 : zW C n0 κ4 := zW_ui Wκ1 eκ4 (fun h => absurd h (by decide))
      have Mκ4 : zM (zn κ1) κ1 κ4 := by rw [eκ4]; exact zM.of rfl rfl rfl
      replace F := F Wκ4
      exact y_thr Wκ4 (dxat_yes dX7_refuse_76 dX7_refuse_79 dX7_refuse_80 dX7_refuse_82 dX7_refuse_85 rfl rfl rfl) (Nat.le_of_ble_eq_true rfl) (Nat.le_of_ble_eq_true rfl) (fun κ9 e9 => Or.inr ⟨_, rfl, F κ9 e9⟩)

def w_Pa_refuse_18 (C : zC) (n0 : Nat) (Q : zS → Prop) (X : zXp)  (a0 : Nat) (a1 : Int32) (s0 : Int32) (κ : zS) : Prop :=
  (¬ (zI κ paKind a0) = (143 : Int32) →
    w_Pa_refuse_35 C n0 Q X  a0 s0 a0 a1 κ) ∧
  ((zI κ paKind a0) = (143 : Int32) →
    w_Pa_refuse_35 C n0 Q X  a0 s0 a0 (1 : Int32) κ)
theorem t_Pa_refuse_18 {C : zC} {n0 : Nat} {Q : zS → Prop} {X : zXp}   {a0 : Nat} {a1 : Int32} {s0 : Int32} {κ : zS} (W : zW C n0 κ) (Ta0 : zT κ a0 = 10) (F : w_Pa_refuse_18 C n0 Q X  a0 a1 s0 κ) : zG C n0 8 mPa_refuse 18 [some (.ref a0), some (.int a1), none, none] [.int s0] κ (oV Q X) := by
  unfold w_Pa_refuse_18 at F
  refine y_isn dX7_refuse_18 (Nat.le_of_ble_eq_true rfl) rfl ?_
  show zG _ _ _ _ _ [some (.ref a0), some (.int a1), none, some (.int s0)] _ _ _
  refine y_aln dX7_refuse_19 rfl ?_
  refine y_aln dX7_refuse_20 rfl ?_
  refine gf_X7_78 dX7_refuse_21 rfl (Or.inl Ta0) ?_
  refine y_si dX7_refuse_24 zs_143 ?_
  refine y_iin ((zI κ paKind a0) = (143 : Int32)) dX7_refuse_27 (t := 34) rfl rfl (fun c9 => ?_) (fun c9 => ?_)
  · replace F := F.1 c9
    refine y_iln dX7_refuse_34 rfl ?_
    exact y_k (t_Pa_refuse_35  W Ta0 Ta0 F) ⟨rfl, rfl, trivial⟩
  · replace F := F.2 c9
    refine y_ic dX7_refuse_30 zi_1 ?_
    refine y_goto dX7_refuse_31 (t := 35) rfl ?_
    exact y_k (t_Pa_refuse_35  W Ta0 Ta0 F) ⟨rfl, rfl, trivial⟩

def w_Pa_refuse_0 (C : zC) (n0 : Nat) (Q : zS → Prop) (X : zXp)  (a0 : Nat) (a1 : Int32) (a2 : Int32) (κ : zS) : Prop :=
  (¬ (zI κ paKind a0) = (143 : Int32) →
    w_Pa_refuse_18 C n0 Q X  a0 a1 a2 κ) ∧
  ((zI κ paKind a0) = (143 : Int32) →
    w_Pa_refuse_18 C n0 Q X  a0 a1 (zI κ paAt a0) κ)
theorem t_Pa_refuse_0 {C : zC} {n0 : Nat} {Q : zS → Prop} {X : zXp}   {a0 : Nat} {a1 : Int32} {a2 : Int32} {κ : zS} (W : zW C n0 κ) (Ta0 : zT κ a0 = 10) (F : w_Pa_refuse_0 C n0 Q X  a0 a1 a2 κ) : zG C n0 8 mPa_refuse 0 [some (.ref a0), some (.int a1), some (.int a2), none] [] κ (oV Q X) := by
  unfold w_Pa_refuse_0 at F
  refine y_aln dX7_refuse_0 rfl ?_
  refine gf_X7_78 dX7_refuse_1 rfl (Or.inl Ta0) ?_
  refine y_si dX7_refuse_4 zs_143 ?_
  refine y_iin ((zI κ paKind a0) = (143 : Int32)) dX7_refuse_7 (t := 17) rfl rfl (fun c9 => ?_) (fun c9 => ?_)
  · replace F := F.1 c9
    refine y_iln dX7_refuse_17 rfl ?_
    exact y_k (t_Pa_refuse_18  W Ta0 F) ⟨rfl, rfl, trivial⟩
  · replace F := F.2 c9
    refine y_aln dX7_refuse_10 rfl ?_
    refine gf_X7_55 dX7_refuse_11 rfl (Or.inl Ta0) ?_
    refine y_goto dX7_refuse_14 (t := 18) rfl ?_
    exact y_k (t_Pa_refuse_18  W Ta0 F) ⟨rfl, rfl, trivial⟩

theorem Pa_refuse_run {C : zC} {n0 : Nat} {Q : zS → Prop} {X : zXp} {a0 : Nat} {a1 : Int32} {a2 : Int32} {κ : zS} (W : zW C n0 κ) (Ta0 : zT κ a0 = 10) (F : w_Pa_refuse_0 C (zn κ) Q X a0 a1 a2 κ) : zRun C 8 mPa_refuse [.ref a0, .int a1, .int a2] κ (oV Q X) := z_run (m_ent _ 1) (t_Pa_refuse_0 (W.lo (Nat.le_trans W.1.2.1 W.1.2.2) (Nat.le_refl _)) Ta0 F)

theorem dX7_expect_0 : decode cX7_expect 0 = .ok (.aload_n 0, 1) := by decide +kernel
theorem dX7_expect_1 : decode cX7_expect 1 = .ok (.getfield 78, 3) := by decide +kernel
theorem dX7_expect_4 : decode cX7_expect 4 = .ok (.iload_n 1, 1) := by decide +kernel
theorem dX7_expect_5 : decode cX7_expect 5 = .ok (.if_icmp .eq 12, 3) := by decide +kernel
theorem dX7_expect_8 : decode cX7_expect 8 = .ok (.aload_n 0, 1) := by decide +kernel
theorem dX7_expect_9 : decode cX7_expect 9 = .ok (.iconst 2, 1) := by decide +kernel
theorem dX7_expect_10 : decode cX7_expect 10 = .ok (.aload_n 0, 1) := by decide +kernel
theorem dX7_expect_11 : decode cX7_expect 11 = .ok (.getfield 55, 3) := by decide +kernel
theorem dX7_expect_14 : decode cX7_expect 14 = .ok (.invokevirtual 123, 3) := by decide +kernel
theorem dX7_expect_17 : decode cX7_expect 17 = .ok (.return_, 1) := by decide +kernel
def w_Pa_expect_0 (C : zC) (n0 : Nat) (Q : zS → Prop) (X : zXp)  (a0 : Nat) (a1 : Int32) (κ : zS) : Prop :=
  ((zI κ paKind a0) = a1 →
    Q κ) ∧
  (¬ (zI κ paKind a0) = a1 →
    ∀ _ : zT κ a0 = 10,
    zRun C 8 mPa_refuse [.ref a0, .int (2 : Int32), .int (zI κ paAt a0)] κ (oV (fun κ1 =>
      ∀ _ : zW C n0 κ1,
      ∀ _ : zM (zn κ) κ κ1,
      Q κ1) X))
theorem t_Pa_expect_0 {C : zC} {n0 : Nat} {Q : zS → Prop} {X : zXp}   {a0 : Nat} {a1 : Int32} {κ : zS} (W : zW C n0 κ) (Ta0 : zT κ a0 = 10) (F : w_Pa_expect_0 C n0 Q X  a0 a1 κ) : zG C n0 9 mPa_expect 0 [some (.ref a0), some (.int a1)] [] κ (oV Q X) := by
  unfold w_Pa_expect_0 at F
  refine y_aln dX7_expect_0 rfl ?_
  refine gf_X7_78 dX7_expect_1 rfl (Or.inl Ta0) ?_
  refine y_iln dX7_expect_4 rfl ?_
  refine y_ii ((zI κ paKind a0) = a1) dX7_expect_5 (t := 17) rfl rfl (fun c9 => ?_) (fun c9 => ?_)
  · replace F := F.1 c9
    exact y_rv W dX7_expect_17 rfl F
  · replace F := F.2 c9
    refine y_aln dX7_expect_8 rfl ?_
    refine y_ic dX7_expect_9 zi_2 ?_
    refine y_aln dX7_expect_10 rfl ?_
    refine gf_X7_55 dX7_expect_11 rfl (Or.inl Ta0) ?_
    replace F := F Ta0
    refine k_X7_123 W dX7_expect_14 rfl (Nat.le_of_ble_eq_true rfl) (Nat.le_of_ble_eq_true rfl) (Or.inl Ta0) F (fun  κ1 Wκ1 Mκ1 F => ?_) (fun cls9 κ9 h9 => Or.inr ⟨_, rfl, h9⟩)
    replace F := F Wκ1 Mκ1
    exact y_rv Wκ1 dX7_expect_17 rfl F

theorem Pa_expect_run {C : zC} {n0 : Nat} {Q : zS → Prop} {X : zXp} {a0 : Nat} {a1 : Int32} {κ : zS} (W : zW C n0 κ) (Ta0 : zT κ a0 = 10) (F : w_Pa_expect_0 C (zn κ) Q X a0 a1 κ) : zRun C 9 mPa_expect [.ref a0, .int a1] κ (oV Q X) := z_run (m_ent _ 0) (t_Pa_expect_0 (W.lo (Nat.le_trans W.1.2.1 W.1.2.2) (Nat.le_refl _)) Ta0 F)

theorem dX10_findName_0 : decode cX10_findName 0 = .ok (.iload_n 3, 1) := by decide +kernel
theorem dX10_findName_1 : decode cX10_findName 1 = .ok (.ifCond .lt 20, 3) := by decide +kernel
theorem dX10_findName_4 : decode cX10_findName 4 = .ok (.iload_n 3, 1) := by decide +kernel
theorem dX10_findName_5 : decode cX10_findName 5 = .ok (.aload_n 0, 1) := by decide +kernel
theorem dX10_findName_6 : decode cX10_findName 6 = .ok (.getfield 35, 3) := by decide +kernel
theorem dX10_findName_9 : decode cX10_findName 9 = .ok (.if_icmp .ge 12, 3) := by decide +kernel
theorem dX10_findName_12 : decode cX10_findName 12 = .ok (.aload_n 0, 1) := by decide +kernel
theorem dX10_findName_13 : decode cX10_findName 13 = .ok (.getfield 22, 3) := by decide +kernel
theorem dX10_findName_16 : decode cX10_findName 16 = .ok (.iload_n 3, 1) := by decide +kernel
theorem dX10_findName_17 : decode cX10_findName 17 = .ok (.iaload, 1) := by decide +kernel
theorem dX10_findName_18 : decode cX10_findName 18 = .ok (.goto 4, 3) := by decide +kernel
theorem dX10_findName_21 : decode cX10_findName 21 = .ok (.iconst 0, 1) := by decide +kernel
theorem dX10_findName_22 : decode cX10_findName 22 = .ok (.istore 4, 2) := by decide +kernel
theorem dX10_findName_24 : decode cX10_findName 24 = .ok (.iload 4, 2) := by decide +kernel
theorem dX10_findName_26 : decode cX10_findName 26 = .ok (.ifCond .le 12, 3) := by decide +kernel
theorem dX10_findName_29 : decode cX10_findName 29 = .ok (.aload_n 0, 1) := by decide +kernel
theorem dX10_findName_30 : decode cX10_findName 30 = .ok (.getfield 19, 3) := by decide +kernel
theorem dX10_findName_33 : decode cX10_findName 33 = .ok (.iload_n 3, 1) := by decide +kernel
theorem dX10_findName_34 : decode cX10_findName 34 = .ok (.iaload, 1) := by decide +kernel
theorem dX10_findName_35 : decode cX10_findName 35 = .ok (.goto 4, 3) := by decide +kernel
theorem dX10_findName_38 : decode cX10_findName 38 = .ok (.iconst 0, 1) := by decide +kernel
theorem dX10_findName_39 : decode cX10_findName 39 = .ok (.istore 5, 2) := by decide +kernel
theorem dX10_findName_41 : decode cX10_findName 41 = .ok (.iconst 0, 1) := by decide +kernel
theorem dX10_findName_42 : decode cX10_findName 42 = .ok (.istore 6, 2) := by decide +kernel
theorem dX10_findName_44 : decode cX10_findName 44 = .ok (.iload 6, 2) := by decide +kernel
theorem dX10_findName_46 : decode cX10_findName 46 = .ok (.iload_n 2, 1) := by decide +kernel
theorem dX10_findName_47 : decode cX10_findName 47 = .ok (.if_icmp .ge 119, 3) := by decide +kernel
theorem dX10_findName_50 : decode cX10_findName 50 = .ok (.iload 6, 2) := by decide +kernel
theorem dX10_findName_52 : decode cX10_findName 52 = .ok (.aload_n 1, 1) := by decide +kernel
theorem dX10_findName_53 : decode cX10_findName 53 = .ok (.arraylength, 1) := by decide +kernel
theorem dX10_findName_54 : decode cX10_findName 54 = .ok (.if_icmp .ge 112, 3) := by decide +kernel
theorem dX10_findName_57 : decode cX10_findName 57 = .ok (.aload_n 1, 1) := by decide +kernel
theorem dX10_findName_58 : decode cX10_findName 58 = .ok (.iload 6, 2) := by decide +kernel
theorem dX10_findName_60 : decode cX10_findName 60 = .ok (.iaload, 1) := by decide +kernel
theorem dX10_findName_61 : decode cX10_findName 61 = .ok (.ifCond .lt 21, 3) := by decide +kernel
theorem dX10_findName_64 : decode cX10_findName 64 = .ok (.aload_n 1, 1) := by decide +kernel
theorem dX10_findName_65 : decode cX10_findName 65 = .ok (.iload 6, 2) := by decide +kernel
theorem dX10_findName_67 : decode cX10_findName 67 = .ok (.iaload, 1) := by decide +kernel
theorem dX10_findName_68 : decode cX10_findName 68 = .ok (.aload_n 0, 1) := by decide +kernel
theorem dX10_findName_69 : decode cX10_findName 69 = .ok (.getfield 35, 3) := by decide +kernel
theorem dX10_findName_72 : decode cX10_findName 72 = .ok (.if_icmp .ge 10, 3) := by decide +kernel
theorem dX10_findName_75 : decode cX10_findName 75 = .ok (.aload_n 1, 1) := by decide +kernel
theorem dX10_findName_76 : decode cX10_findName 76 = .ok (.iload 6, 2) := by decide +kernel
theorem dX10_findName_78 : decode cX10_findName 78 = .ok (.iaload, 1) := by decide +kernel
theorem dX10_findName_79 : decode cX10_findName 79 = .ok (.goto 4, 3) := by decide +kernel
theorem dX10_findName_82 : decode cX10_findName 82 = .ok (.iconst 0, 1) := by decide +kernel
theorem dX10_findName_83 : decode cX10_findName 83 = .ok (.istore 7, 2) := by decide +kernel
theorem dX10_findName_85 : decode cX10_findName 85 = .ok (.aload_n 0, 1) := by decide +kernel
theorem dX10_findName_86 : decode cX10_findName 86 = .ok (.getfield 19, 3) := by decide +kernel
theorem dX10_findName_89 : decode cX10_findName 89 = .ok (.iload 7, 2) := by decide +kernel
theorem dX10_findName_91 : decode cX10_findName 91 = .ok (.iaload, 1) := by decide +kernel
theorem dX10_findName_92 : decode cX10_findName 92 = .ok (.istore 8, 2) := by decide +kernel
theorem dX10_findName_94 : decode cX10_findName 94 = .ok (.iconst 0, 1) := by decide +kernel
theorem dX10_findName_95 : decode cX10_findName 95 = .ok (.istore 9, 2) := by decide +kernel
theorem dX10_findName_97 : decode cX10_findName 97 = .ok (.iload 9, 2) := by decide +kernel
theorem dX10_findName_99 : decode cX10_findName 99 = .ok (.iload 4, 2) := by decide +kernel
theorem dX10_findName_101 : decode cX10_findName 101 = .ok (.if_icmp .ge 44, 3) := by decide +kernel
theorem dX10_findName_104 : decode cX10_findName 104 = .ok (.aload_n 0, 1) := by decide +kernel
theorem dX10_findName_105 : decode cX10_findName 105 = .ok (.getfield 22, 3) := by decide +kernel
theorem dX10_findName_108 : decode cX10_findName 108 = .ok (.iload 7, 2) := by decide +kernel
theorem dX10_findName_110 : decode cX10_findName 110 = .ok (.iaload, 1) := by decide +kernel
theorem dX10_findName_111 : decode cX10_findName 111 = .ok (.iload 4, 2) := by decide +kernel
theorem dX10_findName_113 : decode cX10_findName 113 = .ok (.if_icmp .ne 32, 3) := by decide +kernel
theorem dX10_findName_116 : decode cX10_findName 116 = .ok (.aload_n 0, 1) := by decide +kernel
theorem dX10_findName_117 : decode cX10_findName 117 = .ok (.getfield 9, 3) := by decide +kernel
theorem dX10_findName_120 : decode cX10_findName 120 = .ok (.iload 5, 2) := by decide +kernel
theorem dX10_findName_122 : decode cX10_findName 122 = .ok (.iload 9, 2) := by decide +kernel
theorem dX10_findName_124 : decode cX10_findName 124 = .ok (.iadd, 1) := by decide +kernel
theorem dX10_findName_125 : decode cX10_findName 125 = .ok (.baload, 1) := by decide +kernel
theorem dX10_findName_126 : decode cX10_findName 126 = .ok (.aload_n 0, 1) := by decide +kernel
theorem dX10_findName_127 : decode cX10_findName 127 = .ok (.getfield 9, 3) := by decide +kernel
theorem dX10_findName_130 : decode cX10_findName 130 = .ok (.iload 8, 2) := by decide +kernel
theorem dX10_findName_132 : decode cX10_findName 132 = .ok (.iload 9, 2) := by decide +kernel
theorem dX10_findName_134 : decode cX10_findName 134 = .ok (.iadd, 1) := by decide +kernel
theorem dX10_findName_135 : decode cX10_findName 135 = .ok (.baload, 1) := by decide +kernel
theorem dX10_findName_136 : decode cX10_findName 136 = .ok (.if_icmp .ne 9, 3) := by decide +kernel
theorem dX10_findName_139 : decode cX10_findName 139 = .ok (.iinc 9 1, 3) := by decide +kernel
theorem dX10_findName_142 : decode cX10_findName 142 = .ok (.goto (-45), 3) := by decide +kernel
theorem dX10_findName_145 : decode cX10_findName 145 = .ok (.iload 4, 2) := by decide +kernel
theorem dX10_findName_147 : decode cX10_findName 147 = .ok (.ifCond .le 13, 3) := by decide +kernel
theorem dX10_findName_150 : decode cX10_findName 150 = .ok (.iload 9, 2) := by decide +kernel
theorem dX10_findName_152 : decode cX10_findName 152 = .ok (.iload 4, 2) := by decide +kernel
theorem dX10_findName_154 : decode cX10_findName 154 = .ok (.if_icmp .ne 6, 3) := by decide +kernel
theorem dX10_findName_157 : decode cX10_findName 157 = .ok (.iload 6, 2) := by decide +kernel
theorem dX10_findName_159 : decode cX10_findName 159 = .ok (.ireturn, 1) := by decide +kernel
theorem dX10_findName_160 : decode cX10_findName 160 = .ok (.iinc 6 1, 3) := by decide +kernel
theorem dX10_findName_163 : decode cX10_findName 163 = .ok (.goto (-119), 3) := by decide +kernel
theorem dX10_findName_166 : decode cX10_findName 166 = .ok (.iconst (-1), 1) := by decide +kernel
theorem dX10_findName_167 : decode cX10_findName 167 = .ok (.ireturn, 1) := by decide +kernel
def w_Ta_findName_145 (C : zC) (n0 : Nat) (Q : Int32 → zS → Prop) (B44 : Nat → Nat → Int32 → Int32 → Int32 → Int32 → zS → Prop) (a0 : Nat) (a1 : Nat) (a2 : Int32) (a4 : Int32) (a5 : Int32) (a6 : Int32) (a9 : Int32) (κ : zS) : Prop :=
  (a4 ≤ (0 : Int32) →
    ∀ v6_1 : Int32, v6_1 = a6 + (1 : Int32) →
    B44 a0 a1 a2 a4 a5 v6_1 κ) ∧
  (¬ a4 ≤ (0 : Int32) →
    (¬ a9 = a4 →
      ∀ v6_2 : Int32, v6_2 = a6 + (1 : Int32) →
      B44 a0 a1 a2 a4 a5 v6_2 κ) ∧
    (a9 = a4 →
      Q a6 κ))
theorem t_Ta_findName_145 {C : zC} {n0 : Nat} {Q : Int32 → zS → Prop} {B44 : Nat → Nat → Int32 → Int32 → Int32 → Int32 → zS → Prop} (hB44 : ∀ a0' a1' a2' a4' a5' a6' τ, zW C n0 τ → zT τ a0' = 13 → zT τ a1' = 20 → B44 a0' a1' a2' a4' a5' a6' τ → zG C n0 0 mTa_findName 44 [some (.ref a0'), some (.ref a1'), some (.int a2'), none, some (.int a4'), some (.int a5'), some (.int a6'), none, none, none] [] τ (oI Q noX)) {a0 : Nat} {a1 : Nat} {a2 : Int32} {a4 : Int32} {a5 : Int32} {a6 : Int32} {a9 : Int32} {κ : zS} (W : zW C n0 κ) (Ta0 : zT κ a0 = 13) (Ta1 : zT κ a1 = 20) (F : w_Ta_findName_145 C n0 Q B44 a0 a1 a2 a4 a5 a6 a9 κ) : zG C n0 0 mTa_findName 145 [some (.ref a0), some (.ref a1), some (.int a2), none, some (.int a4), some (.int a5), some (.int a6), none, none, some (.int a9)] [] κ (oI Q noX) := by
  unfold w_Ta_findName_145 at F
  refine y_il dX10_findName_145 rfl ?_
  refine y_i (a4 ≤ (0 : Int32)) dX10_findName_147 (t := 160) rfl rfl (fun c9 => ?_) (fun c9 => ?_)
  · replace F := F.1 c9
    refine y_incb dX10_findName_160 zi_1 rfl (Nat.le_of_ble_eq_true rfl) (fun v6_1 ev6_1 => ?_)
    replace F := F v6_1 ev6_1
    show zG _ _ _ _ _ [some (.ref a0), some (.ref a1), some (.int a2), none, some (.int a4), some (.int a5), some (.int v6_1), none, none, some (.int a9)] _ _ _
    refine y_goto dX10_findName_163 (t := 44) rfl ?_
    exact y_k (hB44 _ _ _ _ _ _ _ W Ta0 Ta1 F) ⟨rfl, rfl, rfl, rfl, rfl, rfl, trivial⟩
  · replace F := F.2 c9
    refine y_il dX10_findName_150 rfl ?_
    refine y_il dX10_findName_152 rfl ?_
    refine y_iin (a9 = a4) dX10_findName_154 (t := 160) rfl rfl (fun c9 => ?_) (fun c9 => ?_)
    · replace F := F.1 c9
      refine y_incb dX10_findName_160 zi_1 rfl (Nat.le_of_ble_eq_true rfl) (fun v6_2 ev6_2 => ?_)
      replace F := F v6_2 ev6_2
      show zG _ _ _ _ _ [some (.ref a0), some (.ref a1), some (.int a2), none, some (.int a4), some (.int a5), some (.int v6_2), none, none, some (.int a9)] _ _ _
      refine y_goto dX10_findName_163 (t := 44) rfl ?_
      exact y_k (hB44 _ _ _ _ _ _ _ W Ta0 Ta1 F) ⟨rfl, rfl, rfl, rfl, rfl, rfl, trivial⟩
    · replace F := F.2 c9
      refine y_il dX10_findName_157 rfl ?_
      exact y_ri W dX10_findName_159 rfl in_nar F

def w_Ta_findName_97 (C : zC) (n0 : Nat) (Q : Int32 → zS → Prop) (B44 : Nat → Nat → Int32 → Int32 → Int32 → Int32 → zS → Prop) (a0 : Nat) (a1 : Nat) (a2 : Int32) (a4 : Int32) (a5 : Int32) (a6 : Int32) (a7 : Int32) (a8 : Int32) (a9 : Int32) (κ : zS) : Prop :=
  ∃ I : Nat → Nat → Nat → Int32 → Int32 → Int32 → Int32 → Int32 → Int32 → Int32 → zS → Prop, (∃ n, I n a0 a1 a2 a4 a5 a6 a7 a8 a9 κ) ∧ ∀ n a0 a1 a2 a4 a5 a6 a7 a8 a9 κ, zW C n0 κ → zT κ a0 = 13 → zT κ a1 = 20 → I n a0 a1 a2 a4 a5 a6 a7 a8 a9 κ →
    (a4 ≤ a9 →
      w_Ta_findName_145 C n0 Q B44 a0 a1 a2 a4 a5 a6 a9 κ) ∧
    (¬ a4 ≤ a9 →
      inb a7 (zN κ (zR κ taLengths a0)) ∧
      (¬ (zA κ (zR κ taLengths a0) (a7).toNatClampNeg) = a4 →
        w_Ta_findName_145 C n0 Q B44 a0 a1 a2 a4 a5 a6 a9 κ) ∧
      ((zA κ (zR κ taLengths a0) (a7).toNatClampNeg) = a4 →
        inb (a5 + a9) (zN κ (zR κ taBytes a0)) ∧
        inb (a8 + a9) (zN κ (zR κ taBytes a0)) ∧
        (¬ (zA κ (zR κ taBytes a0) ((a5 + a9)).toNatClampNeg) = (zA κ (zR κ taBytes a0) ((a8 + a9)).toNatClampNeg) →
          w_Ta_findName_145 C n0 Q B44 a0 a1 a2 a4 a5 a6 a9 κ) ∧
        ((zA κ (zR κ taBytes a0) ((a5 + a9)).toNatClampNeg) = (zA κ (zR κ taBytes a0) ((a8 + a9)).toNatClampNeg) →
          ∀ v9_1 : Int32, v9_1 = a9 + (1 : Int32) →
          ∃ k < n, I k a0 a1 a2 a4 a5 a6 a7 a8 v9_1 κ)))
theorem t_Ta_findName_97 {C : zC} {n0 : Nat} {Q : Int32 → zS → Prop} {B44 : Nat → Nat → Int32 → Int32 → Int32 → Int32 → zS → Prop} (hB44 : ∀ a0' a1' a2' a4' a5' a6' τ, zW C n0 τ → zT τ a0' = 13 → zT τ a1' = 20 → B44 a0' a1' a2' a4' a5' a6' τ → zG C n0 0 mTa_findName 44 [some (.ref a0'), some (.ref a1'), some (.int a2'), none, some (.int a4'), some (.int a5'), some (.int a6'), none, none, none] [] τ (oI Q noX)) {a0 : Nat} {a1 : Nat} {a2 : Int32} {a4 : Int32} {a5 : Int32} {a6 : Int32} {a7 : Int32} {a8 : Int32} {a9 : Int32} {κ : zS} (W : zW C n0 κ) (Ta0 : zT κ a0 = 13) (Ta1 : zT κ a1 = 20) (F : w_Ta_findName_97 C n0 Q B44 a0 a1 a2 a4 a5 a6 a7 a8 a9 κ) : zG C n0 0 mTa_findName 97 [some (.ref a0), some (.ref a1), some (.int a2), none, some (.int a4), some (.int a5), some (.int a6), some (.int a7), some (.int a8), some (.int a9)] [] κ (oI Q noX) := by
  obtain ⟨I, ⟨m0, hI0⟩, F0⟩ := F
  have key : ∀ n a0 a1 a2 a4 a5 a6 a7 a8 a9 κ, zW C n0 κ → zT κ a0 = 13 → zT κ a1 = 20 → I n a0 a1 a2 a4 a5 a6 a7 a8 a9 κ → zG C n0 0 mTa_findName 97 [some (.ref a0), some (.ref a1), some (.int a2), none, some (.int a4), some (.int a5), some (.int a6), some (.int a7), some (.int a8), some (.int a9)] [] κ (oI Q noX) := by
    intro n
    induction n using Nat.strongRecOn with
    | _ n ih =>
      intro a0 a1 a2 a4 a5 a6 a7 a8 a9 κ W Ta0 Ta1 hI
      have F := F0 n a0 a1 a2 a4 a5 a6 a7 a8 a9 κ W Ta0 Ta1 hI
      clear hI hI0
      refine y_il dX10_findName_97 rfl ?_
      refine y_il dX10_findName_99 rfl ?_
      refine y_ii (a4 ≤ a9) dX10_findName_101 (t := 145) rfl rfl (fun c9 => ?_) (fun c9 => ?_)
      · replace F := F.1 c9
        exact y_k (t_Ta_findName_145 hB44 W Ta0 Ta1 F) ⟨rfl, rfl, rfl, rfl, rfl, rfl, rfl, trivial⟩
      · replace F := F.2 c9
        refine y_aln dX10_findName_104 rfl ?_
        refine gf_X10_22 W dX10_findName_105 rfl Ta0 ?_
        refine y_il dX10_findName_108 rfl ?_
        refine y_ald dX10_findName_110 (ty_taLengths W Ta0) F.1 ?_
        replace F := F.2
        refine y_il dX10_findName_111 rfl ?_
        refine y_iin ((zA κ (zR κ taLengths a0) (a7).toNatClampNeg) = a4) dX10_findName_113 (t := 145) rfl rfl (fun c9 => ?_) (fun c9 => ?_)
        · replace F := F.1 c9
          exact y_k (t_Ta_findName_145 hB44 W Ta0 Ta1 F) ⟨rfl, rfl, rfl, rfl, rfl, rfl, rfl, trivial⟩
        · replace F := F.2 c9
          refine y_aln dX10_findName_116 rfl ?_
          refine gf_X10_9 W dX10_findName_117 rfl Ta0 ?_
          refine y_il dX10_findName_120 rfl ?_
          refine y_il dX10_findName_122 rfl ?_
          refine y_iadd dX10_findName_124 ?_
          refine y_bld dX10_findName_125 (ty_taBytes W Ta0) F.1 ?_
          replace F := F.2
          refine y_aln dX10_findName_126 rfl ?_
          refine gf_X10_9 W dX10_findName_127 rfl Ta0 ?_
          refine y_il dX10_findName_130 rfl ?_
          refine y_il dX10_findName_132 rfl ?_
          refine y_iadd dX10_findName_134 ?_
          refine y_bld dX10_findName_135 (ty_taBytes W Ta0) F.1 ?_
          replace F := F.2
          refine y_iin ((zA κ (zR κ taBytes a0) ((a5 + a9)).toNatClampNeg) = (zA κ (zR κ taBytes a0) ((a8 + a9)).toNatClampNeg)) dX10_findName_136 (t := 145) rfl rfl (fun c9 => ?_) (fun c9 => ?_)
          · replace F := F.1 c9
            exact y_k (t_Ta_findName_145 hB44 W Ta0 Ta1 F) ⟨rfl, rfl, rfl, rfl, rfl, rfl, rfl, trivial⟩
          · replace F := F.2 c9
            refine y_incb dX10_findName_139 zi_1 rfl (Nat.le_of_ble_eq_true rfl) (fun v9_1 ev9_1 => ?_)
            replace F := F v9_1 ev9_1
            show zG _ _ _ _ _ [some (.ref a0), some (.ref a1), some (.int a2), none, some (.int a4), some (.int a5), some (.int a6), some (.int a7), some (.int a8), some (.int v9_1)] _ _ _
            refine y_goto dX10_findName_142 (t := 97) rfl ?_
            obtain ⟨k, hk, hI⟩ := F
            exact y_k (ih k hk _ _ _ _ _ _ _ _ _ _ W Ta0 Ta1 hI) ⟨rfl, rfl, rfl, rfl, rfl, rfl, rfl, rfl, rfl, trivial⟩
  exact key m0 a0 a1 a2 a4 a5 a6 a7 a8 a9 κ W Ta0 Ta1 hI0

def w_Ta_findName_83 (C : zC) (n0 : Nat) (Q : Int32 → zS → Prop) (B44 : Nat → Nat → Int32 → Int32 → Int32 → Int32 → zS → Prop) (a0 : Nat) (a1 : Nat) (a2 : Int32) (a4 : Int32) (a5 : Int32) (a6 : Int32) (s0 : Int32) (κ : zS) : Prop :=
  inb s0 (zN κ (zR κ taPlaces a0)) ∧
  ∀ v8_1 : Int32, v8_1 = (zA κ (zR κ taPlaces a0) (s0).toNatClampNeg) →
  w_Ta_findName_97 C n0 Q B44 a0 a1 a2 a4 a5 a6 s0 v8_1 (0 : Int32) κ
theorem t_Ta_findName_83 {C : zC} {n0 : Nat} {Q : Int32 → zS → Prop} {B44 : Nat → Nat → Int32 → Int32 → Int32 → Int32 → zS → Prop} (hB44 : ∀ a0' a1' a2' a4' a5' a6' τ, zW C n0 τ → zT τ a0' = 13 → zT τ a1' = 20 → B44 a0' a1' a2' a4' a5' a6' τ → zG C n0 0 mTa_findName 44 [some (.ref a0'), some (.ref a1'), some (.int a2'), none, some (.int a4'), some (.int a5'), some (.int a6'), none, none, none] [] τ (oI Q noX)) {a0 : Nat} {a1 : Nat} {a2 : Int32} {a4 : Int32} {a5 : Int32} {a6 : Int32} {s0 : Int32} {κ : zS} (W : zW C n0 κ) (Ta0 : zT κ a0 = 13) (Ta1 : zT κ a1 = 20) (F : w_Ta_findName_83 C n0 Q B44 a0 a1 a2 a4 a5 a6 s0 κ) : zG C n0 0 mTa_findName 83 [some (.ref a0), some (.ref a1), some (.int a2), none, some (.int a4), some (.int a5), some (.int a6), none, none, none] [.int s0] κ (oI Q noX) := by
  unfold w_Ta_findName_83 at F
  refine y_is dX10_findName_83 (Nat.le_of_ble_eq_true rfl) rfl ?_
  show zG _ _ _ _ _ [some (.ref a0), some (.ref a1), some (.int a2), none, some (.int a4), some (.int a5), some (.int a6), some (.int s0), none, none] _ _ _
  refine y_aln dX10_findName_85 rfl ?_
  refine gf_X10_19 W dX10_findName_86 rfl Ta0 ?_
  refine y_il dX10_findName_89 rfl ?_
  refine y_ald dX10_findName_91 (ty_taPlaces W Ta0) F.1 ?_
  replace F := F.2
  refine y_isb dX10_findName_92 (Nat.le_of_ble_eq_true rfl) (fun v8_1 ev8_1 => ?_)
  replace F := F v8_1 ev8_1
  show zG _ _ _ _ _ [some (.ref a0), some (.ref a1), some (.int a2), none, some (.int a4), some (.int a5), some (.int a6), some (.int s0), some (.int v8_1), none] _ _ _
  refine y_ic dX10_findName_94 zi_0 ?_
  refine y_is dX10_findName_95 (Nat.le_of_ble_eq_true rfl) rfl ?_
  show zG _ _ _ _ _ [some (.ref a0), some (.ref a1), some (.int a2), none, some (.int a4), some (.int a5), some (.int a6), some (.int s0), some (.int v8_1), some (.int (0 : Int32))] _ _ _
  exact y_k (t_Ta_findName_97 hB44 W Ta0 Ta1 F) ⟨rfl, rfl, rfl, rfl, rfl, rfl, rfl, rfl, rfl, trivial⟩

def w_Ta_findName_44 (C : zC) (n0 : Nat) (Q : Int32 → zS → Prop)  (a0 : Nat) (a1 : Nat) (a2 : Int32) (a4 : Int32) (a5 : Int32) (a6 : Int32) (κ : zS) : Prop :=
  ∃ I : Nat → Nat → Nat → Int32 → Int32 → Int32 → Int32 → zS → Prop, (∃ n, I n a0 a1 a2 a4 a5 a6 κ) ∧ ∀ n a0 a1 a2 a4 a5 a6 κ, zW C n0 κ → zT κ a0 = 13 → zT κ a1 = 20 → I n a0 a1 a2 a4 a5 a6 κ →
    (a2 ≤ a6 →
      Q (-1 : Int32) κ) ∧
    (¬ a2 ≤ a6 →
      ((Int32.ofNat (zN κ a1)) ≤ a6 →
        Q (-1 : Int32) κ) ∧
      (¬ (Int32.ofNat (zN κ a1)) ≤ a6 →
        inb a6 (zN κ a1) ∧
        ((zA κ a1 (a6).toNatClampNeg) < (0 : Int32) →
          w_Ta_findName_83 C n0 Q (fun a0' a1' a2' a4' a5' a6' τ => ∃ k < n, I k a0' a1' a2' a4' a5' a6' τ) a0 a1 a2 a4 a5 a6 (0 : Int32) κ) ∧
        (¬ (zA κ a1 (a6).toNatClampNeg) < (0 : Int32) →
          inb a6 (zN κ a1) ∧
          ((zI κ taTotal a0) ≤ (zA κ a1 (a6).toNatClampNeg) →
            w_Ta_findName_83 C n0 Q (fun a0' a1' a2' a4' a5' a6' τ => ∃ k < n, I k a0' a1' a2' a4' a5' a6' τ) a0 a1 a2 a4 a5 a6 (0 : Int32) κ) ∧
          (¬ (zI κ taTotal a0) ≤ (zA κ a1 (a6).toNatClampNeg) →
            inb a6 (zN κ a1) ∧
            w_Ta_findName_83 C n0 Q (fun a0' a1' a2' a4' a5' a6' τ => ∃ k < n, I k a0' a1' a2' a4' a5' a6' τ) a0 a1 a2 a4 a5 a6 (zA κ a1 (a6).toNatClampNeg) κ))))
theorem t_Ta_findName_44 {C : zC} {n0 : Nat} {Q : Int32 → zS → Prop}   {a0 : Nat} {a1 : Nat} {a2 : Int32} {a4 : Int32} {a5 : Int32} {a6 : Int32} {κ : zS} (W : zW C n0 κ) (Ta0 : zT κ a0 = 13) (Ta1 : zT κ a1 = 20) (F : w_Ta_findName_44 C n0 Q  a0 a1 a2 a4 a5 a6 κ) : zG C n0 0 mTa_findName 44 [some (.ref a0), some (.ref a1), some (.int a2), none, some (.int a4), some (.int a5), some (.int a6), none, none, none] [] κ (oI Q noX) := by
  obtain ⟨I, ⟨m0, hI0⟩, F0⟩ := F
  have key : ∀ n a0 a1 a2 a4 a5 a6 κ, zW C n0 κ → zT κ a0 = 13 → zT κ a1 = 20 → I n a0 a1 a2 a4 a5 a6 κ → zG C n0 0 mTa_findName 44 [some (.ref a0), some (.ref a1), some (.int a2), none, some (.int a4), some (.int a5), some (.int a6), none, none, none] [] κ (oI Q noX) := by
    intro n
    induction n using Nat.strongRecOn with
    | _ n ih =>
      intro a0 a1 a2 a4 a5 a6 κ W Ta0 Ta1 hI
      have F := F0 n a0 a1 a2 a4 a5 a6 κ W Ta0 Ta1 hI
      clear hI hI0
      refine y_il dX10_findName_44 rfl ?_
      refine y_iln dX10_findName_46 rfl ?_
      refine y_ii (a2 ≤ a6) dX10_findName_47 (t := 166) rfl rfl (fun c9 => ?_) (fun c9 => ?_)
      · replace F := F.1 c9
        refine y_ic dX10_findName_166 zi_m1 ?_
        exact y_ri W dX10_findName_167 rfl in_nar F
      · replace F := F.2 c9
        refine y_il dX10_findName_50 rfl ?_
        refine y_aln dX10_findName_52 rfl ?_
        refine y_alen (t := 0) dX10_findName_53 Ta1 (by decide) ?_
        refine y_ii ((Int32.ofNat (zN κ a1)) ≤ a6) dX10_findName_54 (t := 166) rfl rfl (fun c9 => ?_) (fun c9 => ?_)
        · replace F := F.1 c9
          refine y_ic dX10_findName_166 zi_m1 ?_
          exact y_ri W dX10_findName_167 rfl in_nar F
        · replace F := F.2 c9
          refine y_aln dX10_findName_57 rfl ?_
          refine y_il dX10_findName_58 rfl ?_
          refine y_ald dX10_findName_60 Ta1 F.1 ?_
          replace F := F.2
          refine y_i ((zA κ a1 (a6).toNatClampNeg) < (0 : Int32)) dX10_findName_61 (t := 82) rfl rfl (fun c9 => ?_) (fun c9 => ?_)
          · replace F := F.1 c9
            refine y_ic dX10_findName_82 zi_0 ?_
            exact y_k (t_Ta_findName_83 (fun a0' a1' a2' a4' a5' a6' τ w9 f09 f19 hb => by obtain ⟨k, hk, hI⟩ := hb; exact ih k hk a0' a1' a2' a4' a5' a6' τ w9 f09 f19 hI) W Ta0 Ta1 F) ⟨rfl, rfl, rfl, rfl, rfl, rfl, trivial⟩
          · replace F := F.2 c9
            refine y_aln dX10_findName_64 rfl ?_
            refine y_il dX10_findName_65 rfl ?_
            refine y_ald dX10_findName_67 Ta1 F.1 ?_
            replace F := F.2
            refine y_aln dX10_findName_68 rfl ?_
            refine gf_X10_35 dX10_findName_69 rfl (Or.inl Ta0) ?_
            refine y_ii ((zI κ taTotal a0) ≤ (zA κ a1 (a6).toNatClampNeg)) dX10_findName_72 (t := 82) rfl rfl (fun c9 => ?_) (fun c9 => ?_)
            · replace F := F.1 c9
              refine y_ic dX10_findName_82 zi_0 ?_
              exact y_k (t_Ta_findName_83 (fun a0' a1' a2' a4' a5' a6' τ w9 f09 f19 hb => by obtain ⟨k, hk, hI⟩ := hb; exact ih k hk a0' a1' a2' a4' a5' a6' τ w9 f09 f19 hI) W Ta0 Ta1 F) ⟨rfl, rfl, rfl, rfl, rfl, rfl, trivial⟩
            · replace F := F.2 c9
              refine y_aln dX10_findName_75 rfl ?_
              refine y_il dX10_findName_76 rfl ?_
              refine y_ald dX10_findName_78 Ta1 F.1 ?_
              replace F := F.2
              refine y_goto dX10_findName_79 (t := 83) rfl ?_
              exact y_k (t_Ta_findName_83 (fun a0' a1' a2' a4' a5' a6' τ w9 f09 f19 hb => by obtain ⟨k, hk, hI⟩ := hb; exact ih k hk a0' a1' a2' a4' a5' a6' τ w9 f09 f19 hI) W Ta0 Ta1 F) ⟨rfl, rfl, rfl, rfl, rfl, rfl, trivial⟩
  exact key m0 a0 a1 a2 a4 a5 a6 κ W Ta0 Ta1 hI0

def w_Ta_findName_39 (C : zC) (n0 : Nat) (Q : Int32 → zS → Prop)  (a0 : Nat) (a1 : Nat) (a2 : Int32) (a4 : Int32) (s0 : Int32) (κ : zS) : Prop :=
  w_Ta_findName_44 C n0 Q  a0 a1 a2 a4 s0 (0 : Int32) κ
theorem t_Ta_findName_39 {C : zC} {n0 : Nat} {Q : Int32 → zS → Prop}   {a0 : Nat} {a1 : Nat} {a2 : Int32} {a4 : Int32} {s0 : Int32} {κ : zS} (W : zW C n0 κ) (Ta0 : zT κ a0 = 13) (Ta1 : zT κ a1 = 20) (F : w_Ta_findName_39 C n0 Q  a0 a1 a2 a4 s0 κ) : zG C n0 0 mTa_findName 39 [some (.ref a0), some (.ref a1), some (.int a2), none, some (.int a4), none, none, none, none, none] [.int s0] κ (oI Q noX) := by
  unfold w_Ta_findName_39 at F
  refine y_is dX10_findName_39 (Nat.le_of_ble_eq_true rfl) rfl ?_
  show zG _ _ _ _ _ [some (.ref a0), some (.ref a1), some (.int a2), none, some (.int a4), some (.int s0), none, none, none, none] _ _ _
  refine y_ic dX10_findName_41 zi_0 ?_
  refine y_is dX10_findName_42 (Nat.le_of_ble_eq_true rfl) rfl ?_
  show zG _ _ _ _ _ [some (.ref a0), some (.ref a1), some (.int a2), none, some (.int a4), some (.int s0), some (.int (0 : Int32)), none, none, none] _ _ _
  exact y_k (t_Ta_findName_44  W Ta0 Ta1 F) ⟨rfl, rfl, rfl, rfl, rfl, rfl, trivial⟩

def w_Ta_findName_22 (C : zC) (n0 : Nat) (Q : Int32 → zS → Prop)  (a0 : Nat) (a1 : Nat) (a2 : Int32) (a3 : Int32) (s0 : Int32) (κ : zS) : Prop :=
  (s0 ≤ (0 : Int32) →
    w_Ta_findName_39 C n0 Q  a0 a1 a2 s0 (0 : Int32) κ) ∧
  (¬ s0 ≤ (0 : Int32) →
    inb a3 (zN κ (zR κ taPlaces a0)) ∧
    w_Ta_findName_39 C n0 Q  a0 a1 a2 s0 (zA κ (zR κ taPlaces a0) (a3).toNatClampNeg) κ)
theorem t_Ta_findName_22 {C : zC} {n0 : Nat} {Q : Int32 → zS → Prop}   {a0 : Nat} {a1 : Nat} {a2 : Int32} {a3 : Int32} {s0 : Int32} {κ : zS} (W : zW C n0 κ) (Ta0 : zT κ a0 = 13) (Ta1 : zT κ a1 = 20) (F : w_Ta_findName_22 C n0 Q  a0 a1 a2 a3 s0 κ) : zG C n0 0 mTa_findName 22 [some (.ref a0), some (.ref a1), some (.int a2), some (.int a3), none, none, none, none, none, none] [.int s0] κ (oI Q noX) := by
  unfold w_Ta_findName_22 at F
  refine y_is dX10_findName_22 (Nat.le_of_ble_eq_true rfl) rfl ?_
  show zG _ _ _ _ _ [some (.ref a0), some (.ref a1), some (.int a2), some (.int a3), some (.int s0), none, none, none, none, none] _ _ _
  refine y_il dX10_findName_24 rfl ?_
  refine y_i (s0 ≤ (0 : Int32)) dX10_findName_26 (t := 38) rfl rfl (fun c9 => ?_) (fun c9 => ?_)
  · replace F := F.1 c9
    refine y_ic dX10_findName_38 zi_0 ?_
    exact y_k (t_Ta_findName_39  W Ta0 Ta1 F) ⟨rfl, rfl, rfl, rfl, trivial⟩
  · replace F := F.2 c9
    refine y_aln dX10_findName_29 rfl ?_
    refine gf_X10_19 W dX10_findName_30 rfl Ta0 ?_
    refine y_iln dX10_findName_33 rfl ?_
    refine y_ald dX10_findName_34 (ty_taPlaces W Ta0) F.1 ?_
    replace F := F.2
    refine y_goto dX10_findName_35 (t := 39) rfl ?_
    exact y_k (t_Ta_findName_39  W Ta0 Ta1 F) ⟨rfl, rfl, rfl, rfl, trivial⟩

def w_Ta_findName_0 (C : zC) (n0 : Nat) (Q : Int32 → zS → Prop)  (a0 : Nat) (a1 : Nat) (a2 : Int32) (a3 : Int32) (κ : zS) : Prop :=
  (a3 < (0 : Int32) →
    w_Ta_findName_22 C n0 Q  a0 a1 a2 a3 (0 : Int32) κ) ∧
  (¬ a3 < (0 : Int32) →
    ((zI κ taTotal a0) ≤ a3 →
      w_Ta_findName_22 C n0 Q  a0 a1 a2 a3 (0 : Int32) κ) ∧
    (¬ (zI κ taTotal a0) ≤ a3 →
      inb a3 (zN κ (zR κ taLengths a0)) ∧
      w_Ta_findName_22 C n0 Q  a0 a1 a2 a3 (zA κ (zR κ taLengths a0) (a3).toNatClampNeg) κ))
theorem t_Ta_findName_0 {C : zC} {n0 : Nat} {Q : Int32 → zS → Prop}   {a0 : Nat} {a1 : Nat} {a2 : Int32} {a3 : Int32} {κ : zS} (W : zW C n0 κ) (Ta0 : zT κ a0 = 13) (Ta1 : zT κ a1 = 20) (F : w_Ta_findName_0 C n0 Q  a0 a1 a2 a3 κ) : zG C n0 0 mTa_findName 0 [some (.ref a0), some (.ref a1), some (.int a2), some (.int a3), none, none, none, none, none, none] [] κ (oI Q noX) := by
  unfold w_Ta_findName_0 at F
  refine y_iln dX10_findName_0 rfl ?_
  refine y_i (a3 < (0 : Int32)) dX10_findName_1 (t := 21) rfl rfl (fun c9 => ?_) (fun c9 => ?_)
  · replace F := F.1 c9
    refine y_ic dX10_findName_21 zi_0 ?_
    exact y_k (t_Ta_findName_22  W Ta0 Ta1 F) ⟨rfl, rfl, rfl, rfl, trivial⟩
  · replace F := F.2 c9
    refine y_iln dX10_findName_4 rfl ?_
    refine y_aln dX10_findName_5 rfl ?_
    refine gf_X10_35 dX10_findName_6 rfl (Or.inl Ta0) ?_
    refine y_ii ((zI κ taTotal a0) ≤ a3) dX10_findName_9 (t := 21) rfl rfl (fun c9 => ?_) (fun c9 => ?_)
    · replace F := F.1 c9
      refine y_ic dX10_findName_21 zi_0 ?_
      exact y_k (t_Ta_findName_22  W Ta0 Ta1 F) ⟨rfl, rfl, rfl, rfl, trivial⟩
    · replace F := F.2 c9
      refine y_aln dX10_findName_12 rfl ?_
      refine gf_X10_22 W dX10_findName_13 rfl Ta0 ?_
      refine y_iln dX10_findName_16 rfl ?_
      refine y_ald dX10_findName_17 (ty_taLengths W Ta0) F.1 ?_
      replace F := F.2
      refine y_goto dX10_findName_18 (t := 22) rfl ?_
      exact y_k (t_Ta_findName_22  W Ta0 Ta1 F) ⟨rfl, rfl, rfl, rfl, trivial⟩

theorem Ta_findName_run {C : zC} {n0 : Nat} {Q : Int32 → zS → Prop} {a0 : Nat} {a1 : Nat} {a2 : Int32} {a3 : Int32} {κ : zS} (W : zW C n0 κ) (Ta0 : zT κ a0 = 13) (Ta1 : zT κ a1 = 20) (F : w_Ta_findName_0 C (zn κ) Q a0 a1 a2 a3 κ) : zRun C 0 mTa_findName [.ref a0, .ref a1, .int a2, .int a3] κ (oI Q noX) := z_run (m_ent _ 6) (t_Ta_findName_0 (W.lo (Nat.le_trans W.1.2.1 W.1.2.2) (Nat.le_refl _)) Ta0 Ta1 F)

