/-! methods of the class: So_visitOne, So_findVisits, So_showVisits, So_worthBehind, So_isAbove, So_findWorth -/
theorem dX9_visitOne_0 : decode cX9_visitOne 0 = .ok (.iconst 0, 1) := by decide +kernel
theorem dX9_visitOne_1 : decode cX9_visitOne 1 = .ok (.istore_n 2, 1) := by decide +kernel
theorem dX9_visitOne_2 : decode cX9_visitOne 2 = .ok (.iconst 0, 1) := by decide +kernel
theorem dX9_visitOne_3 : decode cX9_visitOne 3 = .ok (.istore_n 3, 1) := by decide +kernel
theorem dX9_visitOne_4 : decode cX9_visitOne 4 = .ok (.aload_n 0, 1) := by decide +kernel
theorem dX9_visitOne_5 : decode cX9_visitOne 5 = .ok (.getfield 25, 3) := by decide +kernel
theorem dX9_visitOne_8 : decode cX9_visitOne 8 = .ok (.getfield 167, 3) := by decide +kernel
theorem dX9_visitOne_11 : decode cX9_visitOne 11 = .ok (.iload_n 1, 1) := by decide +kernel
theorem dX9_visitOne_12 : decode cX9_visitOne 12 = .ok (.iaload, 1) := by decide +kernel
theorem dX9_visitOne_13 : decode cX9_visitOne 13 = .ok (.istore 4, 2) := by decide +kernel
theorem dX9_visitOne_15 : decode cX9_visitOne 15 = .ok (.iload 4, 2) := by decide +kernel
theorem dX9_visitOne_17 : decode cX9_visitOne 17 = .ok (.aload_n 0, 1) := by decide +kernel
theorem dX9_visitOne_18 : decode cX9_visitOne 18 = .ok (.getfield 25, 3) := by decide +kernel
theorem dX9_visitOne_21 : decode cX9_visitOne 21 = .ok (.getfield 167, 3) := by decide +kernel
theorem dX9_visitOne_24 : decode cX9_visitOne 24 = .ok (.iload_n 1, 1) := by decide +kernel
theorem dX9_visitOne_25 : decode cX9_visitOne 25 = .ok (.iconst 1, 1) := by decide +kernel
theorem dX9_visitOne_26 : decode cX9_visitOne 26 = .ok (.iadd, 1) := by decide +kernel
theorem dX9_visitOne_27 : decode cX9_visitOne 27 = .ok (.iaload, 1) := by decide +kernel
theorem dX9_visitOne_28 : decode cX9_visitOne 28 = .ok (.if_icmp .ge 25, 3) := by decide +kernel
theorem dX9_visitOne_31 : decode cX9_visitOne 31 = .ok (.aload_n 0, 1) := by decide +kernel
theorem dX9_visitOne_32 : decode cX9_visitOne 32 = .ok (.iload 4, 2) := by decide +kernel
theorem dX9_visitOne_34 : decode cX9_visitOne 34 = .ok (.iload_n 1, 1) := by decide +kernel
theorem dX9_visitOne_35 : decode cX9_visitOne 35 = .ok (.invokevirtual 170, 3) := by decide +kernel
theorem dX9_visitOne_38 : decode cX9_visitOne 38 = .ok (.ifCond .eq 9, 3) := by decide +kernel
theorem dX9_visitOne_41 : decode cX9_visitOne 41 = .ok (.iinc 2 1, 3) := by decide +kernel
theorem dX9_visitOne_44 : decode cX9_visitOne 44 = .ok (.iload 4, 2) := by decide +kernel
theorem dX9_visitOne_46 : decode cX9_visitOne 46 = .ok (.istore_n 3, 1) := by decide +kernel
theorem dX9_visitOne_47 : decode cX9_visitOne 47 = .ok (.iinc 4 1, 3) := by decide +kernel
theorem dX9_visitOne_50 : decode cX9_visitOne 50 = .ok (.goto (-35), 3) := by decide +kernel
theorem dX9_visitOne_53 : decode cX9_visitOne 53 = .ok (.iload_n 2, 1) := by decide +kernel
theorem dX9_visitOne_54 : decode cX9_visitOne 54 = .ok (.iconst 1, 1) := by decide +kernel
theorem dX9_visitOne_55 : decode cX9_visitOne 55 = .ok (.if_icmp .ne 79, 3) := by decide +kernel
theorem dX9_visitOne_58 : decode cX9_visitOne 58 = .ok (.iload_n 1, 1) := by decide +kernel
theorem dX9_visitOne_59 : decode cX9_visitOne 59 = .ok (.ifCond .le 75, 3) := by decide +kernel
theorem dX9_visitOne_62 : decode cX9_visitOne 62 = .ok (.aload_n 0, 1) := by decide +kernel
theorem dX9_visitOne_63 : decode cX9_visitOne 63 = .ok (.getfield 25, 3) := by decide +kernel
theorem dX9_visitOne_66 : decode cX9_visitOne 66 = .ok (.getfield 158, 3) := by decide +kernel
theorem dX9_visitOne_69 : decode cX9_visitOne 69 = .ok (.iload_n 3, 1) := by decide +kernel
theorem dX9_visitOne_70 : decode cX9_visitOne 70 = .ok (.iaload, 1) := by decide +kernel
theorem dX9_visitOne_71 : decode cX9_visitOne 71 = .ok (.istore 4, 2) := by decide +kernel
theorem dX9_visitOne_73 : decode cX9_visitOne 73 = .ok (.aload_n 0, 1) := by decide +kernel
theorem dX9_visitOne_74 : decode cX9_visitOne 74 = .ok (.getfield 28, 3) := by decide +kernel
theorem dX9_visitOne_77 : decode cX9_visitOne 77 = .ok (.iload_n 1, 1) := by decide +kernel
theorem dX9_visitOne_78 : decode cX9_visitOne 78 = .ok (.aaload, 1) := by decide +kernel
theorem dX9_visitOne_79 : decode cX9_visitOne 79 = .ok (.aload_n 0, 1) := by decide +kernel
theorem dX9_visitOne_80 : decode cX9_visitOne 80 = .ok (.getfield 28, 3) := by decide +kernel
theorem dX9_visitOne_83 : decode cX9_visitOne 83 = .ok (.iload 4, 2) := by decide +kernel
theorem dX9_visitOne_85 : decode cX9_visitOne 85 = .ok (.aaload, 1) := by decide +kernel
theorem dX9_visitOne_86 : decode cX9_visitOne 86 = .ok (.invokevirtual 132, 3) := by decide +kernel
theorem dX9_visitOne_89 : decode cX9_visitOne 89 = .ok (.aload_n 0, 1) := by decide +kernel
theorem dX9_visitOne_90 : decode cX9_visitOne 90 = .ok (.getfield 28, 3) := by decide +kernel
theorem dX9_visitOne_93 : decode cX9_visitOne 93 = .ok (.iload_n 1, 1) := by decide +kernel
theorem dX9_visitOne_94 : decode cX9_visitOne 94 = .ok (.aaload, 1) := by decide +kernel
theorem dX9_visitOne_95 : decode cX9_visitOne 95 = .ok (.aload_n 0, 1) := by decide +kernel
theorem dX9_visitOne_96 : decode cX9_visitOne 96 = .ok (.getfield 9, 3) := by decide +kernel
theorem dX9_visitOne_99 : decode cX9_visitOne 99 = .ok (.getfield 174, 3) := by decide +kernel
theorem dX9_visitOne_102 : decode cX9_visitOne 102 = .ok (.aload_n 0, 1) := by decide +kernel
theorem dX9_visitOne_103 : decode cX9_visitOne 103 = .ok (.getfield 25, 3) := by decide +kernel
theorem dX9_visitOne_106 : decode cX9_visitOne 106 = .ok (.getfield 177, 3) := by decide +kernel
theorem dX9_visitOne_109 : decode cX9_visitOne 109 = .ok (.iload_n 3, 1) := by decide +kernel
theorem dX9_visitOne_110 : decode cX9_visitOne 110 = .ok (.iaload, 1) := by decide +kernel
theorem dX9_visitOne_111 : decode cX9_visitOne 111 = .ok (.iaload, 1) := by decide +kernel
theorem dX9_visitOne_112 : decode cX9_visitOne 112 = .ok (.aload_n 0, 1) := by decide +kernel
theorem dX9_visitOne_113 : decode cX9_visitOne 113 = .ok (.getfield 9, 3) := by decide +kernel
theorem dX9_visitOne_116 : decode cX9_visitOne 116 = .ok (.iload 4, 2) := by decide +kernel
theorem dX9_visitOne_118 : decode cX9_visitOne 118 = .ok (.invokevirtual 136, 3) := by decide +kernel
theorem dX9_visitOne_121 : decode cX9_visitOne 121 = .ok (.invokevirtual 180, 3) := by decide +kernel
theorem dX9_visitOne_124 : decode cX9_visitOne 124 = .ok (.aload_n 0, 1) := by decide +kernel
theorem dX9_visitOne_125 : decode cX9_visitOne 125 = .ok (.getfield 28, 3) := by decide +kernel
theorem dX9_visitOne_128 : decode cX9_visitOne 128 = .ok (.iload_n 1, 1) := by decide +kernel
theorem dX9_visitOne_129 : decode cX9_visitOne 129 = .ok (.aaload, 1) := by decide +kernel
theorem dX9_visitOne_130 : decode cX9_visitOne 130 = .ok (.invokevirtual 184, 3) := by decide +kernel
theorem dX9_visitOne_133 : decode cX9_visitOne 133 = .ok (.ireturn, 1) := by decide +kernel
theorem dX9_visitOne_134 : decode cX9_visitOne 134 = .ok (.iload_n 2, 1) := by decide +kernel
theorem dX9_visitOne_135 : decode cX9_visitOne 135 = .ok (.ifCond .ne 18, 3) := by decide +kernel
theorem dX9_visitOne_138 : decode cX9_visitOne 138 = .ok (.iload_n 1, 1) := by decide +kernel
theorem dX9_visitOne_139 : decode cX9_visitOne 139 = .ok (.ifCond .ne 12, 3) := by decide +kernel
theorem dX9_visitOne_142 : decode cX9_visitOne 142 = .ok (.aload_n 0, 1) := by decide +kernel
theorem dX9_visitOne_143 : decode cX9_visitOne 143 = .ok (.getfield 28, 3) := by decide +kernel
theorem dX9_visitOne_146 : decode cX9_visitOne 146 = .ok (.iload_n 1, 1) := by decide +kernel
theorem dX9_visitOne_147 : decode cX9_visitOne 147 = .ok (.aaload, 1) := by decide +kernel
theorem dX9_visitOne_148 : decode cX9_visitOne 148 = .ok (.invokevirtual 188, 3) := by decide +kernel
theorem dX9_visitOne_151 : decode cX9_visitOne 151 = .ok (.iconst 1, 1) := by decide +kernel
theorem dX9_visitOne_152 : decode cX9_visitOne 152 = .ok (.ireturn, 1) := by decide +kernel
theorem dX9_visitOne_153 : decode cX9_visitOne 153 = .ok (.aload_n 0, 1) := by decide +kernel
theorem dX9_visitOne_154 : decode cX9_visitOne 154 = .ok (.getfield 40, 3) := by decide +kernel
theorem dX9_visitOne_157 : decode cX9_visitOne 157 = .ok (.lconst 1, 1) := by decide +kernel
theorem dX9_visitOne_158 : decode cX9_visitOne 158 = .ok (.invokevirtual 191, 3) := by decide +kernel
theorem dX9_visitOne_161 : decode cX9_visitOne 161 = .ok (.aload_n 0, 1) := by decide +kernel
theorem dX9_visitOne_162 : decode cX9_visitOne 162 = .ok (.iload_n 1, 1) := by decide +kernel
theorem dX9_visitOne_163 : decode cX9_visitOne 163 = .ok (.invokevirtual 194, 3) := by decide +kernel
theorem dX9_visitOne_166 : decode cX9_visitOne 166 = .ok (.aload_n 0, 1) := by decide +kernel
theorem dX9_visitOne_167 : decode cX9_visitOne 167 = .ok (.iload_n 1, 1) := by decide +kernel
theorem dX9_visitOne_168 : decode cX9_visitOne 168 = .ok (.invokevirtual 197, 3) := by decide +kernel
theorem dX9_visitOne_171 : decode cX9_visitOne 171 = .ok (.aload_n 0, 1) := by decide +kernel
theorem dX9_visitOne_172 : decode cX9_visitOne 172 = .ok (.aload_n 0, 1) := by decide +kernel
theorem dX9_visitOne_173 : decode cX9_visitOne 173 = .ok (.getfield 28, 3) := by decide +kernel
theorem dX9_visitOne_176 : decode cX9_visitOne 176 = .ok (.iload_n 1, 1) := by decide +kernel
theorem dX9_visitOne_177 : decode cX9_visitOne 177 = .ok (.aaload, 1) := by decide +kernel
theorem dX9_visitOne_178 : decode cX9_visitOne 178 = .ok (.aload_n 0, 1) := by decide +kernel
theorem dX9_visitOne_179 : decode cX9_visitOne 179 = .ok (.getfield 58, 3) := by decide +kernel
theorem dX9_visitOne_182 : decode cX9_visitOne 182 = .ok (.aload_n 0, 1) := by decide +kernel
theorem dX9_visitOne_183 : decode cX9_visitOne 183 = .ok (.getfield 40, 3) := by decide +kernel
theorem dX9_visitOne_186 : decode cX9_visitOne 186 = .ok (.invokevirtual 200, 3) := by decide +kernel
theorem dX9_visitOne_189 : decode cX9_visitOne 189 = .ok (.ireturn, 1) := by decide +kernel
def w_So_visitOne_134 (C : zC) (n0 : Nat) (Q : Int32 → zS → Prop)  (a0 : Nat) (a1 : Int32) (a2 : Int32) (κ : zS) : Prop :=
  (¬ a2 = (0 : Int32) →
    ∀ _ : zT κ (zR κ soWhole a0) = 8,
    zRun C 0 mNu_put [.ref (zR κ soWhole a0), .long (1 : Int64)] κ (oV (fun κ1 =>
      ∀ _ : zW C n0 κ1,
      ∀ _ : zM (zn κ) κ κ1,
      ∀ _ : zT κ1 a0 = 12,
      zRun C 6 mSo_joinInflow [.ref a0, .int a1] κ1 (oV (fun κ4 =>
        ∀ _ : zW C n0 κ4,
        ∀ _ : zM (zn κ1) κ1 κ4,
        ∀ _ : zT κ4 a0 = 12,
        zRun C 5 mSo_sumInflow [.ref a0, .int a1] κ4 (oV (fun κ8 =>
          ∀ _ : zW C n0 κ8,
          ∀ _ : zM (zn κ4) κ4 κ8,
          inb a1 (zN κ8 (zR κ8 soVisits a0)) ∧
          ∃ u13, (zQ κ8 (zR κ8 soVisits a0) (a1).toNatClampNeg) = some u13 ∧
          ∀ _ : zT κ8 a0 = 12,
          ∀ _ : zT κ8 u13 = 11,
          ∀ _ : zT κ8 (zR κ8 soSum a0) = 8,
          ∀ _ : zT κ8 (zR κ8 soWhole a0) = 8,
          zRun C 6 mSo_keep [.ref a0, .ref u13, .ref (zR κ8 soSum a0), .ref (zR κ8 soWhole a0)] κ8 (oI (fun r15 κ14 =>
            ∀ _ : zW C n0 κ14,
            ∀ _ : zM (zn κ8) κ8 κ14,
            nb r15 ∧ Q r15 κ14) noX)) noX)) noX)) noX)) ∧
  (a2 = (0 : Int32) →
    (¬ a1 = (0 : Int32) →
      Q (1 : Int32) κ) ∧
    (a1 = (0 : Int32) →
      inb a1 (zN κ (zR κ soVisits a0)) ∧
      ∃ u17, (zQ κ (zR κ soVisits a0) (a1).toNatClampNeg) = some u17 ∧
      ∀ _ : zT κ u17 = 11,
      zRun C 1 mRa_putOne [.ref u17] κ (oV (fun κ18 =>
        ∀ _ : zW C n0 κ18,
        ∀ _ : zM (zn κ) κ κ18,
        Q (1 : Int32) κ18) noX)))
theorem t_So_visitOne_134 {C : zC} {n0 : Nat} {Q : Int32 → zS → Prop}   {a0 : Nat} {a1 : Int32} {a2 : Int32} {κ : zS} (W : zW C n0 κ) (Ta0 : zT κ a0 = 12) (F : w_So_visitOne_134 C n0 Q  a0 a1 a2 κ) : zG C n0 7 mSo_visitOne 134 [some (.ref a0), some (.int a1), some (.int a2), none, none] [] κ (oI Q noX) := by
  unfold w_So_visitOne_134 at F
  refine y_iln dX9_visitOne_134 rfl ?_
  refine y_in (a2 = (0 : Int32)) dX9_visitOne_135 (t := 153) rfl rfl (fun c9 => ?_) (fun c9 => ?_)
  · replace F := F.1 c9
    refine y_aln dX9_visitOne_153 rfl ?_
    refine gf_X9_40 W dX9_visitOne_154 rfl Ta0 ?_
    refine y_lc dX9_visitOne_157 zl_1 ?_
    replace F := F (ty_soWhole W Ta0)
    refine k_X9_191 W dX9_visitOne_158 rfl (Nat.le_of_ble_eq_true rfl) (Nat.le_of_ble_eq_true rfl) (Or.inl (ty_soWhole W Ta0)) F (fun  κ1 Wκ1 Mκ1 F => ?_) (fun _ _ h9 => False.elim h9)
    replace F := F Wκ1 Mκ1
    refine y_aln dX9_visitOne_161 rfl ?_
    refine y_iln dX9_visitOne_162 rfl ?_
    have h6 := (ztm W Mκ1 Ta0)
    replace F := F h6
    refine k_X9_194 Wκ1 dX9_visitOne_163 rfl (Nat.le_of_ble_eq_true rfl) (Nat.le_of_ble_eq_true rfl) (Or.inl h6) F (fun  κ4 Wκ4 Mκ4 F => ?_) (fun _ _ h9 => False.elim h9)
    replace F := F Wκ4 Mκ4
    refine y_aln dX9_visitOne_166 rfl ?_
    refine y_iln dX9_visitOne_167 rfl ?_
    have h10 := (ztm Wκ1 Mκ4 h6)
    replace F := F h10
    refine k_X9_197 Wκ4 dX9_visitOne_168 rfl (Nat.le_of_ble_eq_true rfl) (Nat.le_of_ble_eq_true rfl) (Or.inl h10) F (fun  κ8 Wκ8 Mκ8 F => ?_) (fun _ _ h9 => False.elim h9)
    replace F := F Wκ8 Mκ8
    refine y_aln dX9_visitOne_171 rfl ?_
    refine y_aln dX9_visitOne_172 rfl ?_
    have h12 := (ztm Wκ4 Mκ8 h10)
    refine gf_X9_28 Wκ8 dX9_visitOne_173 rfl h12 ?_
    refine y_iln dX9_visitOne_176 rfl ?_
    refine y_qld (t := 5) dX9_visitOne_177 (ty_soVisits Wκ8 h12) (by decide) F.1 ?_
    replace F := F.2
    refine y_aln dX9_visitOne_178 rfl ?_
    refine gf_X9_58 Wκ8 dX9_visitOne_179 rfl h12 ?_
    refine y_aln dX9_visitOne_182 rfl ?_
    refine gf_X9_40 Wκ8 dX9_visitOne_183 rfl h12 ?_
    obtain ⟨u13, Eu13, F⟩ := F
    have Tu13 : zT κ8 u13 = 11 := (fun v hv => Wκ8.2.2.2.2.1 _ _ v (ty_soVisits Wκ8 h12) hv) u13 Eu13
    refine y_uq2 Eu13 ?_
    replace F := F h12
    replace F := F Tu13
    replace F := F (ty_soSum Wκ8 h12)
    replace F := F (ty_soWhole Wκ8 h12)
    refine k_X9_200 Wκ8 dX9_visitOne_186 rfl (Nat.le_of_ble_eq_true rfl) (Nat.le_of_ble_eq_true rfl) (Or.inl h12) F (fun r15 κ14 Wκ14 Mκ14 F => ?_) (fun _ _ h9 => False.elim h9)
    replace F := F Wκ14 Mκ14
    exact y_ri Wκ14 dX9_visitOne_189 rfl (nb_nar F.1) F.2
  · replace F := F.2 c9
    refine y_iln dX9_visitOne_138 rfl ?_
    refine y_in (a1 = (0 : Int32)) dX9_visitOne_139 (t := 151) rfl rfl (fun c9 => ?_) (fun c9 => ?_)
    · replace F := F.1 c9
      refine y_ic dX9_visitOne_151 zi_1 ?_
      exact y_ri W dX9_visitOne_152 rfl (nb_nar nb_1) F
    · replace F := F.2 c9
      refine y_aln dX9_visitOne_142 rfl ?_
      refine gf_X9_28 W dX9_visitOne_143 rfl Ta0 ?_
      refine y_iln dX9_visitOne_146 rfl ?_
      refine y_qld (t := 5) dX9_visitOne_147 (ty_soVisits W Ta0) (by decide) F.1 ?_
      replace F := F.2
      obtain ⟨u17, Eu17, F⟩ := F
      have Tu17 : zT κ u17 = 11 := (fun v hv => W.2.2.2.2.1 _ _ v (ty_soVisits W Ta0) hv) u17 Eu17
      refine y_uq0 Eu17 ?_
      replace F := F Tu17
      refine k_X9_188 W dX9_visitOne_148 rfl (Nat.le_of_ble_eq_true rfl) (Nat.le_of_ble_eq_true rfl) (Or.inl Tu17) F (fun  κ18 Wκ18 Mκ18 F => ?_) (fun _ _ h9 => False.elim h9)
      replace F := F Wκ18 Mκ18
      refine y_ic dX9_visitOne_151 zi_1 ?_
      exact y_ri Wκ18 dX9_visitOne_152 rfl (nb_nar nb_1) F

def w_So_visitOne_15 (C : zC) (n0 : Nat) (Q : Int32 → zS → Prop)  (a0 : Nat) (a1 : Int32) (a2 : Int32) (a3 : Int32) (a4 : Int32) (κ : zS) : Prop :=
  ∃ I : Nat → Nat → Int32 → Int32 → Int32 → Int32 → zS → Prop, (∃ n, I n a0 a1 a2 a3 a4 κ) ∧ ∀ n a0 a1 a2 a3 a4 κ, zW C n0 κ → zT κ a0 = 12 → I n a0 a1 a2 a3 a4 κ →
    inb (a1 + (1 : Int32)) (zN κ (zR κ weBackFirsts (zR κ soWeb a0))) ∧
    ((zA κ (zR κ weBackFirsts (zR κ soWeb a0)) ((a1 + (1 : Int32))).toNatClampNeg) ≤ a4 →
      (¬ a2 = (1 : Int32) →
        w_So_visitOne_134 C n0 Q  a0 a1 a2 κ) ∧
      (a2 = (1 : Int32) →
        (a1 ≤ (0 : Int32) →
          w_So_visitOne_134 C n0 Q  a0 a1 a2 κ) ∧
        (¬ a1 ≤ (0 : Int32) →
          inb a3 (zN κ (zR κ weSources (zR κ soWeb a0))) ∧
          ∀ v4_1 : Int32, v4_1 = (zA κ (zR κ weSources (zR κ soWeb a0)) (a3).toNatClampNeg) →
          inb a1 (zN κ (zR κ soVisits a0)) ∧
          inb v4_1 (zN κ (zR κ soVisits a0)) ∧
          ∃ u2, (zQ κ (zR κ soVisits a0) (a1).toNatClampNeg) = some u2 ∧
          ∃ u3, (zQ κ (zR κ soVisits a0) (v4_1).toNatClampNeg) = some u3 ∧
          ∀ _ : zT κ u2 = 11,
          ∀ _ : zT κ u3 = 11,
          zRun C 2 mRa_copy [.ref u2, .ref u3] κ (oV (fun κ4 =>
            ∀ _ : zW C n0 κ4,
            ∀ _ : zM (zn κ) κ κ4,
            inb a1 (zN κ4 (zR κ4 soVisits a0)) ∧
            inb a3 (zN κ4 (zR κ4 weEdges (zR κ4 soWeb a0))) ∧
            inb (zA κ4 (zR κ4 weEdges (zR κ4 soWeb a0)) (a3).toNatClampNeg) (zN κ4 (zR κ4 atWeights (zR κ4 soAtlas a0))) ∧
            ∀ _ : zT κ4 (zR κ4 soAtlas a0) = 3,
            zRun C 0 mAt_divisorOf [.ref (zR κ4 soAtlas a0), .int v4_1] κ4 (oI (fun r9 κ8 =>
              ∀ _ : zW C n0 κ8,
              ∀ _ : zM (zn κ4) κ4 κ8,
              ∃ u11, (zQ κ4 (zR κ4 soVisits a0) (a1).toNatClampNeg) = some u11 ∧
              ∀ _ : zT κ8 u11 = 11,
              zRun C 4 mRa_scale [.ref u11, .int (zA κ4 (zR κ4 atWeights (zR κ4 soAtlas a0)) ((zA κ4 (zR κ4 weEdges (zR κ4 soWeb a0)) (a3).toNatClampNeg)).toNatClampNeg), .int r9] κ8 (oV (fun κ12 =>
                ∀ _ : zW C n0 κ12,
                ∀ _ : zM (zn κ8) κ8 κ12,
                inb a1 (zN κ12 (zR κ12 soVisits a0)) ∧
                ∃ u16, (zQ κ12 (zR κ12 soVisits a0) (a1).toNatClampNeg) = some u16 ∧
                ∀ _ : zT κ12 u16 = 11,
                zRun C 1 mRa_fits [.ref u16] κ12 (oI (fun r18 κ17 =>
                  ∀ _ : zW C n0 κ17,
                  ∀ _ : zM (zn κ12) κ12 κ17,
                  nb r18 ∧ Q r18 κ17) noX)) noX)) noX)) noX)))) ∧
    (¬ (zA κ (zR κ weBackFirsts (zR κ soWeb a0)) ((a1 + (1 : Int32))).toNatClampNeg) ≤ a4 →
      ∀ _ : zT κ a0 = 12,
      zRun C 0 mSo_comesIn [.ref a0, .int a4, .int a1] κ (oI (fun r21 κ20 =>
        ∀ _ : zW C n0 κ20,
        ∀ _ : zM (zn κ) κ κ20,
        (r21 = (0 : Int32) →
          ∀ v4_23 : Int32, v4_23 = a4 + (1 : Int32) →
          ∃ k < n, I k a0 a1 a2 a3 v4_23 κ20) ∧
        (¬ r21 = (0 : Int32) →
          ∀ v2_25 : Int32, v2_25 = a2 + (1 : Int32) →
          ∀ v4_26 : Int32, v4_26 = a4 + (1 : Int32) →
          ∃ k < n, I k a0 a1 v2_25 a4 v4_26 κ20)) noX))
theorem t_So_visitOne_15 {C : zC} {n0 : Nat} {Q : Int32 → zS → Prop}   {a0 : Nat} {a1 : Int32} {a2 : Int32} {a3 : Int32} {a4 : Int32} {κ : zS} (W : zW C n0 κ) (Ta0 : zT κ a0 = 12) (F : w_So_visitOne_15 C n0 Q  a0 a1 a2 a3 a4 κ) : zG C n0 7 mSo_visitOne 15 [some (.ref a0), some (.int a1), some (.int a2), some (.int a3), some (.int a4)] [] κ (oI Q noX) := by
  obtain ⟨I, ⟨m0, hI0⟩, F0⟩ := F
  have key : ∀ n a0 a1 a2 a3 a4 κ, zW C n0 κ → zT κ a0 = 12 → I n a0 a1 a2 a3 a4 κ → zG C n0 7 mSo_visitOne 15 [some (.ref a0), some (.int a1), some (.int a2), some (.int a3), some (.int a4)] [] κ (oI Q noX) := by
    intro n
    induction n using Nat.strongRecOn with
    | _ n ih =>
      intro a0 a1 a2 a3 a4 κ W Ta0 hI
      have F := F0 n a0 a1 a2 a3 a4 κ W Ta0 hI
      clear hI hI0
      refine y_il dX9_visitOne_15 rfl ?_
      refine y_aln dX9_visitOne_17 rfl ?_
      refine gf_X9_25 W dX9_visitOne_18 rfl Ta0 ?_
      refine gf_X9_167 W dX9_visitOne_21 rfl (ty_soWeb W Ta0) ?_
      refine y_iln dX9_visitOne_24 rfl ?_
      refine y_ic dX9_visitOne_25 zi_1 ?_
      refine y_iadd dX9_visitOne_26 ?_
      refine y_ald dX9_visitOne_27 (ty_weBackFirsts W (ty_soWeb W Ta0)) F.1 ?_
      replace F := F.2
      refine y_ii ((zA κ (zR κ weBackFirsts (zR κ soWeb a0)) ((a1 + (1 : Int32))).toNatClampNeg) ≤ a4) dX9_visitOne_28 (t := 53) rfl rfl (fun c9 => ?_) (fun c9 => ?_)
      · replace F := F.1 c9
        refine y_iln dX9_visitOne_53 rfl ?_
        refine y_ic dX9_visitOne_54 zi_1 ?_
        refine y_iin (a2 = (1 : Int32)) dX9_visitOne_55 (t := 134) rfl rfl (fun c9 => ?_) (fun c9 => ?_)
        · replace F := F.1 c9
          exact y_k (t_So_visitOne_134  W Ta0 F) ⟨rfl, rfl, rfl, trivial⟩
        · replace F := F.2 c9
          refine y_iln dX9_visitOne_58 rfl ?_
          refine y_i (a1 ≤ (0 : Int32)) dX9_visitOne_59 (t := 134) rfl rfl (fun c9 => ?_) (fun c9 => ?_)
          · replace F := F.1 c9
            exact y_k (t_So_visitOne_134  W Ta0 F) ⟨rfl, rfl, rfl, trivial⟩
          · replace F := F.2 c9
            refine y_aln dX9_visitOne_62 rfl ?_
            refine gf_X9_25 W dX9_visitOne_63 rfl Ta0 ?_
            refine gf_X9_158 W dX9_visitOne_66 rfl (ty_soWeb W Ta0) ?_
            refine y_iln dX9_visitOne_69 rfl ?_
            refine y_ald dX9_visitOne_70 (ty_weSources W (ty_soWeb W Ta0)) F.1 ?_
            replace F := F.2
            refine y_isb dX9_visitOne_71 (Nat.le_of_ble_eq_true rfl) (fun v4_1 ev4_1 => ?_)
            replace F := F v4_1 ev4_1
            show zG _ _ _ _ _ [some (.ref a0), some (.int a1), some (.int a2), some (.int a3), some (.int v4_1)] _ _ _
            refine y_aln dX9_visitOne_73 rfl ?_
            refine gf_X9_28 W dX9_visitOne_74 rfl Ta0 ?_
            refine y_iln dX9_visitOne_77 rfl ?_
            refine y_qld (t := 5) dX9_visitOne_78 (ty_soVisits W Ta0) (by decide) F.1 ?_
            replace F := F.2
            refine y_aln dX9_visitOne_79 rfl ?_
            refine gf_X9_28 W dX9_visitOne_80 rfl Ta0 ?_
            refine y_il dX9_visitOne_83 rfl ?_
            refine y_qld (t := 5) dX9_visitOne_85 (ty_soVisits W Ta0) (by decide) F.1 ?_
            replace F := F.2
            obtain ⟨u2, Eu2, F⟩ := F
            have Tu2 : zT κ u2 = 11 := (fun v hv => W.2.2.2.2.1 _ _ v (ty_soVisits W Ta0) hv) u2 Eu2
            refine y_uq1 Eu2 ?_
            obtain ⟨u3, Eu3, F⟩ := F
            have Tu3 : zT κ u3 = 11 := (fun v hv => W.2.2.2.2.1 _ _ v (ty_soVisits W Ta0) hv) u3 Eu3
            refine y_uq0 Eu3 ?_
            replace F := F Tu2
            replace F := F Tu3
            refine k_X9_132 W dX9_visitOne_86 rfl (Nat.le_of_ble_eq_true rfl) (Nat.le_of_ble_eq_true rfl) (Or.inl Tu2) F (fun  κ4 Wκ4 Mκ4 F => ?_) (fun _ _ h9 => False.elim h9)
            replace F := F Wκ4 Mκ4
            refine y_aln dX9_visitOne_89 rfl ?_
            have h7 := (ztm W Mκ4 Ta0)
            refine gf_X9_28 Wκ4 dX9_visitOne_90 rfl h7 ?_
            refine y_iln dX9_visitOne_93 rfl ?_
            refine y_qld (t := 5) dX9_visitOne_94 (ty_soVisits Wκ4 h7) (by decide) F.1 ?_
            replace F := F.2
            refine y_aln dX9_visitOne_95 rfl ?_
            refine gf_X9_9 Wκ4 dX9_visitOne_96 rfl h7 ?_
            refine gf_X9_174 Wκ4 dX9_visitOne_99 rfl (ty_soAtlas Wκ4 h7) ?_
            refine y_aln dX9_visitOne_102 rfl ?_
            refine gf_X9_25 Wκ4 dX9_visitOne_103 rfl h7 ?_
            refine gf_X9_177 Wκ4 dX9_visitOne_106 rfl (ty_soWeb Wκ4 h7) ?_
            refine y_iln dX9_visitOne_109 rfl ?_
            refine y_ald dX9_visitOne_110 (ty_weEdges Wκ4 (ty_soWeb Wκ4 h7)) F.1 ?_
            replace F := F.2
            refine y_ald dX9_visitOne_111 (ty_atWeights Wκ4 (ty_soAtlas Wκ4 h7)) F.1 ?_
            replace F := F.2
            refine y_aln dX9_visitOne_112 rfl ?_
            refine gf_X9_9 Wκ4 dX9_visitOne_113 rfl h7 ?_
            refine y_il dX9_visitOne_116 rfl ?_
            replace F := F (ty_soAtlas Wκ4 h7)
            refine k_X9_136 Wκ4 dX9_visitOne_118 rfl (Nat.le_of_ble_eq_true rfl) (by simp only [List.map, cat_q]; exact (Nat.le_of_ble_eq_true rfl)) (Or.inl (ty_soAtlas Wκ4 h7)) F (fun r9 κ8 Wκ8 Mκ8 F => ?_) (fun _ _ h9 => False.elim h9)
            replace F := F Wκ8 Mκ8
            obtain ⟨u11, Eu11, F⟩ := F
            have Tu11 : zT κ8 u11 = 11 := (fun v hv => ztm Wκ4 Mκ8 ((fun v hv => Wκ4.2.2.2.2.1 _ _ v (ty_soVisits Wκ4 h7) hv) v hv)) u11 Eu11
            refine y_uq2 Eu11 ?_
            replace F := F Tu11
            refine k_X9_180 Wκ8 dX9_visitOne_121 rfl (Nat.le_of_ble_eq_true rfl) (Nat.le_of_ble_eq_true rfl) (Or.inl Tu11) F (fun  κ12 Wκ12 Mκ12 F => ?_) (fun _ _ h9 => False.elim h9)
            replace F := F Wκ12 Mκ12
            refine y_aln dX9_visitOne_124 rfl ?_
            have h15 := (ztm Wκ8 Mκ12 (ztm Wκ4 Mκ8 h7))
            refine gf_X9_28 Wκ12 dX9_visitOne_125 rfl h15 ?_
            refine y_iln dX9_visitOne_128 rfl ?_
            refine y_qld (t := 5) dX9_visitOne_129 (ty_soVisits Wκ12 h15) (by decide) F.1 ?_
            replace F := F.2
            obtain ⟨u16, Eu16, F⟩ := F
            have Tu16 : zT κ12 u16 = 11 := (fun v hv => Wκ12.2.2.2.2.1 _ _ v (ty_soVisits Wκ12 h15) hv) u16 Eu16
            refine y_uq0 Eu16 ?_
            replace F := F Tu16
            refine k_X9_184 Wκ12 dX9_visitOne_130 rfl (Nat.le_of_ble_eq_true rfl) (Nat.le_of_ble_eq_true rfl) (Or.inl Tu16) F (fun r18 κ17 Wκ17 Mκ17 F => ?_) (fun _ _ h9 => False.elim h9)
            replace F := F Wκ17 Mκ17
            exact y_ri Wκ17 dX9_visitOne_133 rfl (nb_nar F.1) F.2
      · replace F := F.2 c9
        refine y_aln dX9_visitOne_31 rfl ?_
        refine y_il dX9_visitOne_32 rfl ?_
        refine y_iln dX9_visitOne_34 rfl ?_
        replace F := F Ta0
        refine k_X9_170 W dX9_visitOne_35 rfl (Nat.le_of_ble_eq_true rfl) (Nat.le_of_ble_eq_true rfl) (Or.inl Ta0) F (fun r21 κ20 Wκ20 Mκ20 F => ?_) (fun _ _ h9 => False.elim h9)
        replace F := F Wκ20 Mκ20
        refine y_i (r21 = (0 : Int32)) dX9_visitOne_38 (t := 47) rfl rfl (fun c9 => ?_) (fun c9 => ?_)
        · replace F := F.1 c9
          refine y_incb dX9_visitOne_47 zi_1 rfl (Nat.le_of_ble_eq_true rfl) (fun v4_23 ev4_23 => ?_)
          replace F := F v4_23 ev4_23
          show zG _ _ _ _ _ [some (.ref a0), some (.int a1), some (.int a2), some (.int a3), some (.int v4_23)] _ _ _
          refine y_goto dX9_visitOne_50 (t := 15) rfl ?_
          have h24 := (ztm W Mκ20 Ta0)
          obtain ⟨k, hk, hI⟩ := F
          exact y_k (ih k hk _ _ _ _ _ _ Wκ20 h24 hI) ⟨rfl, rfl, rfl, rfl, rfl, trivial⟩
        · replace F := F.2 c9
          refine y_incb dX9_visitOne_41 zi_1 rfl (Nat.le_of_ble_eq_true rfl) (fun v2_25 ev2_25 => ?_)
          replace F := F v2_25 ev2_25
          show zG _ _ _ _ _ [some (.ref a0), some (.int a1), some (.int v2_25), some (.int a3), some (.int a4)] _ _ _
          refine y_il dX9_visitOne_44 rfl ?_
          refine y_isn dX9_visitOne_46 (Nat.le_of_ble_eq_true rfl) rfl ?_
          show zG _ _ _ _ _ [some (.ref a0), some (.int a1), some (.int v2_25), some (.int a4), some (.int a4)] _ _ _
          refine y_incb dX9_visitOne_47 zi_1 rfl (Nat.le_of_ble_eq_true rfl) (fun v4_26 ev4_26 => ?_)
          replace F := F v4_26 ev4_26
          show zG _ _ _ _ _ [some (.ref a0), some (.int a1), some (.int v2_25), some (.int a4), some (.int v4_26)] _ _ _
          refine y_goto dX9_visitOne_50 (t := 15) rfl ?_
          have h27 := (ztm W Mκ20 Ta0)
          obtain ⟨k, hk, hI⟩ := F
          exact y_k (ih k hk _ _ _ _ _ _ Wκ20 h27 hI) ⟨rfl, rfl, rfl, rfl, rfl, trivial⟩
  exact key m0 a0 a1 a2 a3 a4 κ W Ta0 hI0

def w_So_visitOne_0 (C : zC) (n0 : Nat) (Q : Int32 → zS → Prop)  (a0 : Nat) (a1 : Int32) (κ : zS) : Prop :=
  inb a1 (zN κ (zR κ weBackFirsts (zR κ soWeb a0))) ∧
  ∀ v4_1 : Int32, v4_1 = (zA κ (zR κ weBackFirsts (zR κ soWeb a0)) (a1).toNatClampNeg) →
  w_So_visitOne_15 C n0 Q  a0 a1 (0 : Int32) (0 : Int32) v4_1 κ
theorem t_So_visitOne_0 {C : zC} {n0 : Nat} {Q : Int32 → zS → Prop}   {a0 : Nat} {a1 : Int32} {κ : zS} (W : zW C n0 κ) (Ta0 : zT κ a0 = 12) (F : w_So_visitOne_0 C n0 Q  a0 a1 κ) : zG C n0 7 mSo_visitOne 0 [some (.ref a0), some (.int a1), none, none, none] [] κ (oI Q noX) := by
  unfold w_So_visitOne_0 at F
  refine y_ic dX9_visitOne_0 zi_0 ?_
  refine y_isn dX9_visitOne_1 (Nat.le_of_ble_eq_true rfl) rfl ?_
  show zG _ _ _ _ _ [some (.ref a0), some (.int a1), some (.int (0 : Int32)), none, none] _ _ _
  refine y_ic dX9_visitOne_2 zi_0 ?_
  refine y_isn dX9_visitOne_3 (Nat.le_of_ble_eq_true rfl) rfl ?_
  show zG _ _ _ _ _ [some (.ref a0), some (.int a1), some (.int (0 : Int32)), some (.int (0 : Int32)), none] _ _ _
  refine y_aln dX9_visitOne_4 rfl ?_
  refine gf_X9_25 W dX9_visitOne_5 rfl Ta0 ?_
  refine gf_X9_167 W dX9_visitOne_8 rfl (ty_soWeb W Ta0) ?_
  refine y_iln dX9_visitOne_11 rfl ?_
  refine y_ald dX9_visitOne_12 (ty_weBackFirsts W (ty_soWeb W Ta0)) F.1 ?_
  replace F := F.2
  refine y_isb dX9_visitOne_13 (Nat.le_of_ble_eq_true rfl) (fun v4_1 ev4_1 => ?_)
  replace F := F v4_1 ev4_1
  show zG _ _ _ _ _ [some (.ref a0), some (.int a1), some (.int (0 : Int32)), some (.int (0 : Int32)), some (.int v4_1)] _ _ _
  exact y_k (t_So_visitOne_15  W Ta0 F) ⟨rfl, rfl, rfl, rfl, rfl, trivial⟩

theorem So_visitOne_run {C : zC} {n0 : Nat} {Q : Int32 → zS → Prop} {a0 : Nat} {a1 : Int32} {κ : zS} (W : zW C n0 κ) (Ta0 : zT κ a0 = 12) (F : w_So_visitOne_0 C (zn κ) Q a0 a1 κ) : zRun C 7 mSo_visitOne [.ref a0, .int a1] κ (oI Q noX) := z_run (m_ent _ 3) (t_So_visitOne_0 (W.lo (Nat.le_trans W.1.2.1 W.1.2.2) (Nat.le_refl _)) Ta0 F)

theorem dX9_findVisits_0 : decode cX9_findVisits 0 = .ok (.aload_n 0, 1) := by decide +kernel
theorem dX9_findVisits_1 : decode cX9_findVisits 1 = .ok (.iconst 0, 1) := by decide +kernel
theorem dX9_findVisits_2 : decode cX9_findVisits 2 = .ok (.putfield 84, 3) := by decide +kernel
theorem dX9_findVisits_5 : decode cX9_findVisits 5 = .ok (.aload_n 0, 1) := by decide +kernel
theorem dX9_findVisits_6 : decode cX9_findVisits 6 = .ok (.getfield 25, 3) := by decide +kernel
theorem dX9_findVisits_9 : decode cX9_findVisits 9 = .ok (.aload_n 0, 1) := by decide +kernel
theorem dX9_findVisits_10 : decode cX9_findVisits 10 = .ok (.getfield 9, 3) := by decide +kernel
theorem dX9_findVisits_13 : decode cX9_findVisits 13 = .ok (.iconst 1, 1) := by decide +kernel
theorem dX9_findVisits_14 : decode cX9_findVisits 14 = .ok (.invokevirtual 88, 3) := by decide +kernel
theorem dX9_findVisits_17 : decode cX9_findVisits 17 = .ok (.aload_n 0, 1) := by decide +kernel
theorem dX9_findVisits_18 : decode cX9_findVisits 18 = .ok (.getfield 25, 3) := by decide +kernel
theorem dX9_findVisits_21 : decode cX9_findVisits 21 = .ok (.invokevirtual 94, 3) := by decide +kernel
theorem dX9_findVisits_24 : decode cX9_findVisits 24 = .ok (.iconst 0, 1) := by decide +kernel
theorem dX9_findVisits_25 : decode cX9_findVisits 25 = .ok (.istore_n 1, 1) := by decide +kernel
theorem dX9_findVisits_26 : decode cX9_findVisits 26 = .ok (.iload_n 1, 1) := by decide +kernel
theorem dX9_findVisits_27 : decode cX9_findVisits 27 = .ok (.aload_n 0, 1) := by decide +kernel
theorem dX9_findVisits_28 : decode cX9_findVisits 28 = .ok (.getfield 25, 3) := by decide +kernel
theorem dX9_findVisits_31 : decode cX9_findVisits 31 = .ok (.getfield 97, 3) := by decide +kernel
theorem dX9_findVisits_34 : decode cX9_findVisits 34 = .ok (.if_icmp .ge 53, 3) := by decide +kernel
theorem dX9_findVisits_37 : decode cX9_findVisits 37 = .ok (.aload_n 0, 1) := by decide +kernel
theorem dX9_findVisits_38 : decode cX9_findVisits 38 = .ok (.getfield 25, 3) := by decide +kernel
theorem dX9_findVisits_41 : decode cX9_findVisits 41 = .ok (.getfield 101, 3) := by decide +kernel
theorem dX9_findVisits_44 : decode cX9_findVisits 44 = .ok (.aload_n 0, 1) := by decide +kernel
theorem dX9_findVisits_45 : decode cX9_findVisits 45 = .ok (.getfield 25, 3) := by decide +kernel
theorem dX9_findVisits_48 : decode cX9_findVisits 48 = .ok (.getfield 105, 3) := by decide +kernel
theorem dX9_findVisits_51 : decode cX9_findVisits 51 = .ok (.aload_n 0, 1) := by decide +kernel
theorem dX9_findVisits_52 : decode cX9_findVisits 52 = .ok (.getfield 25, 3) := by decide +kernel
theorem dX9_findVisits_55 : decode cX9_findVisits 55 = .ok (.getfield 108, 3) := by decide +kernel
theorem dX9_findVisits_58 : decode cX9_findVisits 58 = .ok (.iload_n 1, 1) := by decide +kernel
theorem dX9_findVisits_59 : decode cX9_findVisits 59 = .ok (.iaload, 1) := by decide +kernel
theorem dX9_findVisits_60 : decode cX9_findVisits 60 = .ok (.iaload, 1) := by decide +kernel
theorem dX9_findVisits_61 : decode cX9_findVisits 61 = .ok (.baload, 1) := by decide +kernel
theorem dX9_findVisits_62 : decode cX9_findVisits 62 = .ok (.ifCond .eq 19, 3) := by decide +kernel
theorem dX9_findVisits_65 : decode cX9_findVisits 65 = .ok (.aload_n 0, 1) := by decide +kernel
theorem dX9_findVisits_66 : decode cX9_findVisits 66 = .ok (.getfield 25, 3) := by decide +kernel
theorem dX9_findVisits_69 : decode cX9_findVisits 69 = .ok (.iload_n 1, 1) := by decide +kernel
theorem dX9_findVisits_70 : decode cX9_findVisits 70 = .ok (.invokevirtual 111, 3) := by decide +kernel
theorem dX9_findVisits_73 : decode cX9_findVisits 73 = .ok (.bipush 32, 2) := by decide +kernel
theorem dX9_findVisits_75 : decode cX9_findVisits 75 = .ok (.if_icmp .le 6, 3) := by decide +kernel
theorem dX9_findVisits_78 : decode cX9_findVisits 78 = .ok (.bipush (-2), 2) := by decide +kernel
theorem dX9_findVisits_80 : decode cX9_findVisits 80 = .ok (.ireturn, 1) := by decide +kernel
theorem dX9_findVisits_81 : decode cX9_findVisits 81 = .ok (.iinc 1 1, 3) := by decide +kernel
theorem dX9_findVisits_84 : decode cX9_findVisits 84 = .ok (.goto (-58), 3) := by decide +kernel
theorem dX9_findVisits_87 : decode cX9_findVisits 87 = .ok (.aload_n 0, 1) := by decide +kernel
theorem dX9_findVisits_88 : decode cX9_findVisits 88 = .ok (.aload_n 0, 1) := by decide +kernel
theorem dX9_findVisits_89 : decode cX9_findVisits 89 = .ok (.getfield 28, 3) := by decide +kernel
theorem dX9_findVisits_92 : decode cX9_findVisits 92 = .ok (.aload_n 0, 1) := by decide +kernel
theorem dX9_findVisits_93 : decode cX9_findVisits 93 = .ok (.getfield 25, 3) := by decide +kernel
theorem dX9_findVisits_96 : decode cX9_findVisits 96 = .ok (.getfield 115, 3) := by decide +kernel
theorem dX9_findVisits_99 : decode cX9_findVisits 99 = .ok (.invokestatic 118, 3) := by decide +kernel
theorem dX9_findVisits_102 : decode cX9_findVisits 102 = .ok (.putfield 28, 3) := by decide +kernel
theorem dX9_findVisits_105 : decode cX9_findVisits 105 = .ok (.aload_n 0, 1) := by decide +kernel
theorem dX9_findVisits_106 : decode cX9_findVisits 106 = .ok (.getfield 68, 3) := by decide +kernel
theorem dX9_findVisits_109 : decode cX9_findVisits 109 = .ok (.arraylength, 1) := by decide +kernel
theorem dX9_findVisits_110 : decode cX9_findVisits 110 = .ok (.aload_n 0, 1) := by decide +kernel
theorem dX9_findVisits_111 : decode cX9_findVisits 111 = .ok (.getfield 25, 3) := by decide +kernel
theorem dX9_findVisits_114 : decode cX9_findVisits 114 = .ok (.getfield 115, 3) := by decide +kernel
theorem dX9_findVisits_117 : decode cX9_findVisits 117 = .ok (.if_icmp .ge 12, 3) := by decide +kernel
theorem dX9_findVisits_120 : decode cX9_findVisits 120 = .ok (.aload_n 0, 1) := by decide +kernel
theorem dX9_findVisits_121 : decode cX9_findVisits 121 = .ok (.sipush 1000, 3) := by decide +kernel
theorem dX9_findVisits_124 : decode cX9_findVisits 124 = .ok (.newarray .int, 2) := by decide +kernel
theorem dX9_findVisits_126 : decode cX9_findVisits 126 = .ok (.putfield 68, 3) := by decide +kernel
theorem dX9_findVisits_129 : decode cX9_findVisits 129 = .ok (.aload_n 0, 1) := by decide +kernel
theorem dX9_findVisits_130 : decode cX9_findVisits 130 = .ok (.getfield 25, 3) := by decide +kernel
theorem dX9_findVisits_133 : decode cX9_findVisits 133 = .ok (.getfield 97, 3) := by decide +kernel
theorem dX9_findVisits_136 : decode cX9_findVisits 136 = .ok (.iconst 1, 1) := by decide +kernel
theorem dX9_findVisits_137 : decode cX9_findVisits 137 = .ok (.isub, 1) := by decide +kernel
theorem dX9_findVisits_138 : decode cX9_findVisits 138 = .ok (.istore_n 1, 1) := by decide +kernel
theorem dX9_findVisits_139 : decode cX9_findVisits 139 = .ok (.iload_n 1, 1) := by decide +kernel
theorem dX9_findVisits_140 : decode cX9_findVisits 140 = .ok (.ifCond .lt 87, 3) := by decide +kernel
theorem dX9_findVisits_143 : decode cX9_findVisits 143 = .ok (.iconst 1, 1) := by decide +kernel
theorem dX9_findVisits_144 : decode cX9_findVisits 144 = .ok (.istore_n 2, 1) := by decide +kernel
theorem dX9_findVisits_145 : decode cX9_findVisits 145 = .ok (.aload_n 0, 1) := by decide +kernel
theorem dX9_findVisits_146 : decode cX9_findVisits 146 = .ok (.getfield 25, 3) := by decide +kernel
theorem dX9_findVisits_149 : decode cX9_findVisits 149 = .ok (.getfield 101, 3) := by decide +kernel
theorem dX9_findVisits_152 : decode cX9_findVisits 152 = .ok (.aload_n 0, 1) := by decide +kernel
theorem dX9_findVisits_153 : decode cX9_findVisits 153 = .ok (.getfield 25, 3) := by decide +kernel
theorem dX9_findVisits_156 : decode cX9_findVisits 156 = .ok (.getfield 105, 3) := by decide +kernel
theorem dX9_findVisits_159 : decode cX9_findVisits 159 = .ok (.aload_n 0, 1) := by decide +kernel
theorem dX9_findVisits_160 : decode cX9_findVisits 160 = .ok (.getfield 25, 3) := by decide +kernel
theorem dX9_findVisits_163 : decode cX9_findVisits 163 = .ok (.getfield 108, 3) := by decide +kernel
theorem dX9_findVisits_166 : decode cX9_findVisits 166 = .ok (.iload_n 1, 1) := by decide +kernel
theorem dX9_findVisits_167 : decode cX9_findVisits 167 = .ok (.iaload, 1) := by decide +kernel
theorem dX9_findVisits_168 : decode cX9_findVisits 168 = .ok (.iaload, 1) := by decide +kernel
theorem dX9_findVisits_169 : decode cX9_findVisits 169 = .ok (.baload, 1) := by decide +kernel
theorem dX9_findVisits_170 : decode cX9_findVisits 170 = .ok (.ifCond .eq 44, 3) := by decide +kernel
theorem dX9_findVisits_173 : decode cX9_findVisits 173 = .ok (.aload_n 0, 1) := by decide +kernel
theorem dX9_findVisits_174 : decode cX9_findVisits 174 = .ok (.getfield 25, 3) := by decide +kernel
theorem dX9_findVisits_177 : decode cX9_findVisits 177 = .ok (.iload_n 1, 1) := by decide +kernel
theorem dX9_findVisits_178 : decode cX9_findVisits 178 = .ok (.invokevirtual 122, 3) := by decide +kernel
theorem dX9_findVisits_181 : decode cX9_findVisits 181 = .ok (.ifCond .eq 11, 3) := by decide +kernel
theorem dX9_findVisits_184 : decode cX9_findVisits 184 = .ok (.aload_n 0, 1) := by decide +kernel
theorem dX9_findVisits_185 : decode cX9_findVisits 185 = .ok (.iload_n 1, 1) := by decide +kernel
theorem dX9_findVisits_186 : decode cX9_findVisits 186 = .ok (.invokevirtual 126, 3) := by decide +kernel
theorem dX9_findVisits_189 : decode cX9_findVisits 189 = .ok (.goto 24, 3) := by decide +kernel
theorem dX9_findVisits_192 : decode cX9_findVisits 192 = .ok (.aload_n 0, 1) := by decide +kernel
theorem dX9_findVisits_193 : decode cX9_findVisits 193 = .ok (.aload_n 0, 1) := by decide +kernel
theorem dX9_findVisits_194 : decode cX9_findVisits 194 = .ok (.getfield 25, 3) := by decide +kernel
theorem dX9_findVisits_197 : decode cX9_findVisits 197 = .ok (.getfield 105, 3) := by decide +kernel
theorem dX9_findVisits_200 : decode cX9_findVisits 200 = .ok (.aload_n 0, 1) := by decide +kernel
theorem dX9_findVisits_201 : decode cX9_findVisits 201 = .ok (.getfield 25, 3) := by decide +kernel
theorem dX9_findVisits_204 : decode cX9_findVisits 204 = .ok (.getfield 108, 3) := by decide +kernel
theorem dX9_findVisits_207 : decode cX9_findVisits 207 = .ok (.iload_n 1, 1) := by decide +kernel
theorem dX9_findVisits_208 : decode cX9_findVisits 208 = .ok (.iaload, 1) := by decide +kernel
theorem dX9_findVisits_209 : decode cX9_findVisits 209 = .ok (.iaload, 1) := by decide +kernel
theorem dX9_findVisits_210 : decode cX9_findVisits 210 = .ok (.invokevirtual 129, 3) := by decide +kernel
theorem dX9_findVisits_213 : decode cX9_findVisits 213 = .ok (.istore_n 2, 1) := by decide +kernel
theorem dX9_findVisits_214 : decode cX9_findVisits 214 = .ok (.iload_n 2, 1) := by decide +kernel
theorem dX9_findVisits_215 : decode cX9_findVisits 215 = .ok (.ifCond .ne 6, 3) := by decide +kernel
theorem dX9_findVisits_218 : decode cX9_findVisits 218 = .ok (.bipush (-3), 2) := by decide +kernel
theorem dX9_findVisits_220 : decode cX9_findVisits 220 = .ok (.ireturn, 1) := by decide +kernel
theorem dX9_findVisits_221 : decode cX9_findVisits 221 = .ok (.iinc 1 (-1), 3) := by decide +kernel
theorem dX9_findVisits_224 : decode cX9_findVisits 224 = .ok (.goto (-85), 3) := by decide +kernel
theorem dX9_findVisits_227 : decode cX9_findVisits 227 = .ok (.aload_n 0, 1) := by decide +kernel
theorem dX9_findVisits_228 : decode cX9_findVisits 228 = .ok (.iconst 1, 1) := by decide +kernel
theorem dX9_findVisits_229 : decode cX9_findVisits 229 = .ok (.putfield 84, 3) := by decide +kernel
theorem dX9_findVisits_232 : decode cX9_findVisits 232 = .ok (.iconst 0, 1) := by decide +kernel
theorem dX9_findVisits_233 : decode cX9_findVisits 233 = .ok (.ireturn, 1) := by decide +kernel
def w_So_findVisits_214 (C : zC) (n0 : Nat) (Q : Int32 → zS → Prop) (B139 : Nat → Int32 → zS → Prop) (a0 : Nat) (a1 : Int32) (a2 : Int32) (κ : zS) : Prop :=
  (¬ a2 = (0 : Int32) →
    ∀ v1_1 : Int32, v1_1 = a1 + (-1 : Int32) →
    B139 a0 v1_1 κ) ∧
  (a2 = (0 : Int32) →
    Q (-3 : Int32) κ)
theorem t_So_findVisits_214 {C : zC} {n0 : Nat} {Q : Int32 → zS → Prop} {B139 : Nat → Int32 → zS → Prop} (hB139 : ∀ a0' a1' τ, zW C n0 τ → zT τ a0' = 12 → B139 a0' a1' τ → zG C n0 8 mSo_findVisits 139 [some (.ref a0'), some (.int a1'), none] [] τ (oI Q noX)) {a0 : Nat} {a1 : Int32} {a2 : Int32} {κ : zS} (W : zW C n0 κ) (Ta0 : zT κ a0 = 12) (F : w_So_findVisits_214 C n0 Q B139 a0 a1 a2 κ) : zG C n0 8 mSo_findVisits 214 [some (.ref a0), some (.int a1), some (.int a2)] [] κ (oI Q noX) := by
  unfold w_So_findVisits_214 at F
  refine y_iln dX9_findVisits_214 rfl ?_
  refine y_in (a2 = (0 : Int32)) dX9_findVisits_215 (t := 221) rfl rfl (fun c9 => ?_) (fun c9 => ?_)
  · replace F := F.1 c9
    refine y_incb dX9_findVisits_221 zi_m1 rfl (Nat.le_of_ble_eq_true rfl) (fun v1_1 ev1_1 => ?_)
    replace F := F v1_1 ev1_1
    show zG _ _ _ _ _ [some (.ref a0), some (.int v1_1), some (.int a2)] _ _ _
    refine y_goto dX9_findVisits_224 (t := 139) rfl ?_
    exact y_k (hB139 _ _ _ W Ta0 F) ⟨rfl, rfl, trivial⟩
  · replace F := F.2 c9
    refine y_bi1 dX9_findVisits_218 zb_m3 ?_
    exact y_ri W dX9_findVisits_220 rfl in_nar F

def w_So_findVisits_139 (C : zC) (n0 : Nat) (Q : Int32 → zS → Prop)  (a0 : Nat) (a1 : Int32) (κ : zS) : Prop :=
  ∃ I : Nat → Nat → Int32 → zS → Prop, (∃ n, I n a0 a1 κ) ∧ ∀ n a0 a1 κ, zW C n0 κ → zT κ a0 = 12 → I n a0 a1 κ →
    (a1 < (0 : Int32) →
      ∀ κ1, κ1 = ui κ soSolved a0 (1 : Int32) →
      ∀ _ : zW C n0 κ1,
      Q (0 : Int32) κ1) ∧
    (¬ a1 < (0 : Int32) →
      inb a1 (zN κ (zR κ weKnotFirsts (zR κ soWeb a0))) ∧
      inb (zA κ (zR κ weKnotFirsts (zR κ soWeb a0)) (a1).toNatClampNeg) (zN κ (zR κ weOrder (zR κ soWeb a0))) ∧
      inb (zA κ (zR κ weOrder (zR κ soWeb a0)) ((zA κ (zR κ weKnotFirsts (zR κ soWeb a0)) (a1).toNatClampNeg)).toNatClampNeg) (zN κ (zR κ weOpen (zR κ soWeb a0))) ∧
      ((zA κ (zR κ weOpen (zR κ soWeb a0)) ((zA κ (zR κ weOrder (zR κ soWeb a0)) ((zA κ (zR κ weKnotFirsts (zR κ soWeb a0)) (a1).toNatClampNeg)).toNatClampNeg)).toNatClampNeg) = (0 : Int32) →
        w_So_findVisits_214 C n0 Q (fun a0' a1' τ => ∃ k < n, I k a0' a1' τ) a0 a1 (1 : Int32) κ) ∧
      (¬ (zA κ (zR κ weOpen (zR κ soWeb a0)) ((zA κ (zR κ weOrder (zR κ soWeb a0)) ((zA κ (zR κ weKnotFirsts (zR κ soWeb a0)) (a1).toNatClampNeg)).toNatClampNeg)).toNatClampNeg) = (0 : Int32) →
        ∀ _ : zT κ (zR κ soWeb a0) = 14,
        zRun C 1 mWe_isRing [.ref (zR κ soWeb a0), .int a1] κ (oI (fun r3 κ2 =>
          ∀ _ : zW C n0 κ2,
          ∀ _ : zM (zn κ) κ κ2,
          (r3 = (0 : Int32) →
            inb a1 (zN κ2 (zR κ2 weKnotFirsts (zR κ2 soWeb a0))) ∧
            inb (zA κ2 (zR κ2 weKnotFirsts (zR κ2 soWeb a0)) (a1).toNatClampNeg) (zN κ2 (zR κ2 weOrder (zR κ2 soWeb a0))) ∧
            ∀ _ : zT κ2 a0 = 12,
            zRun C 7 mSo_visitOne [.ref a0, .int (zA κ2 (zR κ2 weOrder (zR κ2 soWeb a0)) ((zA κ2 (zR κ2 weKnotFirsts (zR κ2 soWeb a0)) (a1).toNatClampNeg)).toNatClampNeg)] κ2 (oI (fun r7 κ6 =>
              ∀ _ : zW C n0 κ6,
              ∀ _ : zM (zn κ2) κ2 κ6,
              w_So_findVisits_214 C n0 Q (fun a0' a1' τ => ∃ k < n, I k a0' a1' τ) a0 a1 r7 κ6) noX)) ∧
          (¬ r3 = (0 : Int32) →
            ∀ _ : zT κ2 a0 = 12,
            zRun C 7 mSo_visitRing [.ref a0, .int a1] κ2 (oI (fun r11 κ10 =>
              ∀ _ : zW C n0 κ10,
              ∀ _ : zM (zn κ2) κ2 κ10,
              w_So_findVisits_214 C n0 Q (fun a0' a1' τ => ∃ k < n, I k a0' a1' τ) a0 a1 r11 κ10) noX))) noX)))
theorem t_So_findVisits_139 {C : zC} {n0 : Nat} {Q : Int32 → zS → Prop}   {a0 : Nat} {a1 : Int32} {κ : zS} (W : zW C n0 κ) (Ta0 : zT κ a0 = 12) (F : w_So_findVisits_139 C n0 Q  a0 a1 κ) : zG C n0 8 mSo_findVisits 139 [some (.ref a0), some (.int a1), none] [] κ (oI Q noX) := by
  obtain ⟨I, ⟨m0, hI0⟩, F0⟩ := F
  have key : ∀ n a0 a1 κ, zW C n0 κ → zT κ a0 = 12 → I n a0 a1 κ → zG C n0 8 mSo_findVisits 139 [some (.ref a0), some (.int a1), none] [] κ (oI Q noX) := by
    intro n
    induction n using Nat.strongRecOn with
    | _ n ih =>
      intro a0 a1 κ W Ta0 hI
      have F := F0 n a0 a1 κ W Ta0 hI
      clear hI hI0
      refine y_iln dX9_findVisits_139 rfl ?_
      refine y_i (a1 < (0 : Int32)) dX9_findVisits_140 (t := 227) rfl rfl (fun c9 => ?_) (fun c9 => ?_)
      · replace F := F.1 c9
        refine y_aln dX9_findVisits_227 rfl ?_
        refine y_ic dX9_findVisits_228 zi_1 ?_
        refine pf_X9_84 W dX9_findVisits_229 rfl (nb_nar nb_1) (Or.inl Ta0) (fun κ1 eκ1 => ?_)
        replace F := F κ1 eκ1
        have Wκ1 : zW C n0 κ1 := zW_ui W eκ1 (fun _ => nb_1)
        have Mκ1 : zM (zn κ) κ κ1 := by rw [eκ1]; exact zM.of rfl rfl rfl
        replace F := F Wκ1
        refine y_ic dX9_findVisits_232 zi_0 ?_
        exact y_ri Wκ1 dX9_findVisits_233 rfl in_nar F
      · replace F := F.2 c9
        refine y_ic dX9_findVisits_143 zi_1 ?_
        refine y_isn dX9_findVisits_144 (Nat.le_of_ble_eq_true rfl) rfl ?_
        show zG _ _ _ _ _ [some (.ref a0), some (.int a1), some (.int (1 : Int32))] _ _ _
        refine y_aln dX9_findVisits_145 rfl ?_
        refine gf_X9_25 W dX9_findVisits_146 rfl Ta0 ?_
        refine gf_X9_101 W dX9_findVisits_149 rfl (ty_soWeb W Ta0) ?_
        refine y_aln dX9_findVisits_152 rfl ?_
        refine gf_X9_25 W dX9_findVisits_153 rfl Ta0 ?_
        refine gf_X9_105 W dX9_findVisits_156 rfl (ty_soWeb W Ta0) ?_
        refine y_aln dX9_findVisits_159 rfl ?_
        refine gf_X9_25 W dX9_findVisits_160 rfl Ta0 ?_
        refine gf_X9_108 W dX9_findVisits_163 rfl (ty_soWeb W Ta0) ?_
        refine y_iln dX9_findVisits_166 rfl ?_
        refine y_ald dX9_findVisits_167 (ty_weKnotFirsts W (ty_soWeb W Ta0)) F.1 ?_
        replace F := F.2
        refine y_ald dX9_findVisits_168 (ty_weOrder W (ty_soWeb W Ta0)) F.1 ?_
        replace F := F.2
        refine y_zld dX9_findVisits_169 (ty_weOpen W (ty_soWeb W Ta0)) F.1 ?_
        replace F := F.2
        refine y_i ((zA κ (zR κ weOpen (zR κ soWeb a0)) ((zA κ (zR κ weOrder (zR κ soWeb a0)) ((zA κ (zR κ weKnotFirsts (zR κ soWeb a0)) (a1).toNatClampNeg)).toNatClampNeg)).toNatClampNeg) = (0 : Int32)) dX9_findVisits_170 (t := 214) rfl rfl (fun c9 => ?_) (fun c9 => ?_)
        · replace F := F.1 c9
          exact y_k (t_So_findVisits_214 (fun a0' a1' τ w9 f09 hb => by obtain ⟨k, hk, hI⟩ := hb; exact ih k hk a0' a1' τ w9 f09 hI) W Ta0 F) ⟨rfl, rfl, rfl, trivial⟩
        · replace F := F.2 c9
          refine y_aln dX9_findVisits_173 rfl ?_
          refine gf_X9_25 W dX9_findVisits_174 rfl Ta0 ?_
          refine y_iln dX9_findVisits_177 rfl ?_
          replace F := F (ty_soWeb W Ta0)
          refine k_X9_122 W dX9_findVisits_178 rfl (Nat.le_of_ble_eq_true rfl) (Nat.le_of_ble_eq_true rfl) (Or.inl (ty_soWeb W Ta0)) F (fun r3 κ2 Wκ2 Mκ2 F => ?_) (fun _ _ h9 => False.elim h9)
          replace F := F Wκ2 Mκ2
          refine y_i (r3 = (0 : Int32)) dX9_findVisits_181 (t := 192) rfl rfl (fun c9 => ?_) (fun c9 => ?_)
          · replace F := F.1 c9
            refine y_aln dX9_findVisits_192 rfl ?_
            refine y_aln dX9_findVisits_193 rfl ?_
            have h5 := (ztm W Mκ2 Ta0)
            refine gf_X9_25 Wκ2 dX9_findVisits_194 rfl h5 ?_
            refine gf_X9_105 Wκ2 dX9_findVisits_197 rfl (ty_soWeb Wκ2 h5) ?_
            refine y_aln dX9_findVisits_200 rfl ?_
            refine gf_X9_25 Wκ2 dX9_findVisits_201 rfl h5 ?_
            refine gf_X9_108 Wκ2 dX9_findVisits_204 rfl (ty_soWeb Wκ2 h5) ?_
            refine y_iln dX9_findVisits_207 rfl ?_
            refine y_ald dX9_findVisits_208 (ty_weKnotFirsts Wκ2 (ty_soWeb Wκ2 h5)) F.1 ?_
            replace F := F.2
            refine y_ald dX9_findVisits_209 (ty_weOrder Wκ2 (ty_soWeb Wκ2 h5)) F.1 ?_
            replace F := F.2
            replace F := F h5
            refine k_X9_129 Wκ2 dX9_findVisits_210 rfl (Nat.le_of_ble_eq_true rfl) (Nat.le_of_ble_eq_true rfl) (Or.inl h5) F (fun r7 κ6 Wκ6 Mκ6 F => ?_) (fun _ _ h9 => False.elim h9)
            replace F := F Wκ6 Mκ6
            refine y_isn dX9_findVisits_213 (Nat.le_of_ble_eq_true rfl) rfl ?_
            show zG _ _ _ _ _ [some (.ref a0), some (.int a1), some (.int r7)] _ _ _
            have h9 := (ztm Wκ2 Mκ6 h5)
            exact y_k (t_So_findVisits_214 (fun a0' a1' τ w9 f09 hb => by obtain ⟨k, hk, hI⟩ := hb; exact ih k hk a0' a1' τ w9 f09 hI) Wκ6 h9 F) ⟨rfl, rfl, rfl, trivial⟩
          · replace F := F.2 c9
            refine y_aln dX9_findVisits_184 rfl ?_
            refine y_iln dX9_findVisits_185 rfl ?_
            have h12 := (ztm W Mκ2 Ta0)
            replace F := F h12
            refine k_X9_126 Wκ2 dX9_findVisits_186 rfl (Nat.le_of_ble_eq_true rfl) (Nat.le_of_ble_eq_true rfl) (Or.inl h12) F (fun r11 κ10 Wκ10 Mκ10 F => ?_) (fun _ _ h9 => False.elim h9)
            replace F := F Wκ10 Mκ10
            refine y_goto dX9_findVisits_189 (t := 213) rfl ?_
            refine y_isn dX9_findVisits_213 (Nat.le_of_ble_eq_true rfl) rfl ?_
            show zG _ _ _ _ _ [some (.ref a0), some (.int a1), some (.int r11)] _ _ _
            have h14 := (ztm Wκ2 Mκ10 h12)
            exact y_k (t_So_findVisits_214 (fun a0' a1' τ w9 f09 hb => by obtain ⟨k, hk, hI⟩ := hb; exact ih k hk a0' a1' τ w9 f09 hI) Wκ10 h14 F) ⟨rfl, rfl, rfl, trivial⟩
  exact key m0 a0 a1 κ W Ta0 hI0

def w_So_findVisits_129 (C : zC) (n0 : Nat) (Q : Int32 → zS → Prop)  (a0 : Nat) (κ : zS) : Prop :=
  ∀ v1_1 : Int32, v1_1 = ((zI κ weKnots (zR κ soWeb a0)) - (1 : Int32)) →
  w_So_findVisits_139 C n0 Q  a0 v1_1 κ
theorem t_So_findVisits_129 {C : zC} {n0 : Nat} {Q : Int32 → zS → Prop}   {a0 : Nat} {κ : zS} (W : zW C n0 κ) (Ta0 : zT κ a0 = 12) (F : w_So_findVisits_129 C n0 Q  a0 κ) : zG C n0 8 mSo_findVisits 129 [some (.ref a0), none, none] [] κ (oI Q noX) := by
  unfold w_So_findVisits_129 at F
  refine y_aln dX9_findVisits_129 rfl ?_
  refine gf_X9_25 W dX9_findVisits_130 rfl Ta0 ?_
  refine gf_X9_97 dX9_findVisits_133 rfl (Or.inl (ty_soWeb W Ta0)) ?_
  refine y_ic dX9_findVisits_136 zi_1 ?_
  refine y_isub dX9_findVisits_137 ?_
  refine y_isnb dX9_findVisits_138 (Nat.le_of_ble_eq_true rfl) (fun v1_1 ev1_1 => ?_)
  replace F := F v1_1 ev1_1
  show zG _ _ _ _ _ [some (.ref a0), some (.int v1_1), none] _ _ _
  exact y_k (t_So_findVisits_139  W Ta0 F) ⟨rfl, rfl, trivial⟩

def w_So_findVisits_26 (C : zC) (n0 : Nat) (Q : Int32 → zS → Prop)  (a0 : Nat) (a1 : Int32) (κ : zS) : Prop :=
  ∃ I : Nat → Nat → Int32 → zS → Prop, (∃ n, I n a0 a1 κ) ∧ ∀ n a0 a1 κ, zW C n0 κ → zT κ a0 = 12 → I n a0 a1 κ →
    ((zI κ weKnots (zR κ soWeb a0)) ≤ a1 →
      ∀ _ : zT κ (zR κ soVisits a0) = 25,
      zRun C 3 mSo_fresh [.ref (zR κ soVisits a0), .int (zI κ weTotal (zR κ soWeb a0))] κ (oR 25 (fun r2 κ1 =>
        ∀ _ : zW C n0 κ1,
        ∀ _ : zM (zn κ) κ κ1,
        ∀ _ : zT κ1 r2 = 25,
        zO κ1 r2 = (0, 0) ∧
        ∀ κ4, κ4 = uo κ1 soVisits a0 r2 →
        ∀ _ : zW C n0 κ4,
        ((zI κ4 weTotal (zR κ4 soWeb a0)) ≤ (Int32.ofNat (zN κ4 (zR κ4 soRows a0))) →
          w_So_findVisits_129 C n0 Q  a0 κ4) ∧
        (¬ (zI κ4 weTotal (zR κ4 soWeb a0)) ≤ (Int32.ofNat (zN κ4 (zR κ4 soRows a0))) →
          nsz (1000 : Int32) ∧
          ∀ κ8, κ8 = na κ4 20 ((1000 : Int32)).toNatClampNeg →
          ∀ _ : zW C n0 κ8,
          zO κ8 (zn κ4) = (0, 0) ∧
          ∀ κ11, κ11 = uo κ8 soRows a0 (zn κ4) →
          ∀ _ : zW C n0 κ11,
          w_So_findVisits_129 C n0 Q  a0 κ11)) noX)) ∧
    (¬ (zI κ weKnots (zR κ soWeb a0)) ≤ a1 →
      inb a1 (zN κ (zR κ weKnotFirsts (zR κ soWeb a0))) ∧
      inb (zA κ (zR κ weKnotFirsts (zR κ soWeb a0)) (a1).toNatClampNeg) (zN κ (zR κ weOrder (zR κ soWeb a0))) ∧
      inb (zA κ (zR κ weOrder (zR κ soWeb a0)) ((zA κ (zR κ weKnotFirsts (zR κ soWeb a0)) (a1).toNatClampNeg)).toNatClampNeg) (zN κ (zR κ weOpen (zR κ soWeb a0))) ∧
      ((zA κ (zR κ weOpen (zR κ soWeb a0)) ((zA κ (zR κ weOrder (zR κ soWeb a0)) ((zA κ (zR κ weKnotFirsts (zR κ soWeb a0)) (a1).toNatClampNeg)).toNatClampNeg)).toNatClampNeg) = (0 : Int32) →
        ∀ v1_15 : Int32, v1_15 = a1 + (1 : Int32) →
        ∃ k < n, I k a0 v1_15 κ) ∧
      (¬ (zA κ (zR κ weOpen (zR κ soWeb a0)) ((zA κ (zR κ weOrder (zR κ soWeb a0)) ((zA κ (zR κ weKnotFirsts (zR κ soWeb a0)) (a1).toNatClampNeg)).toNatClampNeg)).toNatClampNeg) = (0 : Int32) →
        ∀ _ : zT κ (zR κ soWeb a0) = 14,
        zRun C 0 mWe_sizeOf [.ref (zR κ soWeb a0), .int a1] κ (oI (fun r17 κ16 =>
          ∀ _ : zW C n0 κ16,
          ∀ _ : zM (zn κ) κ κ16,
          (r17 ≤ (32 : Int32) →
            ∀ v1_19 : Int32, v1_19 = a1 + (1 : Int32) →
            ∃ k < n, I k a0 v1_19 κ16) ∧
          (¬ r17 ≤ (32 : Int32) →
            Q (-2 : Int32) κ16)) noX)))
theorem t_So_findVisits_26 {C : zC} {n0 : Nat} {Q : Int32 → zS → Prop}   {a0 : Nat} {a1 : Int32} {κ : zS} (W : zW C n0 κ) (Ta0 : zT κ a0 = 12) (F : w_So_findVisits_26 C n0 Q  a0 a1 κ) : zG C n0 8 mSo_findVisits 26 [some (.ref a0), some (.int a1), none] [] κ (oI Q noX) := by
  obtain ⟨I, ⟨m0, hI0⟩, F0⟩ := F
  have key : ∀ n a0 a1 κ, zW C n0 κ → zT κ a0 = 12 → I n a0 a1 κ → zG C n0 8 mSo_findVisits 26 [some (.ref a0), some (.int a1), none] [] κ (oI Q noX) := by
    intro n
    induction n using Nat.strongRecOn with
    | _ n ih =>
      intro a0 a1 κ W Ta0 hI
      have F := F0 n a0 a1 κ W Ta0 hI
      clear hI hI0
      refine y_iln dX9_findVisits_26 rfl ?_
      refine y_aln dX9_findVisits_27 rfl ?_
      refine gf_X9_25 W dX9_findVisits_28 rfl Ta0 ?_
      refine gf_X9_97 dX9_findVisits_31 rfl (Or.inl (ty_soWeb W Ta0)) ?_
      refine y_ii ((zI κ weKnots (zR κ soWeb a0)) ≤ a1) dX9_findVisits_34 (t := 87) rfl rfl (fun c9 => ?_) (fun c9 => ?_)
      · replace F := F.1 c9
        refine y_aln dX9_findVisits_87 rfl ?_
        refine y_aln dX9_findVisits_88 rfl ?_
        refine gf_X9_28 W dX9_findVisits_89 rfl Ta0 ?_
        refine y_aln dX9_findVisits_92 rfl ?_
        refine gf_X9_25 W dX9_findVisits_93 rfl Ta0 ?_
        refine gf_X9_115 dX9_findVisits_96 rfl (Or.inl (ty_soWeb W Ta0)) ?_
        replace F := F (ty_soVisits W Ta0)
        refine k_X9_118 W dX9_findVisits_99 rfl (Nat.le_of_ble_eq_true rfl) (Nat.le_of_ble_eq_true rfl)  F (fun r2 κ1 Wκ1 Mκ1 g3 F => ?_) (fun _ _ h9 => False.elim h9)
        replace F := F Wκ1 Mκ1 g3
        have b5 := F.1
        replace F := F.2
        have h6 := (ztm W Mκ1 Ta0)
        refine pf_X9_28 Wκ1 dX9_findVisits_102 rfl (Or.inl h6) g3 (fun κ4 eκ4 => ?_)
        replace F := F κ4 eκ4
        have Wκ4 : zW C n0 κ4 := zW_uo Wκ1 eκ4 (fun t ht => by cases ht; exact g3) b5
        have Mκ4 : zM (zn κ1) κ1 κ4 := by rw [eκ4]; exact zM.of rfl rfl rfl
        replace F := F Wκ4
        refine y_aln dX9_findVisits_105 rfl ?_
        have h7 := (ztm Wκ1 Mκ4 h6)
        refine gf_X9_68 Wκ4 dX9_findVisits_106 rfl h7 ?_
        refine y_alen (t := 0) dX9_findVisits_109 (ty_soRows Wκ4 h7) (by decide) ?_
        refine y_aln dX9_findVisits_110 rfl ?_
        refine gf_X9_25 Wκ4 dX9_findVisits_111 rfl h7 ?_
        refine gf_X9_115 dX9_findVisits_114 rfl (Or.inl (ty_soWeb Wκ4 h7)) ?_
        refine y_ii ((zI κ4 weTotal (zR κ4 soWeb a0)) ≤ (Int32.ofNat (zN κ4 (zR κ4 soRows a0)))) dX9_findVisits_117 (t := 129) rfl rfl (fun c9 => ?_) (fun c9 => ?_)
        · replace F := F.1 c9
          exact y_k (t_So_findVisits_129  Wκ4 h7 F) ⟨rfl, trivial⟩
        · replace F := F.2 c9
          refine y_aln dX9_findVisits_120 rfl ?_
          refine y_si dX9_findVisits_121 zs_1000 ?_
          have b9 := F.1
          refine y_newa (t := 0) Wκ4 dX9_findVisits_124 (by decide) b9 (fun κ8 eκ8 => ?_)
          replace F := F.2 κ8 eκ8
          have Wκ8 : zW C n0 κ8 := zW_na Wκ4 eκ8 (by decide) (by decide) b9.2
          have Mκ8 : zM (zn κ4) κ4 κ8 := zM_na (Wκ4.lo (Nat.le_trans Wκ4.1.2.1 Wκ4.1.2.2) (Nat.le_refl _)) eκ8
          replace F := F Wκ8
          have g10 : zT κ8 (zn κ4) = 20 := by rw [eκ8]; exact if_pos rfl
          have b12 := F.1
          replace F := F.2
          have h13 := (ztm Wκ4 Mκ8 h7)
          refine pf_X9_68 Wκ8 dX9_findVisits_126 rfl (Or.inl h13) g10 (fun κ11 eκ11 => ?_)
          replace F := F κ11 eκ11
          have Wκ11 : zW C n0 κ11 := zW_uo Wκ8 eκ11 (fun t ht => by cases ht; exact g10) b12
          have Mκ11 : zM (zn κ8) κ8 κ11 := by rw [eκ11]; exact zM.of rfl rfl rfl
          replace F := F Wκ11
          have h14 := (ztm Wκ8 Mκ11 h13)
          exact y_k (t_So_findVisits_129  Wκ11 h14 F) ⟨rfl, trivial⟩
      · replace F := F.2 c9
        refine y_aln dX9_findVisits_37 rfl ?_
        refine gf_X9_25 W dX9_findVisits_38 rfl Ta0 ?_
        refine gf_X9_101 W dX9_findVisits_41 rfl (ty_soWeb W Ta0) ?_
        refine y_aln dX9_findVisits_44 rfl ?_
        refine gf_X9_25 W dX9_findVisits_45 rfl Ta0 ?_
        refine gf_X9_105 W dX9_findVisits_48 rfl (ty_soWeb W Ta0) ?_
        refine y_aln dX9_findVisits_51 rfl ?_
        refine gf_X9_25 W dX9_findVisits_52 rfl Ta0 ?_
        refine gf_X9_108 W dX9_findVisits_55 rfl (ty_soWeb W Ta0) ?_
        refine y_iln dX9_findVisits_58 rfl ?_
        refine y_ald dX9_findVisits_59 (ty_weKnotFirsts W (ty_soWeb W Ta0)) F.1 ?_
        replace F := F.2
        refine y_ald dX9_findVisits_60 (ty_weOrder W (ty_soWeb W Ta0)) F.1 ?_
        replace F := F.2
        refine y_zld dX9_findVisits_61 (ty_weOpen W (ty_soWeb W Ta0)) F.1 ?_
        replace F := F.2
        refine y_i ((zA κ (zR κ weOpen (zR κ soWeb a0)) ((zA κ (zR κ weOrder (zR κ soWeb a0)) ((zA κ (zR κ weKnotFirsts (zR κ soWeb a0)) (a1).toNatClampNeg)).toNatClampNeg)).toNatClampNeg) = (0 : Int32)) dX9_findVisits_62 (t := 81) rfl rfl (fun c9 => ?_) (fun c9 => ?_)
        · replace F := F.1 c9
          refine y_incb dX9_findVisits_81 zi_1 rfl (Nat.le_of_ble_eq_true rfl) (fun v1_15 ev1_15 => ?_)
          replace F := F v1_15 ev1_15
          show zG _ _ _ _ _ [some (.ref a0), some (.int v1_15), none] _ _ _
          refine y_goto dX9_findVisits_84 (t := 26) rfl ?_
          obtain ⟨k, hk, hI⟩ := F
          exact y_k (ih k hk _ _ _ W Ta0 hI) ⟨rfl, rfl, trivial⟩
        · replace F := F.2 c9
          refine y_aln dX9_findVisits_65 rfl ?_
          refine gf_X9_25 W dX9_findVisits_66 rfl Ta0 ?_
          refine y_iln dX9_findVisits_69 rfl ?_
          replace F := F (ty_soWeb W Ta0)
          refine k_X9_111 W dX9_findVisits_70 rfl (Nat.le_of_ble_eq_true rfl) (Nat.le_of_ble_eq_true rfl) (Or.inl (ty_soWeb W Ta0)) F (fun r17 κ16 Wκ16 Mκ16 F => ?_) (fun _ _ h9 => False.elim h9)
          replace F := F Wκ16 Mκ16
          refine y_bi1 dX9_findVisits_73 zb_32 ?_
          refine y_ii (r17 ≤ (32 : Int32)) dX9_findVisits_75 (t := 81) rfl rfl (fun c9 => ?_) (fun c9 => ?_)
          · replace F := F.1 c9
            refine y_incb dX9_findVisits_81 zi_1 rfl (Nat.le_of_ble_eq_true rfl) (fun v1_19 ev1_19 => ?_)
            replace F := F v1_19 ev1_19
            show zG _ _ _ _ _ [some (.ref a0), some (.int v1_19), none] _ _ _
            refine y_goto dX9_findVisits_84 (t := 26) rfl ?_
            have h20 := (ztm W Mκ16 Ta0)
            obtain ⟨k, hk, hI⟩ := F
            exact y_k (ih k hk _ _ _ Wκ16 h20 hI) ⟨rfl, rfl, trivial⟩
          · replace F := F.2 c9
            refine y_bi1 dX9_findVisits_78 zb_m2 ?_
            exact y_ri Wκ16 dX9_findVisits_80 rfl in_nar F
  exact key m0 a0 a1 κ W Ta0 hI0

def w_So_findVisits_0 (C : zC) (n0 : Nat) (Q : Int32 → zS → Prop)  (a0 : Nat) (κ : zS) : Prop :=
  ∀ κ1, κ1 = ui κ soSolved a0 (0 : Int32) →
  ∀ _ : zW C n0 κ1,
  ∀ _ : zT κ1 (zR κ1 soWeb a0) = 14,
  ∀ _ : zT κ1 (zR κ1 soAtlas a0) = 3,
  zRun C 2 mWe_weave [.ref (zR κ1 soWeb a0), .ref (zR κ1 soAtlas a0), .int (1 : Int32)] κ1 (oV (fun κ3 =>
    ∀ _ : zW C n0 κ3,
    ∀ _ : zM (zn κ1) κ1 κ3,
    ∀ _ : zT κ3 (zR κ3 soWeb a0) = 14,
    zRun C 2 mWe_knot [.ref (zR κ3 soWeb a0)] κ3 (oV (fun κ7 =>
      ∀ _ : zW C n0 κ7,
      ∀ _ : zM (zn κ3) κ3 κ7,
      w_So_findVisits_26 C n0 Q  a0 (0 : Int32) κ7) noX)) noX)
theorem t_So_findVisits_0 {C : zC} {n0 : Nat} {Q : Int32 → zS → Prop}   {a0 : Nat} {κ : zS} (W : zW C n0 κ) (Ta0 : zT κ a0 = 12) (F : w_So_findVisits_0 C n0 Q  a0 κ) : zG C n0 8 mSo_findVisits 0 [some (.ref a0), none, none] [] κ (oI Q noX) := by
  unfold w_So_findVisits_0 at F
  refine y_aln dX9_findVisits_0 rfl ?_
  refine y_ic dX9_findVisits_1 zi_0 ?_
  refine pf_X9_84 W dX9_findVisits_2 rfl (nb_nar nb_0) (Or.inl Ta0) (fun κ1 eκ1 => ?_)
  replace F := F κ1 eκ1
  have Wκ1 : zW C n0 κ1 := zW_ui W eκ1 (fun _ => nb_0)
  have Mκ1 : zM (zn κ) κ κ1 := by rw [eκ1]; exact zM.of rfl rfl rfl
  replace F := F Wκ1
  refine y_aln dX9_findVisits_5 rfl ?_
  have h2 := (ztm W Mκ1 Ta0)
  refine gf_X9_25 Wκ1 dX9_findVisits_6 rfl h2 ?_
  refine y_aln dX9_findVisits_9 rfl ?_
  refine gf_X9_9 Wκ1 dX9_findVisits_10 rfl h2 ?_
  refine y_ic dX9_findVisits_13 zi_1 ?_
  replace F := F (ty_soWeb Wκ1 h2)
  replace F := F (ty_soAtlas Wκ1 h2)
  refine k_X9_88 Wκ1 dX9_findVisits_14 rfl (Nat.le_of_ble_eq_true rfl) (Nat.le_of_ble_eq_true rfl) (Or.inl (ty_soWeb Wκ1 h2)) F (fun  κ3 Wκ3 Mκ3 F => ?_) (fun _ _ h9 => False.elim h9)
  replace F := F Wκ3 Mκ3
  refine y_aln dX9_findVisits_17 rfl ?_
  have h6 := (ztm Wκ1 Mκ3 h2)
  refine gf_X9_25 Wκ3 dX9_findVisits_18 rfl h6 ?_
  replace F := F (ty_soWeb Wκ3 h6)
  refine k_X9_94 Wκ3 dX9_findVisits_21 rfl (Nat.le_of_ble_eq_true rfl) (Nat.le_of_ble_eq_true rfl) (Or.inl (ty_soWeb Wκ3 h6)) F (fun  κ7 Wκ7 Mκ7 F => ?_) (fun _ _ h9 => False.elim h9)
  replace F := F Wκ7 Mκ7
  refine y_ic dX9_findVisits_24 zi_0 ?_
  refine y_isn dX9_findVisits_25 (Nat.le_of_ble_eq_true rfl) rfl ?_
  show zG _ _ _ _ _ [some (.ref a0), some (.int (0 : Int32)), none] _ _ _
  have h10 := (ztm Wκ3 Mκ7 h6)
  exact y_k (t_So_findVisits_26  Wκ7 h10 F) ⟨rfl, rfl, trivial⟩

theorem So_findVisits_run {C : zC} {n0 : Nat} {Q : Int32 → zS → Prop} {a0 : Nat} {κ : zS} (W : zW C n0 κ) (Ta0 : zT κ a0 = 12) (F : w_So_findVisits_0 C (zn κ) Q a0 κ) : zRun C 8 mSo_findVisits [.ref a0] κ (oI Q noX) := z_run (m_ent _ 2) (t_So_findVisits_0 (W.lo (Nat.le_trans W.1.2.1 W.1.2.2) (Nat.le_refl _)) Ta0 F)

theorem dX9_showVisits_0 : decode cX9_showVisits 0 = .ok (.iload_n 1, 1) := by decide +kernel
theorem dX9_showVisits_1 : decode cX9_showVisits 1 = .ok (.bipush 8, 2) := by decide +kernel
theorem dX9_showVisits_3 : decode cX9_showVisits 3 = .ok (.if_icmp .ne 14, 3) := by decide +kernel
theorem dX9_showVisits_6 : decode cX9_showVisits 6 = .ok (.aload_n 3, 1) := by decide +kernel
theorem dX9_showVisits_7 : decode cX9_showVisits 7 = .ok (.aload_n 0, 1) := by decide +kernel
theorem dX9_showVisits_8 : decode cX9_showVisits 8 = .ok (.getfield 28, 3) := by decide +kernel
theorem dX9_showVisits_11 : decode cX9_showVisits 11 = .ok (.iload_n 2, 1) := by decide +kernel
theorem dX9_showVisits_12 : decode cX9_showVisits 12 = .ok (.aaload, 1) := by decide +kernel
theorem dX9_showVisits_13 : decode cX9_showVisits 13 = .ok (.invokevirtual 132, 3) := by decide +kernel
theorem dX9_showVisits_16 : decode cX9_showVisits 16 = .ok (.return_, 1) := by decide +kernel
theorem dX9_showVisits_17 : decode cX9_showVisits 17 = .ok (.aload_n 0, 1) := by decide +kernel
theorem dX9_showVisits_18 : decode cX9_showVisits 18 = .ok (.getfield 40, 3) := by decide +kernel
theorem dX9_showVisits_21 : decode cX9_showVisits 21 = .ok (.lconst 1, 1) := by decide +kernel
theorem dX9_showVisits_22 : decode cX9_showVisits 22 = .ok (.invokevirtual 191, 3) := by decide +kernel
theorem dX9_showVisits_25 : decode cX9_showVisits 25 = .ok (.aload_n 0, 1) := by decide +kernel
theorem dX9_showVisits_26 : decode cX9_showVisits 26 = .ok (.getfield 9, 3) := by decide +kernel
theorem dX9_showVisits_29 : decode cX9_showVisits 29 = .ok (.getfield 271, 3) := by decide +kernel
theorem dX9_showVisits_32 : decode cX9_showVisits 32 = .ok (.getfield 275, 3) := by decide +kernel
theorem dX9_showVisits_35 : decode cX9_showVisits 35 = .ok (.istore 4, 2) := by decide +kernel
theorem dX9_showVisits_37 : decode cX9_showVisits 37 = .ok (.iconst 0, 1) := by decide +kernel
theorem dX9_showVisits_38 : decode cX9_showVisits 38 = .ok (.istore 5, 2) := by decide +kernel
theorem dX9_showVisits_40 : decode cX9_showVisits 40 = .ok (.iload 5, 2) := by decide +kernel
theorem dX9_showVisits_42 : decode cX9_showVisits 42 = .ok (.iload 4, 2) := by decide +kernel
theorem dX9_showVisits_44 : decode cX9_showVisits 44 = .ok (.if_icmp .ge 62, 3) := by decide +kernel
theorem dX9_showVisits_47 : decode cX9_showVisits 47 = .ok (.aload_n 0, 1) := by decide +kernel
theorem dX9_showVisits_48 : decode cX9_showVisits 48 = .ok (.getfield 28, 3) := by decide +kernel
theorem dX9_showVisits_51 : decode cX9_showVisits 51 = .ok (.iload 5, 2) := by decide +kernel
theorem dX9_showVisits_53 : decode cX9_showVisits 53 = .ok (.aaload, 1) := by decide +kernel
theorem dX9_showVisits_54 : decode cX9_showVisits 54 = .ok (.getfield 164, 3) := by decide +kernel
theorem dX9_showVisits_57 : decode cX9_showVisits 57 = .ok (.ifCond .eq 43, 3) := by decide +kernel
theorem dX9_showVisits_60 : decode cX9_showVisits 60 = .ok (.iload_n 1, 1) := by decide +kernel
theorem dX9_showVisits_61 : decode cX9_showVisits 61 = .ok (.bipush 9, 2) := by decide +kernel
theorem dX9_showVisits_63 : decode cX9_showVisits 63 = .ok (.if_icmp .eq 16, 3) := by decide +kernel
theorem dX9_showVisits_66 : decode cX9_showVisits 66 = .ok (.aload_n 0, 1) := by decide +kernel
theorem dX9_showVisits_67 : decode cX9_showVisits 67 = .ok (.getfield 9, 3) := by decide +kernel
theorem dX9_showVisits_70 : decode cX9_showVisits 70 = .ok (.getfield 278, 3) := by decide +kernel
theorem dX9_showVisits_73 : decode cX9_showVisits 73 = .ok (.iload 5, 2) := by decide +kernel
theorem dX9_showVisits_75 : decode cX9_showVisits 75 = .ok (.iaload, 1) := by decide +kernel
theorem dX9_showVisits_76 : decode cX9_showVisits 76 = .ok (.ifCond .eq 24, 3) := by decide +kernel
theorem dX9_showVisits_79 : decode cX9_showVisits 79 = .ok (.aload_n 0, 1) := by decide +kernel
theorem dX9_showVisits_80 : decode cX9_showVisits 80 = .ok (.getfield 15, 3) := by decide +kernel
theorem dX9_showVisits_83 : decode cX9_showVisits 83 = .ok (.aload_n 0, 1) := by decide +kernel
theorem dX9_showVisits_84 : decode cX9_showVisits 84 = .ok (.getfield 40, 3) := by decide +kernel
theorem dX9_showVisits_87 : decode cX9_showVisits 87 = .ok (.aload_n 0, 1) := by decide +kernel
theorem dX9_showVisits_88 : decode cX9_showVisits 88 = .ok (.getfield 28, 3) := by decide +kernel
theorem dX9_showVisits_91 : decode cX9_showVisits 91 = .ok (.iload 5, 2) := by decide +kernel
theorem dX9_showVisits_93 : decode cX9_showVisits 93 = .ok (.aaload, 1) := by decide +kernel
theorem dX9_showVisits_94 : decode cX9_showVisits 94 = .ok (.getfield 151, 3) := by decide +kernel
theorem dX9_showVisits_97 : decode cX9_showVisits 97 = .ok (.invokevirtual 207, 3) := by decide +kernel
theorem dX9_showVisits_100 : decode cX9_showVisits 100 = .ok (.iinc 5 1, 3) := by decide +kernel
theorem dX9_showVisits_103 : decode cX9_showVisits 103 = .ok (.goto (-63), 3) := by decide +kernel
theorem dX9_showVisits_106 : decode cX9_showVisits 106 = .ok (.aload_n 0, 1) := by decide +kernel
theorem dX9_showVisits_107 : decode cX9_showVisits 107 = .ok (.getfield 58, 3) := by decide +kernel
theorem dX9_showVisits_110 : decode cX9_showVisits 110 = .ok (.lconst 0, 1) := by decide +kernel
theorem dX9_showVisits_111 : decode cX9_showVisits 111 = .ok (.invokevirtual 191, 3) := by decide +kernel
theorem dX9_showVisits_114 : decode cX9_showVisits 114 = .ok (.aload_n 0, 1) := by decide +kernel
theorem dX9_showVisits_115 : decode cX9_showVisits 115 = .ok (.getfield 61, 3) := by decide +kernel
theorem dX9_showVisits_118 : decode cX9_showVisits 118 = .ok (.lconst 0, 1) := by decide +kernel
theorem dX9_showVisits_119 : decode cX9_showVisits 119 = .ok (.invokevirtual 191, 3) := by decide +kernel
theorem dX9_showVisits_122 : decode cX9_showVisits 122 = .ok (.iconst 0, 1) := by decide +kernel
theorem dX9_showVisits_123 : decode cX9_showVisits 123 = .ok (.istore 5, 2) := by decide +kernel
theorem dX9_showVisits_125 : decode cX9_showVisits 125 = .ok (.iload 5, 2) := by decide +kernel
theorem dX9_showVisits_127 : decode cX9_showVisits 127 = .ok (.iload 4, 2) := by decide +kernel
theorem dX9_showVisits_129 : decode cX9_showVisits 129 = .ok (.if_icmp .ge 72, 3) := by decide +kernel
theorem dX9_showVisits_132 : decode cX9_showVisits 132 = .ok (.iload_n 1, 1) := by decide +kernel
theorem dX9_showVisits_133 : decode cX9_showVisits 133 = .ok (.bipush 9, 2) := by decide +kernel
theorem dX9_showVisits_135 : decode cX9_showVisits 135 = .ok (.if_icmp .ne 7, 3) := by decide +kernel
theorem dX9_showVisits_138 : decode cX9_showVisits 138 = .ok (.lconst 1, 1) := by decide +kernel
theorem dX9_showVisits_139 : decode cX9_showVisits 139 = .ok (.goto 14, 3) := by decide +kernel
theorem dX9_showVisits_142 : decode cX9_showVisits 142 = .ok (.aload_n 0, 1) := by decide +kernel
theorem dX9_showVisits_143 : decode cX9_showVisits 143 = .ok (.getfield 9, 3) := by decide +kernel
theorem dX9_showVisits_146 : decode cX9_showVisits 146 = .ok (.getfield 278, 3) := by decide +kernel
theorem dX9_showVisits_149 : decode cX9_showVisits 149 = .ok (.iload 5, 2) := by decide +kernel
theorem dX9_showVisits_151 : decode cX9_showVisits 151 = .ok (.iaload, 1) := by decide +kernel
theorem dX9_showVisits_152 : decode cX9_showVisits 152 = .ok (.i2l, 1) := by decide +kernel
theorem dX9_showVisits_153 : decode cX9_showVisits 153 = .ok (.lstore 6, 2) := by decide +kernel
theorem dX9_showVisits_155 : decode cX9_showVisits 155 = .ok (.aload_n 0, 1) := by decide +kernel
theorem dX9_showVisits_156 : decode cX9_showVisits 156 = .ok (.getfield 28, 3) := by decide +kernel
theorem dX9_showVisits_159 : decode cX9_showVisits 159 = .ok (.iload 5, 2) := by decide +kernel
theorem dX9_showVisits_161 : decode cX9_showVisits 161 = .ok (.aaload, 1) := by decide +kernel
theorem dX9_showVisits_162 : decode cX9_showVisits 162 = .ok (.getfield 164, 3) := by decide +kernel
theorem dX9_showVisits_165 : decode cX9_showVisits 165 = .ok (.ifCond .eq 30, 3) := by decide +kernel
theorem dX9_showVisits_168 : decode cX9_showVisits 168 = .ok (.lload 6, 2) := by decide +kernel
theorem dX9_showVisits_170 : decode cX9_showVisits 170 = .ok (.lconst 0, 1) := by decide +kernel
theorem dX9_showVisits_171 : decode cX9_showVisits 171 = .ok (.lcmp, 1) := by decide +kernel
theorem dX9_showVisits_172 : decode cX9_showVisits 172 = .ok (.ifCond .eq 23, 3) := by decide +kernel
theorem dX9_showVisits_175 : decode cX9_showVisits 175 = .ok (.aload_n 0, 1) := by decide +kernel
theorem dX9_showVisits_176 : decode cX9_showVisits 176 = .ok (.getfield 45, 3) := by decide +kernel
theorem dX9_showVisits_179 : decode cX9_showVisits 179 = .ok (.aload_n 0, 1) := by decide +kernel
theorem dX9_showVisits_180 : decode cX9_showVisits 180 = .ok (.getfield 28, 3) := by decide +kernel
theorem dX9_showVisits_183 : decode cX9_showVisits 183 = .ok (.iload 5, 2) := by decide +kernel
theorem dX9_showVisits_185 : decode cX9_showVisits 185 = .ok (.aaload, 1) := by decide +kernel
theorem dX9_showVisits_186 : decode cX9_showVisits 186 = .ok (.invokevirtual 132, 3) := by decide +kernel
theorem dX9_showVisits_189 : decode cX9_showVisits 189 = .ok (.aload_n 0, 1) := by decide +kernel
theorem dX9_showVisits_190 : decode cX9_showVisits 190 = .ok (.lload 6, 2) := by decide +kernel
theorem dX9_showVisits_192 : decode cX9_showVisits 192 = .ok (.invokevirtual 216, 3) := by decide +kernel
theorem dX9_showVisits_195 : decode cX9_showVisits 195 = .ok (.iinc 5 1, 3) := by decide +kernel
theorem dX9_showVisits_198 : decode cX9_showVisits 198 = .ok (.goto (-73), 3) := by decide +kernel
theorem dX9_showVisits_201 : decode cX9_showVisits 201 = .ok (.aload_n 0, 1) := by decide +kernel
theorem dX9_showVisits_202 : decode cX9_showVisits 202 = .ok (.aload_n 0, 1) := by decide +kernel
theorem dX9_showVisits_203 : decode cX9_showVisits 203 = .ok (.getfield 40, 3) := by decide +kernel
theorem dX9_showVisits_206 : decode cX9_showVisits 206 = .ok (.invokevirtual 281, 3) := by decide +kernel
theorem dX9_showVisits_209 : decode cX9_showVisits 209 = .ok (.aload_n 3, 1) := by decide +kernel
theorem dX9_showVisits_210 : decode cX9_showVisits 210 = .ok (.aload_n 0, 1) := by decide +kernel
theorem dX9_showVisits_211 : decode cX9_showVisits 211 = .ok (.getfield 45, 3) := by decide +kernel
theorem dX9_showVisits_214 : decode cX9_showVisits 214 = .ok (.invokevirtual 132, 3) := by decide +kernel
theorem dX9_showVisits_217 : decode cX9_showVisits 217 = .ok (.return_, 1) := by decide +kernel
def w_So_showVisits_79 (C : zC) (n0 : Nat) (Q : zS → Prop) (B40 : Nat → Int32 → Nat → Int32 → Int32 → zS → Prop) (a0 : Nat) (a1 : Int32) (a3 : Nat) (a4 : Int32) (a5 : Int32) (κ : zS) : Prop :=
  inb a5 (zN κ (zR κ soVisits a0)) ∧
  ∃ u1, (zQ κ (zR κ soVisits a0) (a5).toNatClampNeg) = some u1 ∧
  ∀ _ : zT κ (zR κ soCalc a0) = 4,
  ∀ _ : zT κ (zR κ soWhole a0) = 8,
  ∀ _ : zT κ (zR κ raBottom u1) = 8,
  zRun C 5 mCa_join [.ref (zR κ soCalc a0), .ref (zR κ soWhole a0), .ref (zR κ raBottom u1)] κ (oV (fun κ2 =>
    ∀ _ : zW C n0 κ2,
    ∀ _ : zM (zn κ) κ κ2,
    ∀ v5_5 : Int32, v5_5 = a5 + (1 : Int32) →
    B40 a0 a1 a3 a4 v5_5 κ2) noX)
theorem t_So_showVisits_79 {C : zC} {n0 : Nat} {Q : zS → Prop} {B40 : Nat → Int32 → Nat → Int32 → Int32 → zS → Prop} (hB40 : ∀ a0' a1' a3' a4' a5' τ, zW C n0 τ → zT τ a0' = 12 → zT τ a3' = 11 → B40 a0' a1' a3' a4' a5' τ → zG C n0 7 mSo_showVisits 40 [some (.ref a0'), some (.int a1'), none, some (.ref a3'), some (.int a4'), some (.int a5'), none, none] [] τ (oV Q noX)) {a0 : Nat} {a1 : Int32} {a3 : Nat} {a4 : Int32} {a5 : Int32} {κ : zS} (W : zW C n0 κ) (Ta0 : zT κ a0 = 12) (Ta3 : zT κ a3 = 11) (F : w_So_showVisits_79 C n0 Q B40 a0 a1 a3 a4 a5 κ) : zG C n0 7 mSo_showVisits 79 [some (.ref a0), some (.int a1), none, some (.ref a3), some (.int a4), some (.int a5), none, none] [] κ (oV Q noX) := by
  unfold w_So_showVisits_79 at F
  refine y_aln dX9_showVisits_79 rfl ?_
  refine gf_X9_15 W dX9_showVisits_80 rfl Ta0 ?_
  refine y_aln dX9_showVisits_83 rfl ?_
  refine gf_X9_40 W dX9_showVisits_84 rfl Ta0 ?_
  refine y_aln dX9_showVisits_87 rfl ?_
  refine gf_X9_28 W dX9_showVisits_88 rfl Ta0 ?_
  refine y_il dX9_showVisits_91 rfl ?_
  refine y_qld (t := 5) dX9_showVisits_93 (ty_soVisits W Ta0) (by decide) F.1 ?_
  replace F := F.2
  obtain ⟨u1, Eu1, F⟩ := F
  have Tu1 : zT κ u1 = 11 := (fun v hv => W.2.2.2.2.1 _ _ v (ty_soVisits W Ta0) hv) u1 Eu1
  refine y_uq0 Eu1 ?_
  refine gf_X9_151 W dX9_showVisits_94 rfl Tu1 ?_
  replace F := F (ty_soCalc W Ta0)
  replace F := F (ty_soWhole W Ta0)
  replace F := F (ty_raBottom W Tu1)
  refine k_X9_207 W dX9_showVisits_97 rfl (Nat.le_of_ble_eq_true rfl) (Nat.le_of_ble_eq_true rfl) (Or.inl (ty_soCalc W Ta0)) F (fun  κ2 Wκ2 Mκ2 F => ?_) (fun _ _ h9 => False.elim h9)
  replace F := F Wκ2 Mκ2
  refine y_incb dX9_showVisits_100 zi_1 rfl (Nat.le_of_ble_eq_true rfl) (fun v5_5 ev5_5 => ?_)
  replace F := F v5_5 ev5_5
  show zG _ _ _ _ _ [some (.ref a0), some (.int a1), none, some (.ref a3), some (.int a4), some (.int v5_5), none, none] _ _ _
  refine y_goto dX9_showVisits_103 (t := 40) rfl ?_
  have h6 := (ztm W Mκ2 Ta0)
  have h7 := (ztm W Mκ2 Ta3)
  exact y_k (hB40 _ _ _ _ _ _ Wκ2 h6 h7 F) ⟨rfl, rfl, rfl, rfl, rfl, trivial⟩

def w_So_showVisits_153 (C : zC) (n0 : Nat) (Q : zS → Prop) (B125 : Nat → Int32 → Nat → Int32 → Int32 → zS → Prop) (a0 : Nat) (a1 : Int32) (a3 : Nat) (a4 : Int32) (a5 : Int32) (s0 : Int64) (κ : zS) : Prop :=
  inb a5 (zN κ (zR κ soVisits a0)) ∧
  ∃ u1, (zQ κ (zR κ soVisits a0) (a5).toNatClampNeg) = some u1 ∧
  ((zI κ raSign u1) = (0 : Int32) →
    ∀ v5_2 : Int32, v5_2 = a5 + (1 : Int32) →
    B125 a0 a1 a3 a4 v5_2 κ) ∧
  (¬ (zI κ raSign u1) = (0 : Int32) →
    ((lg_cmp s0 (0 : Int64)) = (0 : Int32) →
      ∀ v5_3 : Int32, v5_3 = a5 + (1 : Int32) →
      B125 a0 a1 a3 a4 v5_3 κ) ∧
    (¬ (lg_cmp s0 (0 : Int64)) = (0 : Int32) →
      inb a5 (zN κ (zR κ soVisits a0)) ∧
      ∃ u4, (zQ κ (zR κ soVisits a0) (a5).toNatClampNeg) = some u4 ∧
      ∀ _ : zT κ (zR κ soPart a0) = 11,
      ∀ _ : zT κ u4 = 11,
      zRun C 2 mRa_copy [.ref (zR κ soPart a0), .ref u4] κ (oV (fun κ5 =>
        ∀ _ : zW C n0 κ5,
        ∀ _ : zM (zn κ) κ κ5,
        ∀ _ : zT κ5 a0 = 12,
        zRun C 4 mSo_addTerm [.ref a0, .long s0] κ5 (oV (fun κ8 =>
          ∀ _ : zW C n0 κ8,
          ∀ _ : zM (zn κ5) κ5 κ8,
          ∀ v5_12 : Int32, v5_12 = a5 + (1 : Int32) →
          B125 a0 a1 a3 a4 v5_12 κ8) noX)) noX)))
theorem t_So_showVisits_153 {C : zC} {n0 : Nat} {Q : zS → Prop} {B125 : Nat → Int32 → Nat → Int32 → Int32 → zS → Prop} (hB125 : ∀ a0' a1' a3' a4' a5' τ, zW C n0 τ → zT τ a0' = 12 → zT τ a3' = 11 → B125 a0' a1' a3' a4' a5' τ → zG C n0 7 mSo_showVisits 125 [some (.ref a0'), some (.int a1'), none, some (.ref a3'), some (.int a4'), some (.int a5'), none, none] [] τ (oV Q noX)) {a0 : Nat} {a1 : Int32} {a3 : Nat} {a4 : Int32} {a5 : Int32} {s0 : Int64} {κ : zS} (W : zW C n0 κ) (Ta0 : zT κ a0 = 12) (Ta3 : zT κ a3 = 11) (F : w_So_showVisits_153 C n0 Q B125 a0 a1 a3 a4 a5 s0 κ) : zG C n0 7 mSo_showVisits 153 [some (.ref a0), some (.int a1), none, some (.ref a3), some (.int a4), some (.int a5), none, none] [.long s0] κ (oV Q noX) := by
  unfold w_So_showVisits_153 at F
  refine y_ls dX9_showVisits_153 (Nat.le_of_ble_eq_true rfl) rfl ?_
  show zG _ _ _ _ _ [some (.ref a0), some (.int a1), none, some (.ref a3), some (.int a4), some (.int a5), some (.long s0), none] _ _ _
  refine y_aln dX9_showVisits_155 rfl ?_
  refine gf_X9_28 W dX9_showVisits_156 rfl Ta0 ?_
  refine y_il dX9_showVisits_159 rfl ?_
  refine y_qld (t := 5) dX9_showVisits_161 (ty_soVisits W Ta0) (by decide) F.1 ?_
  replace F := F.2
  obtain ⟨u1, Eu1, F⟩ := F
  have Tu1 : zT κ u1 = 11 := (fun v hv => W.2.2.2.2.1 _ _ v (ty_soVisits W Ta0) hv) u1 Eu1
  refine y_uq0 Eu1 ?_
  refine gf_X9_164 dX9_showVisits_162 rfl (Or.inl Tu1) ?_
  refine y_i ((zI κ raSign u1) = (0 : Int32)) dX9_showVisits_165 (t := 195) rfl rfl (fun c9 => ?_) (fun c9 => ?_)
  · replace F := F.1 c9
    refine y_incb dX9_showVisits_195 zi_1 rfl (Nat.le_of_ble_eq_true rfl) (fun v5_2 ev5_2 => ?_)
    replace F := F v5_2 ev5_2
    show zG _ _ _ _ _ [some (.ref a0), some (.int a1), none, some (.ref a3), some (.int a4), some (.int v5_2), some (.long s0), none] _ _ _
    refine y_goto dX9_showVisits_198 (t := 125) rfl ?_
    exact y_k (hB125 _ _ _ _ _ _ W Ta0 Ta3 F) ⟨rfl, rfl, rfl, rfl, rfl, trivial⟩
  · replace F := F.2 c9
    refine y_ll dX9_showVisits_168 rfl ?_
    refine y_lc dX9_showVisits_170 zl_0 ?_
    refine y_lcmp dX9_showVisits_171 ?_
    refine y_i ((lg_cmp s0 (0 : Int64)) = (0 : Int32)) dX9_showVisits_172 (t := 195) rfl rfl (fun c9 => ?_) (fun c9 => ?_)
    · replace F := F.1 c9
      refine y_incb dX9_showVisits_195 zi_1 rfl (Nat.le_of_ble_eq_true rfl) (fun v5_3 ev5_3 => ?_)
      replace F := F v5_3 ev5_3
      show zG _ _ _ _ _ [some (.ref a0), some (.int a1), none, some (.ref a3), some (.int a4), some (.int v5_3), some (.long s0), none] _ _ _
      refine y_goto dX9_showVisits_198 (t := 125) rfl ?_
      exact y_k (hB125 _ _ _ _ _ _ W Ta0 Ta3 F) ⟨rfl, rfl, rfl, rfl, rfl, trivial⟩
    · replace F := F.2 c9
      refine y_aln dX9_showVisits_175 rfl ?_
      refine gf_X9_45 W dX9_showVisits_176 rfl Ta0 ?_
      refine y_aln dX9_showVisits_179 rfl ?_
      refine gf_X9_28 W dX9_showVisits_180 rfl Ta0 ?_
      refine y_il dX9_showVisits_183 rfl ?_
      refine y_qld (t := 5) dX9_showVisits_185 (ty_soVisits W Ta0) (by decide) F.1 ?_
      replace F := F.2
      obtain ⟨u4, Eu4, F⟩ := F
      have Tu4 : zT κ u4 = 11 := (fun v hv => W.2.2.2.2.1 _ _ v (ty_soVisits W Ta0) hv) u4 Eu4
      refine y_uq0 Eu4 ?_
      replace F := F (ty_soPart W Ta0)
      replace F := F Tu4
      refine k_X9_132 W dX9_showVisits_186 rfl (Nat.le_of_ble_eq_true rfl) (Nat.le_of_ble_eq_true rfl) (Or.inl (ty_soPart W Ta0)) F (fun  κ5 Wκ5 Mκ5 F => ?_) (fun _ _ h9 => False.elim h9)
      replace F := F Wκ5 Mκ5
      refine y_aln dX9_showVisits_189 rfl ?_
      refine y_ll dX9_showVisits_190 rfl ?_
      have h10 := (ztm W Mκ5 Ta0)
      replace F := F h10
      refine k_X9_216 Wκ5 dX9_showVisits_192 rfl (Nat.le_of_ble_eq_true rfl) (Nat.le_of_ble_eq_true rfl) (Or.inl h10) F (fun  κ8 Wκ8 Mκ8 F => ?_) (fun _ _ h9 => False.elim h9)
      replace F := F Wκ8 Mκ8
      refine y_incb dX9_showVisits_195 zi_1 rfl (Nat.le_of_ble_eq_true rfl) (fun v5_12 ev5_12 => ?_)
      replace F := F v5_12 ev5_12
      show zG _ _ _ _ _ [some (.ref a0), some (.int a1), none, some (.ref a3), some (.int a4), some (.int v5_12), some (.long s0), none] _ _ _
      refine y_goto dX9_showVisits_198 (t := 125) rfl ?_
      have h13 := (ztm Wκ5 Mκ8 h10)
      have h14 := (ztm Wκ5 Mκ8 (ztm W Mκ5 Ta3))
      exact y_k (hB125 _ _ _ _ _ _ Wκ8 h13 h14 F) ⟨rfl, rfl, rfl, rfl, rfl, trivial⟩

def w_So_showVisits_125 (C : zC) (n0 : Nat) (Q : zS → Prop)  (a0 : Nat) (a1 : Int32) (a3 : Nat) (a4 : Int32) (a5 : Int32) (κ : zS) : Prop :=
  ∃ I : Nat → Nat → Int32 → Nat → Int32 → Int32 → zS → Prop, (∃ n, I n a0 a1 a3 a4 a5 κ) ∧ ∀ n a0 a1 a3 a4 a5 κ, zW C n0 κ → zT κ a0 = 12 → zT κ a3 = 11 → I n a0 a1 a3 a4 a5 κ →
    (a4 ≤ a5 →
      ∀ _ : zT κ a0 = 12,
      ∀ _ : zT κ (zR κ soWhole a0) = 8,
      zRun C 6 mSo_settle [.ref a0, .ref (zR κ soWhole a0)] κ (oV (fun κ1 =>
        ∀ _ : zW C n0 κ1,
        ∀ _ : zM (zn κ) κ κ1,
        ∀ _ : zT κ1 a3 = 11,
        ∀ _ : zT κ1 (zR κ1 soPart a0) = 11,
        zRun C 2 mRa_copy [.ref a3, .ref (zR κ1 soPart a0)] κ1 (oV (fun κ5 =>
          ∀ _ : zW C n0 κ5,
          ∀ _ : zM (zn κ1) κ1 κ5,
          Q κ5) noX)) noX)) ∧
    (¬ a4 ≤ a5 →
      (¬ a1 = (9 : Int32) →
        inb a5 (zN κ (zR κ atGains (zR κ soAtlas a0))) ∧
        w_So_showVisits_153 C n0 Q (fun a0' a1' a3' a4' a5' τ => ∃ k < n, I k a0' a1' a3' a4' a5' τ) a0 a1 a3 a4 a5 (Int32.toInt64 (zA κ (zR κ atGains (zR κ soAtlas a0)) (a5).toNatClampNeg)) κ) ∧
      (a1 = (9 : Int32) →
        w_So_showVisits_153 C n0 Q (fun a0' a1' a3' a4' a5' τ => ∃ k < n, I k a0' a1' a3' a4' a5' τ) a0 a1 a3 a4 a5 (1 : Int64) κ))
theorem t_So_showVisits_125 {C : zC} {n0 : Nat} {Q : zS → Prop}   {a0 : Nat} {a1 : Int32} {a3 : Nat} {a4 : Int32} {a5 : Int32} {κ : zS} (W : zW C n0 κ) (Ta0 : zT κ a0 = 12) (Ta3 : zT κ a3 = 11) (F : w_So_showVisits_125 C n0 Q  a0 a1 a3 a4 a5 κ) : zG C n0 7 mSo_showVisits 125 [some (.ref a0), some (.int a1), none, some (.ref a3), some (.int a4), some (.int a5), none, none] [] κ (oV Q noX) := by
  obtain ⟨I, ⟨m0, hI0⟩, F0⟩ := F
  have key : ∀ n a0 a1 a3 a4 a5 κ, zW C n0 κ → zT κ a0 = 12 → zT κ a3 = 11 → I n a0 a1 a3 a4 a5 κ → zG C n0 7 mSo_showVisits 125 [some (.ref a0), some (.int a1), none, some (.ref a3), some (.int a4), some (.int a5), none, none] [] κ (oV Q noX) := by
    intro n
    induction n using Nat.strongRecOn with
    | _ n ih =>
      intro a0 a1 a3 a4 a5 κ W Ta0 Ta3 hI
      have F := F0 n a0 a1 a3 a4 a5 κ W Ta0 Ta3 hI
      clear hI hI0
      refine y_il dX9_showVisits_125 rfl ?_
      refine y_il dX9_showVisits_127 rfl ?_
      refine y_ii (a4 ≤ a5) dX9_showVisits_129 (t := 201) rfl rfl (fun c9 => ?_) (fun c9 => ?_)
      · replace F := F.1 c9
        refine y_aln dX9_showVisits_201 rfl ?_
        refine y_aln dX9_showVisits_202 rfl ?_
        refine gf_X9_40 W dX9_showVisits_203 rfl Ta0 ?_
        replace F := F Ta0
        replace F := F (ty_soWhole W Ta0)
        refine k_X9_281 W dX9_showVisits_206 rfl (Nat.le_of_ble_eq_true rfl) (Nat.le_of_ble_eq_true rfl) (Or.inl Ta0) F (fun  κ1 Wκ1 Mκ1 F => ?_) (fun _ _ h9 => False.elim h9)
        replace F := F Wκ1 Mκ1
        refine y_aln dX9_showVisits_209 rfl ?_
        refine y_aln dX9_showVisits_210 rfl ?_
        have h4 := (ztm W Mκ1 Ta0)
        refine gf_X9_45 Wκ1 dX9_showVisits_211 rfl h4 ?_
        have h7 := (ztm W Mκ1 Ta3)
        replace F := F h7
        replace F := F (ty_soPart Wκ1 h4)
        refine k_X9_132 Wκ1 dX9_showVisits_214 rfl (Nat.le_of_ble_eq_true rfl) (Nat.le_of_ble_eq_true rfl) (Or.inl h7) F (fun  κ5 Wκ5 Mκ5 F => ?_) (fun _ _ h9 => False.elim h9)
        replace F := F Wκ5 Mκ5
        exact y_rv Wκ5 dX9_showVisits_217 rfl F
      · replace F := F.2 c9
        refine y_iln dX9_showVisits_132 rfl ?_
        refine y_bi1 dX9_showVisits_133 zb_9 ?_
        refine y_iin (a1 = (9 : Int32)) dX9_showVisits_135 (t := 142) rfl rfl (fun c9 => ?_) (fun c9 => ?_)
        · replace F := F.1 c9
          refine y_aln dX9_showVisits_142 rfl ?_
          refine gf_X9_9 W dX9_showVisits_143 rfl Ta0 ?_
          refine gf_X9_278 W dX9_showVisits_146 rfl (ty_soAtlas W Ta0) ?_
          refine y_il dX9_showVisits_149 rfl ?_
          refine y_ald dX9_showVisits_151 (ty_atGains W (ty_soAtlas W Ta0)) F.1 ?_
          replace F := F.2
          refine y_i2l dX9_showVisits_152 ?_
          exact y_k (t_So_showVisits_153 (fun a0' a1' a3' a4' a5' τ w9 f09 f19 hb => by obtain ⟨k, hk, hI⟩ := hb; exact ih k hk a0' a1' a3' a4' a5' τ w9 f09 f19 hI) W Ta0 Ta3 F) ⟨rfl, rfl, rfl, rfl, rfl, trivial⟩
        · replace F := F.2 c9
          refine y_lc dX9_showVisits_138 zl_1 ?_
          refine y_goto dX9_showVisits_139 (t := 153) rfl ?_
          exact y_k (t_So_showVisits_153 (fun a0' a1' a3' a4' a5' τ w9 f09 f19 hb => by obtain ⟨k, hk, hI⟩ := hb; exact ih k hk a0' a1' a3' a4' a5' τ w9 f09 f19 hI) W Ta0 Ta3 F) ⟨rfl, rfl, rfl, rfl, rfl, trivial⟩
  exact key m0 a0 a1 a3 a4 a5 κ W Ta0 Ta3 hI0

def w_So_showVisits_40 (C : zC) (n0 : Nat) (Q : zS → Prop)  (a0 : Nat) (a1 : Int32) (a3 : Nat) (a4 : Int32) (a5 : Int32) (κ : zS) : Prop :=
  ∃ I : Nat → Nat → Int32 → Nat → Int32 → Int32 → zS → Prop, (∃ n, I n a0 a1 a3 a4 a5 κ) ∧ ∀ n a0 a1 a3 a4 a5 κ, zW C n0 κ → zT κ a0 = 12 → zT κ a3 = 11 → I n a0 a1 a3 a4 a5 κ →
    (a4 ≤ a5 →
      ∀ _ : zT κ (zR κ soSum a0) = 8,
      zRun C 0 mNu_put [.ref (zR κ soSum a0), .long (0 : Int64)] κ (oV (fun κ1 =>
        ∀ _ : zW C n0 κ1,
        ∀ _ : zM (zn κ) κ κ1,
        ∀ _ : zT κ1 (zR κ1 soLess a0) = 8,
        zRun C 0 mNu_put [.ref (zR κ1 soLess a0), .long (0 : Int64)] κ1 (oV (fun κ5 =>
          ∀ _ : zW C n0 κ5,
          ∀ _ : zM (zn κ1) κ1 κ5,
          w_So_showVisits_125 C n0 Q  a0 a1 a3 a4 (0 : Int32) κ5) noX)) noX)) ∧
    (¬ a4 ≤ a5 →
      inb a5 (zN κ (zR κ soVisits a0)) ∧
      ∃ u10, (zQ κ (zR κ soVisits a0) (a5).toNatClampNeg) = some u10 ∧
      ((zI κ raSign u10) = (0 : Int32) →
        ∀ v5_11 : Int32, v5_11 = a5 + (1 : Int32) →
        ∃ k < n, I k a0 a1 a3 a4 v5_11 κ) ∧
      (¬ (zI κ raSign u10) = (0 : Int32) →
        (a1 = (9 : Int32) →
          w_So_showVisits_79 C n0 Q (fun a0' a1' a3' a4' a5' τ => ∃ k < n, I k a0' a1' a3' a4' a5' τ) a0 a1 a3 a4 a5 κ) ∧
        (¬ a1 = (9 : Int32) →
          inb a5 (zN κ (zR κ atGains (zR κ soAtlas a0))) ∧
          ((zA κ (zR κ atGains (zR κ soAtlas a0)) (a5).toNatClampNeg) = (0 : Int32) →
            ∀ v5_12 : Int32, v5_12 = a5 + (1 : Int32) →
            ∃ k < n, I k a0 a1 a3 a4 v5_12 κ) ∧
          (¬ (zA κ (zR κ atGains (zR κ soAtlas a0)) (a5).toNatClampNeg) = (0 : Int32) →
            w_So_showVisits_79 C n0 Q (fun a0' a1' a3' a4' a5' τ => ∃ k < n, I k a0' a1' a3' a4' a5' τ) a0 a1 a3 a4 a5 κ))))
theorem t_So_showVisits_40 {C : zC} {n0 : Nat} {Q : zS → Prop}   {a0 : Nat} {a1 : Int32} {a3 : Nat} {a4 : Int32} {a5 : Int32} {κ : zS} (W : zW C n0 κ) (Ta0 : zT κ a0 = 12) (Ta3 : zT κ a3 = 11) (F : w_So_showVisits_40 C n0 Q  a0 a1 a3 a4 a5 κ) : zG C n0 7 mSo_showVisits 40 [some (.ref a0), some (.int a1), none, some (.ref a3), some (.int a4), some (.int a5), none, none] [] κ (oV Q noX) := by
  obtain ⟨I, ⟨m0, hI0⟩, F0⟩ := F
  have key : ∀ n a0 a1 a3 a4 a5 κ, zW C n0 κ → zT κ a0 = 12 → zT κ a3 = 11 → I n a0 a1 a3 a4 a5 κ → zG C n0 7 mSo_showVisits 40 [some (.ref a0), some (.int a1), none, some (.ref a3), some (.int a4), some (.int a5), none, none] [] κ (oV Q noX) := by
    intro n
    induction n using Nat.strongRecOn with
    | _ n ih =>
      intro a0 a1 a3 a4 a5 κ W Ta0 Ta3 hI
      have F := F0 n a0 a1 a3 a4 a5 κ W Ta0 Ta3 hI
      clear hI hI0
      refine y_il dX9_showVisits_40 rfl ?_
      refine y_il dX9_showVisits_42 rfl ?_
      refine y_ii (a4 ≤ a5) dX9_showVisits_44 (t := 106) rfl rfl (fun c9 => ?_) (fun c9 => ?_)
      · replace F := F.1 c9
        refine y_aln dX9_showVisits_106 rfl ?_
        refine gf_X9_58 W dX9_showVisits_107 rfl Ta0 ?_
        refine y_lc dX9_showVisits_110 zl_0 ?_
        replace F := F (ty_soSum W Ta0)
        refine k_X9_191 W dX9_showVisits_111 rfl (Nat.le_of_ble_eq_true rfl) (Nat.le_of_ble_eq_true rfl) (Or.inl (ty_soSum W Ta0)) F (fun  κ1 Wκ1 Mκ1 F => ?_) (fun _ _ h9 => False.elim h9)
        replace F := F Wκ1 Mκ1
        refine y_aln dX9_showVisits_114 rfl ?_
        have h4 := (ztm W Mκ1 Ta0)
        refine gf_X9_61 Wκ1 dX9_showVisits_115 rfl h4 ?_
        refine y_lc dX9_showVisits_118 zl_0 ?_
        replace F := F (ty_soLess Wκ1 h4)
        refine k_X9_191 Wκ1 dX9_showVisits_119 rfl (Nat.le_of_ble_eq_true rfl) (Nat.le_of_ble_eq_true rfl) (Or.inl (ty_soLess Wκ1 h4)) F (fun  κ5 Wκ5 Mκ5 F => ?_) (fun _ _ h9 => False.elim h9)
        replace F := F Wκ5 Mκ5
        refine y_ic dX9_showVisits_122 zi_0 ?_
        refine y_is dX9_showVisits_123 (Nat.le_of_ble_eq_true rfl) rfl ?_
        show zG _ _ _ _ _ [some (.ref a0), some (.int a1), none, some (.ref a3), some (.int a4), some (.int (0 : Int32)), none, none] _ _ _
        have h8 := (ztm Wκ1 Mκ5 h4)
        have h9 := (ztm Wκ1 Mκ5 (ztm W Mκ1 Ta3))
        exact y_k (t_So_showVisits_125  Wκ5 h8 h9 F) ⟨rfl, rfl, rfl, rfl, rfl, trivial⟩
      · replace F := F.2 c9
        refine y_aln dX9_showVisits_47 rfl ?_
        refine gf_X9_28 W dX9_showVisits_48 rfl Ta0 ?_
        refine y_il dX9_showVisits_51 rfl ?_
        refine y_qld (t := 5) dX9_showVisits_53 (ty_soVisits W Ta0) (by decide) F.1 ?_
        replace F := F.2
        obtain ⟨u10, Eu10, F⟩ := F
        have Tu10 : zT κ u10 = 11 := (fun v hv => W.2.2.2.2.1 _ _ v (ty_soVisits W Ta0) hv) u10 Eu10
        refine y_uq0 Eu10 ?_
        refine gf_X9_164 dX9_showVisits_54 rfl (Or.inl Tu10) ?_
        refine y_i ((zI κ raSign u10) = (0 : Int32)) dX9_showVisits_57 (t := 100) rfl rfl (fun c9 => ?_) (fun c9 => ?_)
        · replace F := F.1 c9
          refine y_incb dX9_showVisits_100 zi_1 rfl (Nat.le_of_ble_eq_true rfl) (fun v5_11 ev5_11 => ?_)
          replace F := F v5_11 ev5_11
          show zG _ _ _ _ _ [some (.ref a0), some (.int a1), none, some (.ref a3), some (.int a4), some (.int v5_11), none, none] _ _ _
          refine y_goto dX9_showVisits_103 (t := 40) rfl ?_
          obtain ⟨k, hk, hI⟩ := F
          exact y_k (ih k hk _ _ _ _ _ _ W Ta0 Ta3 hI) ⟨rfl, rfl, rfl, rfl, rfl, trivial⟩
        · replace F := F.2 c9
          refine y_iln dX9_showVisits_60 rfl ?_
          refine y_bi1 dX9_showVisits_61 zb_9 ?_
          refine y_ii (a1 = (9 : Int32)) dX9_showVisits_63 (t := 79) rfl rfl (fun c9 => ?_) (fun c9 => ?_)
          · replace F := F.1 c9
            exact y_k (t_So_showVisits_79 (fun a0' a1' a3' a4' a5' τ w9 f09 f19 hb => by obtain ⟨k, hk, hI⟩ := hb; exact ih k hk a0' a1' a3' a4' a5' τ w9 f09 f19 hI) W Ta0 Ta3 F) ⟨rfl, rfl, rfl, rfl, rfl, trivial⟩
          · replace F := F.2 c9
            refine y_aln dX9_showVisits_66 rfl ?_
            refine gf_X9_9 W dX9_showVisits_67 rfl Ta0 ?_
            refine gf_X9_278 W dX9_showVisits_70 rfl (ty_soAtlas W Ta0) ?_
            refine y_il dX9_showVisits_73 rfl ?_
            refine y_ald dX9_showVisits_75 (ty_atGains W (ty_soAtlas W Ta0)) F.1 ?_
            replace F := F.2
            refine y_i ((zA κ (zR κ atGains (zR κ soAtlas a0)) (a5).toNatClampNeg) = (0 : Int32)) dX9_showVisits_76 (t := 100) rfl rfl (fun c9 => ?_) (fun c9 => ?_)
            · replace F := F.1 c9
              refine y_incb dX9_showVisits_100 zi_1 rfl (Nat.le_of_ble_eq_true rfl) (fun v5_12 ev5_12 => ?_)
              replace F := F v5_12 ev5_12
              show zG _ _ _ _ _ [some (.ref a0), some (.int a1), none, some (.ref a3), some (.int a4), some (.int v5_12), none, none] _ _ _
              refine y_goto dX9_showVisits_103 (t := 40) rfl ?_
              obtain ⟨k, hk, hI⟩ := F
              exact y_k (ih k hk _ _ _ _ _ _ W Ta0 Ta3 hI) ⟨rfl, rfl, rfl, rfl, rfl, trivial⟩
            · replace F := F.2 c9
              exact y_k (t_So_showVisits_79 (fun a0' a1' a3' a4' a5' τ w9 f09 f19 hb => by obtain ⟨k, hk, hI⟩ := hb; exact ih k hk a0' a1' a3' a4' a5' τ w9 f09 f19 hI) W Ta0 Ta3 F) ⟨rfl, rfl, rfl, rfl, rfl, trivial⟩
  exact key m0 a0 a1 a3 a4 a5 κ W Ta0 Ta3 hI0

def w_So_showVisits_0 (C : zC) (n0 : Nat) (Q : zS → Prop)  (a0 : Nat) (a1 : Int32) (a2 : Int32) (a3 : Nat) (κ : zS) : Prop :=
  (¬ a1 = (8 : Int32) →
    ∀ _ : zT κ (zR κ soWhole a0) = 8,
    zRun C 0 mNu_put [.ref (zR κ soWhole a0), .long (1 : Int64)] κ (oV (fun κ1 =>
      ∀ _ : zW C n0 κ1,
      ∀ _ : zM (zn κ) κ κ1,
      ∀ v4_5 : Int32, v4_5 = (zI κ1 hoTotal (zR κ1 atStates (zR κ1 soAtlas a0))) →
      w_So_showVisits_40 C n0 Q  a0 a1 a3 v4_5 (0 : Int32) κ1) noX)) ∧
  (a1 = (8 : Int32) →
    inb a2 (zN κ (zR κ soVisits a0)) ∧
    ∃ u7, (zQ κ (zR κ soVisits a0) (a2).toNatClampNeg) = some u7 ∧
    ∀ _ : zT κ a3 = 11,
    ∀ _ : zT κ u7 = 11,
    zRun C 2 mRa_copy [.ref a3, .ref u7] κ (oV (fun κ8 =>
      ∀ _ : zW C n0 κ8,
      ∀ _ : zM (zn κ) κ κ8,
      Q κ8) noX))
theorem t_So_showVisits_0 {C : zC} {n0 : Nat} {Q : zS → Prop}   {a0 : Nat} {a1 : Int32} {a2 : Int32} {a3 : Nat} {κ : zS} (W : zW C n0 κ) (Ta0 : zT κ a0 = 12) (Ta3 : zT κ a3 = 11) (F : w_So_showVisits_0 C n0 Q  a0 a1 a2 a3 κ) : zG C n0 7 mSo_showVisits 0 [some (.ref a0), some (.int a1), some (.int a2), some (.ref a3), none, none, none, none] [] κ (oV Q noX) := by
  unfold w_So_showVisits_0 at F
  refine y_iln dX9_showVisits_0 rfl ?_
  refine y_bi1 dX9_showVisits_1 zb_8 ?_
  refine y_iin (a1 = (8 : Int32)) dX9_showVisits_3 (t := 17) rfl rfl (fun c9 => ?_) (fun c9 => ?_)
  · replace F := F.1 c9
    refine y_aln dX9_showVisits_17 rfl ?_
    refine gf_X9_40 W dX9_showVisits_18 rfl Ta0 ?_
    refine y_lc dX9_showVisits_21 zl_1 ?_
    replace F := F (ty_soWhole W Ta0)
    refine k_X9_191 W dX9_showVisits_22 rfl (Nat.le_of_ble_eq_true rfl) (Nat.le_of_ble_eq_true rfl) (Or.inl (ty_soWhole W Ta0)) F (fun  κ1 Wκ1 Mκ1 F => ?_) (fun _ _ h9 => False.elim h9)
    replace F := F Wκ1 Mκ1
    refine y_aln dX9_showVisits_25 rfl ?_
    have h4 := (ztm W Mκ1 Ta0)
    refine gf_X9_9 Wκ1 dX9_showVisits_26 rfl h4 ?_
    refine gf_X9_271 Wκ1 dX9_showVisits_29 rfl (ty_soAtlas Wκ1 h4) ?_
    refine gf_X9_275 dX9_showVisits_32 rfl (Or.inl (ty_atStates Wκ1 (ty_soAtlas Wκ1 h4))) ?_
    refine y_isb dX9_showVisits_35 (Nat.le_of_ble_eq_true rfl) (fun v4_5 ev4_5 => ?_)
    replace F := F v4_5 ev4_5
    show zG _ _ _ _ _ [some (.ref a0), some (.int a1), some (.int a2), some (.ref a3), some (.int v4_5), none, none, none] _ _ _
    refine y_ic dX9_showVisits_37 zi_0 ?_
    refine y_is dX9_showVisits_38 (Nat.le_of_ble_eq_true rfl) rfl ?_
    show zG _ _ _ _ _ [some (.ref a0), some (.int a1), some (.int a2), some (.ref a3), some (.int v4_5), some (.int (0 : Int32)), none, none] _ _ _
    have h6 := (ztm W Mκ1 Ta3)
    exact y_k (t_So_showVisits_40  Wκ1 h4 h6 F) ⟨rfl, rfl, rfl, rfl, rfl, trivial⟩
  · replace F := F.2 c9
    refine y_aln dX9_showVisits_6 rfl ?_
    refine y_aln dX9_showVisits_7 rfl ?_
    refine gf_X9_28 W dX9_showVisits_8 rfl Ta0 ?_
    refine y_iln dX9_showVisits_11 rfl ?_
    refine y_qld (t := 5) dX9_showVisits_12 (ty_soVisits W Ta0) (by decide) F.1 ?_
    replace F := F.2
    obtain ⟨u7, Eu7, F⟩ := F
    have Tu7 : zT κ u7 = 11 := (fun v hv => W.2.2.2.2.1 _ _ v (ty_soVisits W Ta0) hv) u7 Eu7
    refine y_uq0 Eu7 ?_
    replace F := F Ta3
    replace F := F Tu7
    refine k_X9_132 W dX9_showVisits_13 rfl (Nat.le_of_ble_eq_true rfl) (Nat.le_of_ble_eq_true rfl) (Or.inl Ta3) F (fun  κ8 Wκ8 Mκ8 F => ?_) (fun _ _ h9 => False.elim h9)
    replace F := F Wκ8 Mκ8
    exact y_rv Wκ8 dX9_showVisits_16 rfl F

theorem So_showVisits_run {C : zC} {n0 : Nat} {Q : zS → Prop} {a0 : Nat} {a1 : Int32} {a2 : Int32} {a3 : Nat} {κ : zS} (W : zW C n0 κ) (Ta0 : zT κ a0 = 12) (Ta3 : zT κ a3 = 11) (F : w_So_showVisits_0 C (zn κ) Q a0 a1 a2 a3 κ) : zRun C 7 mSo_showVisits [.ref a0, .int a1, .int a2, .ref a3] κ (oV Q noX) := z_run (m_ent _ 4) (t_So_showVisits_0 (W.lo (Nat.le_trans W.1.2.1 W.1.2.2) (Nat.le_refl _)) Ta0 Ta3 F)

theorem dX9_worthBehind_0 : decode cX9_worthBehind 0 = .ok (.aload_n 0, 1) := by decide +kernel
theorem dX9_worthBehind_1 : decode cX9_worthBehind 1 = .ok (.getfield 9, 3) := by decide +kernel
theorem dX9_worthBehind_4 : decode cX9_worthBehind 4 = .ok (.getfield 311, 3) := by decide +kernel
theorem dX9_worthBehind_7 : decode cX9_worthBehind 7 = .ok (.iload_n 1, 1) := by decide +kernel
theorem dX9_worthBehind_8 : decode cX9_worthBehind 8 = .ok (.iaload, 1) := by decide +kernel
theorem dX9_worthBehind_9 : decode cX9_worthBehind 9 = .ok (.ifCond .ne 20, 3) := by decide +kernel
theorem dX9_worthBehind_12 : decode cX9_worthBehind 12 = .ok (.aload_n 0, 1) := by decide +kernel
theorem dX9_worthBehind_13 : decode cX9_worthBehind 13 = .ok (.getfield 32, 3) := by decide +kernel
theorem dX9_worthBehind_16 : decode cX9_worthBehind 16 = .ok (.aload_n 0, 1) := by decide +kernel
theorem dX9_worthBehind_17 : decode cX9_worthBehind 17 = .ok (.getfield 9, 3) := by decide +kernel
theorem dX9_worthBehind_20 : decode cX9_worthBehind 20 = .ok (.getfield 314, 3) := by decide +kernel
theorem dX9_worthBehind_23 : decode cX9_worthBehind 23 = .ok (.iload_n 1, 1) := by decide +kernel
theorem dX9_worthBehind_24 : decode cX9_worthBehind 24 = .ok (.iaload, 1) := by decide +kernel
theorem dX9_worthBehind_25 : decode cX9_worthBehind 25 = .ok (.aaload, 1) := by decide +kernel
theorem dX9_worthBehind_26 : decode cX9_worthBehind 26 = .ok (.goto 4, 3) := by decide +kernel
theorem dX9_worthBehind_29 : decode cX9_worthBehind 29 = .ok (.aconst_null, 1) := by decide +kernel
theorem dX9_worthBehind_30 : decode cX9_worthBehind 30 = .ok (.areturn, 1) := by decide +kernel
def w_So_worthBehind_0 (C : zC) (n0 : Nat) (Q : Option Nat → zS → Prop)  (a0 : Nat) (a1 : Int32) (κ : zS) : Prop :=
  inb a1 (zN κ (zR κ atSorts (zR κ soAtlas a0))) ∧
  (¬ (zA κ (zR κ atSorts (zR κ soAtlas a0)) (a1).toNatClampNeg) = (0 : Int32) →
    Q none κ) ∧
  ((zA κ (zR κ atSorts (zR κ soAtlas a0)) (a1).toNatClampNeg) = (0 : Int32) →
    inb a1 (zN κ (zR κ atNumbers (zR κ soAtlas a0))) ∧
    inb (zA κ (zR κ atNumbers (zR κ soAtlas a0)) (a1).toNatClampNeg) (zN κ (zR κ soWorths a0)) ∧
    Q (zQ κ (zR κ soWorths a0) ((zA κ (zR κ atNumbers (zR κ soAtlas a0)) (a1).toNatClampNeg)).toNatClampNeg) κ)
theorem t_So_worthBehind_0 {C : zC} {n0 : Nat} {Q : Option Nat → zS → Prop}   {a0 : Nat} {a1 : Int32} {κ : zS} (W : zW C n0 κ) (Ta0 : zT κ a0 = 12) (F : w_So_worthBehind_0 C n0 Q  a0 a1 κ) : zG C n0 0 mSo_worthBehind 0 [some (.ref a0), some (.int a1)] [] κ (oQ 11 Q noX) := by
  unfold w_So_worthBehind_0 at F
  refine y_aln dX9_worthBehind_0 rfl ?_
  refine gf_X9_9 W dX9_worthBehind_1 rfl Ta0 ?_
  refine gf_X9_311 W dX9_worthBehind_4 rfl (ty_soAtlas W Ta0) ?_
  refine y_iln dX9_worthBehind_7 rfl ?_
  refine y_ald dX9_worthBehind_8 (ty_atSorts W (ty_soAtlas W Ta0)) F.1 ?_
  replace F := F.2
  refine y_in ((zA κ (zR κ atSorts (zR κ soAtlas a0)) (a1).toNatClampNeg) = (0 : Int32)) dX9_worthBehind_9 (t := 29) rfl rfl (fun c9 => ?_) (fun c9 => ?_)
  · replace F := F.1 c9
    refine y_null dX9_worthBehind_29 ?_
    exact y_rq W dX9_worthBehind_30 rfl (fun v hv => nomatch hv) F
  · replace F := F.2 c9
    refine y_aln dX9_worthBehind_12 rfl ?_
    refine gf_X9_32 W dX9_worthBehind_13 rfl Ta0 ?_
    refine y_aln dX9_worthBehind_16 rfl ?_
    refine gf_X9_9 W dX9_worthBehind_17 rfl Ta0 ?_
    refine gf_X9_314 W dX9_worthBehind_20 rfl (ty_soAtlas W Ta0) ?_
    refine y_iln dX9_worthBehind_23 rfl ?_
    refine y_ald dX9_worthBehind_24 (ty_atNumbers W (ty_soAtlas W Ta0)) F.1 ?_
    replace F := F.2
    refine y_qld (t := 5) dX9_worthBehind_25 (ty_soWorths W Ta0) (by decide) F.1 ?_
    replace F := F.2
    refine y_goto dX9_worthBehind_26 (t := 30) rfl ?_
    exact y_rq W dX9_worthBehind_30 rfl (fun v hv => W.2.2.2.2.1 _ _ v (ty_soWorths W Ta0) hv) F

theorem So_worthBehind_run {C : zC} {n0 : Nat} {Q : Option Nat → zS → Prop} {a0 : Nat} {a1 : Int32} {κ : zS} (W : zW C n0 κ) (Ta0 : zT κ a0 = 12) (F : w_So_worthBehind_0 C (zn κ) Q a0 a1 κ) : zRun C 0 mSo_worthBehind [.ref a0, .int a1] κ (oQ 11 Q noX) := z_run (m_ent _ 0) (t_So_worthBehind_0 (W.lo (Nat.le_trans W.1.2.1 W.1.2.2) (Nat.le_refl _)) Ta0 F)

theorem dX9_isAbove_0 : decode cX9_isAbove 0 = .ok (.aload_n 1, 1) := by decide +kernel
theorem dX9_isAbove_1 : decode cX9_isAbove 1 = .ok (.ifnonnull 7, 3) := by decide +kernel
theorem dX9_isAbove_4 : decode cX9_isAbove 4 = .ok (.iconst 0, 1) := by decide +kernel
theorem dX9_isAbove_5 : decode cX9_isAbove 5 = .ok (.goto 7, 3) := by decide +kernel
theorem dX9_isAbove_8 : decode cX9_isAbove 8 = .ok (.aload_n 1, 1) := by decide +kernel
theorem dX9_isAbove_9 : decode cX9_isAbove 9 = .ok (.getfield 164, 3) := by decide +kernel
theorem dX9_isAbove_12 : decode cX9_isAbove 12 = .ok (.istore_n 3, 1) := by decide +kernel
theorem dX9_isAbove_13 : decode cX9_isAbove 13 = .ok (.aload_n 2, 1) := by decide +kernel
theorem dX9_isAbove_14 : decode cX9_isAbove 14 = .ok (.ifnonnull 7, 3) := by decide +kernel
theorem dX9_isAbove_17 : decode cX9_isAbove 17 = .ok (.iconst 0, 1) := by decide +kernel
theorem dX9_isAbove_18 : decode cX9_isAbove 18 = .ok (.goto 7, 3) := by decide +kernel
theorem dX9_isAbove_21 : decode cX9_isAbove 21 = .ok (.aload_n 2, 1) := by decide +kernel
theorem dX9_isAbove_22 : decode cX9_isAbove 22 = .ok (.getfield 164, 3) := by decide +kernel
theorem dX9_isAbove_25 : decode cX9_isAbove 25 = .ok (.istore 4, 2) := by decide +kernel
theorem dX9_isAbove_27 : decode cX9_isAbove 27 = .ok (.iload_n 3, 1) := by decide +kernel
theorem dX9_isAbove_28 : decode cX9_isAbove 28 = .ok (.iload 4, 2) := by decide +kernel
theorem dX9_isAbove_30 : decode cX9_isAbove 30 = .ok (.if_icmp .ne 15, 3) := by decide +kernel
theorem dX9_isAbove_33 : decode cX9_isAbove 33 = .ok (.aload_n 1, 1) := by decide +kernel
theorem dX9_isAbove_34 : decode cX9_isAbove 34 = .ok (.ifnull 11, 3) := by decide +kernel
theorem dX9_isAbove_37 : decode cX9_isAbove 37 = .ok (.aload_n 2, 1) := by decide +kernel
theorem dX9_isAbove_38 : decode cX9_isAbove 38 = .ok (.ifnull 7, 3) := by decide +kernel
theorem dX9_isAbove_41 : decode cX9_isAbove 41 = .ok (.iload_n 3, 1) := by decide +kernel
theorem dX9_isAbove_42 : decode cX9_isAbove 42 = .ok (.ifCond .ne 15, 3) := by decide +kernel
theorem dX9_isAbove_45 : decode cX9_isAbove 45 = .ok (.iload_n 3, 1) := by decide +kernel
theorem dX9_isAbove_46 : decode cX9_isAbove 46 = .ok (.iload 4, 2) := by decide +kernel
theorem dX9_isAbove_48 : decode cX9_isAbove 48 = .ok (.if_icmp .le 7, 3) := by decide +kernel
theorem dX9_isAbove_51 : decode cX9_isAbove 51 = .ok (.iconst 1, 1) := by decide +kernel
theorem dX9_isAbove_52 : decode cX9_isAbove 52 = .ok (.goto 4, 3) := by decide +kernel
theorem dX9_isAbove_55 : decode cX9_isAbove 55 = .ok (.iconst 0, 1) := by decide +kernel
theorem dX9_isAbove_56 : decode cX9_isAbove 56 = .ok (.ireturn, 1) := by decide +kernel
theorem dX9_isAbove_57 : decode cX9_isAbove 57 = .ok (.aload_n 0, 1) := by decide +kernel
theorem dX9_isAbove_58 : decode cX9_isAbove 58 = .ok (.getfield 58, 3) := by decide +kernel
theorem dX9_isAbove_61 : decode cX9_isAbove 61 = .ok (.aload_n 1, 1) := by decide +kernel
theorem dX9_isAbove_62 : decode cX9_isAbove 62 = .ok (.getfield 139, 3) := by decide +kernel
theorem dX9_isAbove_65 : decode cX9_isAbove 65 = .ok (.aload_n 2, 1) := by decide +kernel
theorem dX9_isAbove_66 : decode cX9_isAbove 66 = .ok (.getfield 151, 3) := by decide +kernel
theorem dX9_isAbove_69 : decode cX9_isAbove 69 = .ok (.invokevirtual 227, 3) := by decide +kernel
theorem dX9_isAbove_72 : decode cX9_isAbove 72 = .ok (.aload_n 0, 1) := by decide +kernel
theorem dX9_isAbove_73 : decode cX9_isAbove 73 = .ok (.getfield 61, 3) := by decide +kernel
theorem dX9_isAbove_76 : decode cX9_isAbove 76 = .ok (.aload_n 2, 1) := by decide +kernel
theorem dX9_isAbove_77 : decode cX9_isAbove 77 = .ok (.getfield 139, 3) := by decide +kernel
theorem dX9_isAbove_80 : decode cX9_isAbove 80 = .ok (.aload_n 1, 1) := by decide +kernel
theorem dX9_isAbove_81 : decode cX9_isAbove 81 = .ok (.getfield 151, 3) := by decide +kernel
theorem dX9_isAbove_84 : decode cX9_isAbove 84 = .ok (.invokevirtual 227, 3) := by decide +kernel
theorem dX9_isAbove_87 : decode cX9_isAbove 87 = .ok (.aload_n 0, 1) := by decide +kernel
theorem dX9_isAbove_88 : decode cX9_isAbove 88 = .ok (.getfield 58, 3) := by decide +kernel
theorem dX9_isAbove_91 : decode cX9_isAbove 91 = .ok (.aload_n 0, 1) := by decide +kernel
theorem dX9_isAbove_92 : decode cX9_isAbove 92 = .ok (.getfield 61, 3) := by decide +kernel
theorem dX9_isAbove_95 : decode cX9_isAbove 95 = .ok (.invokevirtual 223, 3) := by decide +kernel
theorem dX9_isAbove_98 : decode cX9_isAbove 98 = .ok (.iload_n 3, 1) := by decide +kernel
theorem dX9_isAbove_99 : decode cX9_isAbove 99 = .ok (.imul, 1) := by decide +kernel
theorem dX9_isAbove_100 : decode cX9_isAbove 100 = .ok (.ifCond .le 7, 3) := by decide +kernel
theorem dX9_isAbove_103 : decode cX9_isAbove 103 = .ok (.iconst 1, 1) := by decide +kernel
theorem dX9_isAbove_104 : decode cX9_isAbove 104 = .ok (.goto 4, 3) := by decide +kernel
theorem dX9_isAbove_107 : decode cX9_isAbove 107 = .ok (.iconst 0, 1) := by decide +kernel
theorem dX9_isAbove_108 : decode cX9_isAbove 108 = .ok (.ireturn, 1) := by decide +kernel
def w_So_isAbove_45 (C : zC) (n0 : Nat) (Q : Int32 → zS → Prop)  (a0 : Nat) (a3 : Int32) (a4 : Int32) (κ : zS) : Prop :=
  (a3 ≤ a4 →
    Q (0 : Int32) κ) ∧
  (¬ a3 ≤ a4 →
    Q (1 : Int32) κ)
theorem t_So_isAbove_45 {C : zC} {n0 : Nat} {Q : Int32 → zS → Prop}   {a0 : Nat} {a3 : Int32} {a4 : Int32} {κ : zS} (W : zW C n0 κ) (Ta0 : zT κ a0 = 12) (F : w_So_isAbove_45 C n0 Q  a0 a3 a4 κ) : zG C n0 4 mSo_isAbove 45 [some (.ref a0), none, none, some (.int a3), some (.int a4)] [] κ (oI Q noX) := by
  unfold w_So_isAbove_45 at F
  refine y_iln dX9_isAbove_45 rfl ?_
  refine y_il dX9_isAbove_46 rfl ?_
  refine y_ii (a3 ≤ a4) dX9_isAbove_48 (t := 55) rfl rfl (fun c9 => ?_) (fun c9 => ?_)
  · replace F := F.1 c9
    refine y_ic dX9_isAbove_55 zi_0 ?_
    exact y_ri W dX9_isAbove_56 rfl (nb_nar nb_0) F
  · replace F := F.2 c9
    refine y_ic dX9_isAbove_51 zi_1 ?_
    refine y_goto dX9_isAbove_52 (t := 56) rfl ?_
    exact y_ri W dX9_isAbove_56 rfl (nb_nar nb_1) F

def w_So_isAbove_25 (C : zC) (n0 : Nat) (Q : Int32 → zS → Prop)  (a0 : Nat) (a1 : Option Nat) (a2 : Option Nat) (a3 : Int32) (s0 : Int32) (κ : zS) : Prop :=
  (¬ a3 = s0 →
    w_So_isAbove_45 C n0 Q  a0 a3 s0 κ) ∧
  (a3 = s0 →
    (a1 = none →
      w_So_isAbove_45 C n0 Q  a0 a3 s0 κ) ∧
    (∀ u1, a1 = some u1 →
      (a2 = none →
        w_So_isAbove_45 C n0 Q  a0 a3 s0 κ) ∧
      (∀ u2, a2 = some u2 →
        (¬ a3 = (0 : Int32) →
          ∃ u3, a1 = some u3 ∧
          ∃ u4, a2 = some u4 ∧
          ∀ _ : zT κ (zR κ soSum a0) = 8,
          ∀ _ : zT κ (zR κ raTop u3) = 8,
          ∀ _ : zT κ (zR κ raBottom u4) = 8,
          zRun C 3 mNu_product [.ref (zR κ soSum a0), .ref (zR κ raTop u3), .ref (zR κ raBottom u4)] κ (oV (fun κ5 =>
            ∀ _ : zW C n0 κ5,
            ∀ _ : zM (zn κ) κ κ5,
            ∃ u9, a2 = some u9 ∧
            ∃ u10, a1 = some u10 ∧
            ∀ _ : zT κ5 (zR κ5 soLess a0) = 8,
            ∀ _ : zT κ5 (zR κ5 raTop u9) = 8,
            ∀ _ : zT κ5 (zR κ5 raBottom u10) = 8,
            zRun C 3 mNu_product [.ref (zR κ5 soLess a0), .ref (zR κ5 raTop u9), .ref (zR κ5 raBottom u10)] κ5 (oV (fun κ11 =>
              ∀ _ : zW C n0 κ11,
              ∀ _ : zM (zn κ5) κ5 κ11,
              ∀ _ : zT κ11 (zR κ11 soSum a0) = 8,
              ∀ _ : zT κ11 (zR κ11 soLess a0) = 8,
              zRun C 0 mNu_compare [.ref (zR κ11 soSum a0), .ref (zR κ11 soLess a0)] κ11 (oI (fun r16 κ15 =>
                ∀ _ : zW C n0 κ15,
                ∀ _ : zM (zn κ11) κ11 κ15,
                ((r16 * a3) ≤ (0 : Int32) →
                  Q (0 : Int32) κ15) ∧
                (¬ (r16 * a3) ≤ (0 : Int32) →
                  Q (1 : Int32) κ15)) noX)) noX)) noX)) ∧
        (a3 = (0 : Int32) →
          w_So_isAbove_45 C n0 Q  a0 a3 s0 κ))))
theorem t_So_isAbove_25 {C : zC} {n0 : Nat} {Q : Int32 → zS → Prop}   {a0 : Nat} {a1 : Option Nat} {a2 : Option Nat} {a3 : Int32} {s0 : Int32} {κ : zS} (W : zW C n0 κ) (Ta0 : zT κ a0 = 12) (Ta1 : ∀ v, a1 = some v → zT κ v = 11) (Ta2 : ∀ v, a2 = some v → zT κ v = 11) (F : w_So_isAbove_25 C n0 Q  a0 a1 a2 a3 s0 κ) : zG C n0 4 mSo_isAbove 25 [some (.ref a0), some (va_rf a1), some (va_rf a2), some (.int a3), none] [.int s0] κ (oI Q noX) := by
  unfold w_So_isAbove_25 at F
  refine y_is dX9_isAbove_25 (Nat.le_of_ble_eq_true rfl) rfl ?_
  show zG _ _ _ _ _ [some (.ref a0), some (va_rf a1), some (va_rf a2), some (.int a3), some (.int s0)] _ _ _
  refine y_iln dX9_isAbove_27 rfl ?_
  refine y_il dX9_isAbove_28 rfl ?_
  refine y_iin (a3 = s0) dX9_isAbove_30 (t := 45) rfl rfl (fun c9 => ?_) (fun c9 => ?_)
  · replace F := F.1 c9
    exact y_k (t_So_isAbove_45  W Ta0 F) ⟨rfl, rfl, rfl, trivial⟩
  · replace F := F.2 c9
    refine y_qln dX9_isAbove_33 rfl ?_
    refine y_nl dX9_isAbove_34 (t := 45) rfl (fun c9 => ?_) (fun u1 c9 => ?_)
    · replace F := F.1 c9
      exact y_k (t_So_isAbove_45  W Ta0 F) ⟨rfl, rfl, rfl, trivial⟩
    · replace F := F.2 u1 c9
      refine y_qln dX9_isAbove_37 rfl ?_
      refine y_nl dX9_isAbove_38 (t := 45) rfl (fun c9 => ?_) (fun u2 c9 => ?_)
      · replace F := F.1 c9
        exact y_k (t_So_isAbove_45  W Ta0 F) ⟨rfl, rfl, rfl, trivial⟩
      · replace F := F.2 u2 c9
        refine y_iln dX9_isAbove_41 rfl ?_
        refine y_in (a3 = (0 : Int32)) dX9_isAbove_42 (t := 57) rfl rfl (fun c9 => ?_) (fun c9 => ?_)
        · replace F := F.1 c9
          refine y_aln dX9_isAbove_57 rfl ?_
          refine gf_X9_58 W dX9_isAbove_58 rfl Ta0 ?_
          refine y_qln dX9_isAbove_61 rfl ?_
          obtain ⟨u3, Eu3, F⟩ := F
          have Tu3 : zT κ u3 = 11 := Ta1 u3 Eu3
          refine y_uq0 Eu3 ?_
          refine gf_X9_139 W dX9_isAbove_62 rfl Tu3 ?_
          refine y_qln dX9_isAbove_65 rfl ?_
          obtain ⟨u4, Eu4, F⟩ := F
          have Tu4 : zT κ u4 = 11 := Ta2 u4 Eu4
          refine y_uq0 Eu4 ?_
          refine gf_X9_151 W dX9_isAbove_66 rfl Tu4 ?_
          replace F := F (ty_soSum W Ta0)
          replace F := F (ty_raTop W Tu3)
          replace F := F (ty_raBottom W Tu4)
          refine k_X9_227 W dX9_isAbove_69 rfl (Nat.le_of_ble_eq_true rfl) (Nat.le_of_ble_eq_true rfl) (Or.inl (ty_soSum W Ta0)) F (fun  κ5 Wκ5 Mκ5 F => ?_) (fun _ _ h9 => False.elim h9)
          replace F := F Wκ5 Mκ5
          refine y_aln dX9_isAbove_72 rfl ?_
          have h8 := (ztm W Mκ5 Ta0)
          refine gf_X9_61 Wκ5 dX9_isAbove_73 rfl h8 ?_
          refine y_qln dX9_isAbove_76 rfl ?_
          obtain ⟨u9, Eu9, F⟩ := F
          have Tu9 : zT κ5 u9 = 11 := (fun v hv => ztm W Mκ5 (Ta2 v hv)) u9 Eu9
          refine y_uq0 Eu9 ?_
          refine gf_X9_139 Wκ5 dX9_isAbove_77 rfl Tu9 ?_
          refine y_qln dX9_isAbove_80 rfl ?_
          obtain ⟨u10, Eu10, F⟩ := F
          have Tu10 : zT κ5 u10 = 11 := (fun v hv => ztm W Mκ5 (Ta1 v hv)) u10 Eu10
          refine y_uq0 Eu10 ?_
          refine gf_X9_151 Wκ5 dX9_isAbove_81 rfl Tu10 ?_
          replace F := F (ty_soLess Wκ5 h8)
          replace F := F (ty_raTop Wκ5 Tu9)
          replace F := F (ty_raBottom Wκ5 Tu10)
          refine k_X9_227 Wκ5 dX9_isAbove_84 rfl (Nat.le_of_ble_eq_true rfl) (Nat.le_of_ble_eq_true rfl) (Or.inl (ty_soLess Wκ5 h8)) F (fun  κ11 Wκ11 Mκ11 F => ?_) (fun _ _ h9 => False.elim h9)
          replace F := F Wκ11 Mκ11
          refine y_aln dX9_isAbove_87 rfl ?_
          have h14 := (ztm Wκ5 Mκ11 h8)
          refine gf_X9_58 Wκ11 dX9_isAbove_88 rfl h14 ?_
          refine y_aln dX9_isAbove_91 rfl ?_
          refine gf_X9_61 Wκ11 dX9_isAbove_92 rfl h14 ?_
          replace F := F (ty_soSum Wκ11 h14)
          replace F := F (ty_soLess Wκ11 h14)
          refine k_X9_223 Wκ11 dX9_isAbove_95 rfl (Nat.le_of_ble_eq_true rfl) (Nat.le_of_ble_eq_true rfl) (Or.inl (ty_soSum Wκ11 h14)) F (fun r16 κ15 Wκ15 Mκ15 F => ?_) (fun _ _ h9 => False.elim h9)
          replace F := F Wκ15 Mκ15
          refine y_iln dX9_isAbove_98 rfl ?_
          refine y_imul dX9_isAbove_99 ?_
          refine y_i ((r16 * a3) ≤ (0 : Int32)) dX9_isAbove_100 (t := 107) rfl rfl (fun c9 => ?_) (fun c9 => ?_)
          · replace F := F.1 c9
            refine y_ic dX9_isAbove_107 zi_0 ?_
            exact y_ri Wκ15 dX9_isAbove_108 rfl (nb_nar nb_0) F
          · replace F := F.2 c9
            refine y_ic dX9_isAbove_103 zi_1 ?_
            refine y_goto dX9_isAbove_104 (t := 108) rfl ?_
            exact y_ri Wκ15 dX9_isAbove_108 rfl (nb_nar nb_1) F
        · replace F := F.2 c9
          exact y_k (t_So_isAbove_45  W Ta0 F) ⟨rfl, rfl, rfl, trivial⟩

def w_So_isAbove_12 (C : zC) (n0 : Nat) (Q : Int32 → zS → Prop)  (a0 : Nat) (a1 : Option Nat) (a2 : Option Nat) (s0 : Int32) (κ : zS) : Prop :=
  (∀ u1, a2 = some u1 →
    ∃ u2, a2 = some u2 ∧
    w_So_isAbove_25 C n0 Q  a0 a1 a2 s0 (zI κ raSign u2) κ) ∧
  (a2 = none →
    w_So_isAbove_25 C n0 Q  a0 a1 a2 s0 (0 : Int32) κ)
theorem t_So_isAbove_12 {C : zC} {n0 : Nat} {Q : Int32 → zS → Prop}   {a0 : Nat} {a1 : Option Nat} {a2 : Option Nat} {s0 : Int32} {κ : zS} (W : zW C n0 κ) (Ta0 : zT κ a0 = 12) (Ta1 : ∀ v, a1 = some v → zT κ v = 11) (Ta2 : ∀ v, a2 = some v → zT κ v = 11) (F : w_So_isAbove_12 C n0 Q  a0 a1 a2 s0 κ) : zG C n0 4 mSo_isAbove 12 [some (.ref a0), some (va_rf a1), some (va_rf a2), none, none] [.int s0] κ (oI Q noX) := by
  unfold w_So_isAbove_12 at F
  refine y_isn dX9_isAbove_12 (Nat.le_of_ble_eq_true rfl) rfl ?_
  show zG _ _ _ _ _ (lset1 [some (.ref a0), some (va_rf a1), some (va_rf a2), none, none] (2 + 1) (.int s0)) _ _ _
  rw [lset1_q rfl]
  show zG _ _ _ _ _ [some (.ref a0), some (va_rf a1), some (va_rf a2), some (.int s0), none] _ _ _
  refine y_qln dX9_isAbove_13 rfl ?_
  refine y_nn dX9_isAbove_14 (t := 21) rfl (fun u1 c9 => ?_) (fun c9 => ?_)
  · replace F := F.1 u1 c9
    refine y_qln dX9_isAbove_21 rfl ?_
    obtain ⟨u2, Eu2, F⟩ := F
    have Tu2 : zT κ u2 = 11 := Ta2 u2 Eu2
    refine y_uq0 Eu2 ?_
    refine gf_X9_164 dX9_isAbove_22 rfl (Or.inl Tu2) ?_
    exact y_k (t_So_isAbove_25  W Ta0 Ta1 Ta2 F) ⟨rfl, rfl, rfl, rfl, trivial⟩
  · replace F := F.2 c9
    refine y_ic dX9_isAbove_17 zi_0 ?_
    refine y_goto dX9_isAbove_18 (t := 25) rfl ?_
    exact y_k (t_So_isAbove_25  W Ta0 Ta1 Ta2 F) ⟨rfl, rfl, rfl, rfl, trivial⟩

def w_So_isAbove_0 (C : zC) (n0 : Nat) (Q : Int32 → zS → Prop)  (a0 : Nat) (a1 : Option Nat) (a2 : Option Nat) (κ : zS) : Prop :=
  (∀ u1, a1 = some u1 →
    ∃ u2, a1 = some u2 ∧
    w_So_isAbove_12 C n0 Q  a0 a1 a2 (zI κ raSign u2) κ) ∧
  (a1 = none →
    w_So_isAbove_12 C n0 Q  a0 a1 a2 (0 : Int32) κ)
theorem t_So_isAbove_0 {C : zC} {n0 : Nat} {Q : Int32 → zS → Prop}   {a0 : Nat} {a1 : Option Nat} {a2 : Option Nat} {κ : zS} (W : zW C n0 κ) (Ta0 : zT κ a0 = 12) (Ta1 : ∀ v, a1 = some v → zT κ v = 11) (Ta2 : ∀ v, a2 = some v → zT κ v = 11) (F : w_So_isAbove_0 C n0 Q  a0 a1 a2 κ) : zG C n0 4 mSo_isAbove 0 [some (.ref a0), some (va_rf a1), some (va_rf a2), none, none] [] κ (oI Q noX) := by
  unfold w_So_isAbove_0 at F
  refine y_qln dX9_isAbove_0 rfl ?_
  refine y_nn dX9_isAbove_1 (t := 8) rfl (fun u1 c9 => ?_) (fun c9 => ?_)
  · replace F := F.1 u1 c9
    refine y_qln dX9_isAbove_8 rfl ?_
    obtain ⟨u2, Eu2, F⟩ := F
    have Tu2 : zT κ u2 = 11 := Ta1 u2 Eu2
    refine y_uq0 Eu2 ?_
    refine gf_X9_164 dX9_isAbove_9 rfl (Or.inl Tu2) ?_
    exact y_k (t_So_isAbove_12  W Ta0 Ta1 Ta2 F) ⟨rfl, rfl, rfl, trivial⟩
  · replace F := F.2 c9
    refine y_ic dX9_isAbove_4 zi_0 ?_
    refine y_goto dX9_isAbove_5 (t := 12) rfl ?_
    exact y_k (t_So_isAbove_12  W Ta0 Ta1 Ta2 F) ⟨rfl, rfl, rfl, trivial⟩

theorem So_isAbove_run {C : zC} {n0 : Nat} {Q : Int32 → zS → Prop} {a0 : Nat} {a1 : Option Nat} {a2 : Option Nat} {κ : zS} (W : zW C n0 κ) (Ta0 : zT κ a0 = 12) (Ta1 : ∀ v, a1 = some v → zT κ v = 11) (Ta2 : ∀ v, a2 = some v → zT κ v = 11) (F : w_So_isAbove_0 C (zn κ) Q a0 a1 a2 κ) : zRun C 4 mSo_isAbove [.ref a0, va_rf a1, va_rf a2] κ (oI Q noX) := z_run (by cases a1 <;> cases a2 <;> exact m_ent _ 2) (t_So_isAbove_0 (W.lo (Nat.le_trans W.1.2.1 W.1.2.2) (Nat.le_refl _)) Ta0 Ta1 Ta2 F)

theorem dX9_findWorth_0 : decode cX9_findWorth 0 = .ok (.aload_n 0, 1) := by decide +kernel
theorem dX9_findWorth_1 : decode cX9_findWorth 1 = .ok (.getfield 9, 3) := by decide +kernel
theorem dX9_findWorth_4 : decode cX9_findWorth 4 = .ok (.getfield 317, 3) := by decide +kernel
theorem dX9_findWorth_7 : decode cX9_findWorth 7 = .ok (.iload_n 1, 1) := by decide +kernel
theorem dX9_findWorth_8 : decode cX9_findWorth 8 = .ok (.iaload, 1) := by decide +kernel
theorem dX9_findWorth_9 : decode cX9_findWorth 9 = .ok (.istore_n 2, 1) := by decide +kernel
theorem dX9_findWorth_10 : decode cX9_findWorth 10 = .ok (.iconst 1, 1) := by decide +kernel
theorem dX9_findWorth_11 : decode cX9_findWorth 11 = .ok (.istore_n 3, 1) := by decide +kernel
theorem dX9_findWorth_12 : decode cX9_findWorth 12 = .ok (.iload_n 3, 1) := by decide +kernel
theorem dX9_findWorth_13 : decode cX9_findWorth 13 = .ok (.aload_n 0, 1) := by decide +kernel
theorem dX9_findWorth_14 : decode cX9_findWorth 14 = .ok (.getfield 9, 3) := by decide +kernel
theorem dX9_findWorth_17 : decode cX9_findWorth 17 = .ok (.iload_n 1, 1) := by decide +kernel
theorem dX9_findWorth_18 : decode cX9_findWorth 18 = .ok (.invokevirtual 290, 3) := by decide +kernel
theorem dX9_findWorth_21 : decode cX9_findWorth 21 = .ok (.if_icmp .ge 42, 3) := by decide +kernel
theorem dX9_findWorth_24 : decode cX9_findWorth 24 = .ok (.aload_n 0, 1) := by decide +kernel
theorem dX9_findWorth_25 : decode cX9_findWorth 25 = .ok (.aload_n 0, 1) := by decide +kernel
theorem dX9_findWorth_26 : decode cX9_findWorth 26 = .ok (.iload_n 2, 1) := by decide +kernel
theorem dX9_findWorth_27 : decode cX9_findWorth 27 = .ok (.iload_n 3, 1) := by decide +kernel
theorem dX9_findWorth_28 : decode cX9_findWorth 28 = .ok (.iadd, 1) := by decide +kernel
theorem dX9_findWorth_29 : decode cX9_findWorth 29 = .ok (.invokevirtual 320, 3) := by decide +kernel
theorem dX9_findWorth_32 : decode cX9_findWorth 32 = .ok (.aload_n 0, 1) := by decide +kernel
theorem dX9_findWorth_33 : decode cX9_findWorth 33 = .ok (.iload_n 2, 1) := by decide +kernel
theorem dX9_findWorth_34 : decode cX9_findWorth 34 = .ok (.aload_n 0, 1) := by decide +kernel
theorem dX9_findWorth_35 : decode cX9_findWorth 35 = .ok (.getfield 72, 3) := by decide +kernel
theorem dX9_findWorth_38 : decode cX9_findWorth 38 = .ok (.iload_n 1, 1) := by decide +kernel
theorem dX9_findWorth_39 : decode cX9_findWorth 39 = .ok (.iaload, 1) := by decide +kernel
theorem dX9_findWorth_40 : decode cX9_findWorth 40 = .ok (.iadd, 1) := by decide +kernel
theorem dX9_findWorth_41 : decode cX9_findWorth 41 = .ok (.invokevirtual 320, 3) := by decide +kernel
theorem dX9_findWorth_44 : decode cX9_findWorth 44 = .ok (.invokevirtual 324, 3) := by decide +kernel
theorem dX9_findWorth_47 : decode cX9_findWorth 47 = .ok (.ifCond .eq 10, 3) := by decide +kernel
theorem dX9_findWorth_50 : decode cX9_findWorth 50 = .ok (.aload_n 0, 1) := by decide +kernel
theorem dX9_findWorth_51 : decode cX9_findWorth 51 = .ok (.getfield 72, 3) := by decide +kernel
theorem dX9_findWorth_54 : decode cX9_findWorth 54 = .ok (.iload_n 1, 1) := by decide +kernel
theorem dX9_findWorth_55 : decode cX9_findWorth 55 = .ok (.iload_n 3, 1) := by decide +kernel
theorem dX9_findWorth_56 : decode cX9_findWorth 56 = .ok (.iastore, 1) := by decide +kernel
theorem dX9_findWorth_57 : decode cX9_findWorth 57 = .ok (.iinc 3 1, 3) := by decide +kernel
theorem dX9_findWorth_60 : decode cX9_findWorth 60 = .ok (.goto (-48), 3) := by decide +kernel
theorem dX9_findWorth_63 : decode cX9_findWorth 63 = .ok (.aload_n 0, 1) := by decide +kernel
theorem dX9_findWorth_64 : decode cX9_findWorth 64 = .ok (.iload_n 2, 1) := by decide +kernel
theorem dX9_findWorth_65 : decode cX9_findWorth 65 = .ok (.aload_n 0, 1) := by decide +kernel
theorem dX9_findWorth_66 : decode cX9_findWorth 66 = .ok (.getfield 72, 3) := by decide +kernel
theorem dX9_findWorth_69 : decode cX9_findWorth 69 = .ok (.iload_n 1, 1) := by decide +kernel
theorem dX9_findWorth_70 : decode cX9_findWorth 70 = .ok (.iaload, 1) := by decide +kernel
theorem dX9_findWorth_71 : decode cX9_findWorth 71 = .ok (.iadd, 1) := by decide +kernel
theorem dX9_findWorth_72 : decode cX9_findWorth 72 = .ok (.invokevirtual 320, 3) := by decide +kernel
theorem dX9_findWorth_75 : decode cX9_findWorth 75 = .ok (.astore_n 3, 1) := by decide +kernel
theorem dX9_findWorth_76 : decode cX9_findWorth 76 = .ok (.aload_n 3, 1) := by decide +kernel
theorem dX9_findWorth_77 : decode cX9_findWorth 77 = .ok (.ifnull 13, 3) := by decide +kernel
theorem dX9_findWorth_80 : decode cX9_findWorth 80 = .ok (.aload_n 0, 1) := by decide +kernel
theorem dX9_findWorth_81 : decode cX9_findWorth 81 = .ok (.getfield 32, 3) := by decide +kernel
theorem dX9_findWorth_84 : decode cX9_findWorth 84 = .ok (.iload_n 1, 1) := by decide +kernel
theorem dX9_findWorth_85 : decode cX9_findWorth 85 = .ok (.aaload, 1) := by decide +kernel
theorem dX9_findWorth_86 : decode cX9_findWorth 86 = .ok (.aload_n 3, 1) := by decide +kernel
theorem dX9_findWorth_87 : decode cX9_findWorth 87 = .ok (.invokevirtual 132, 3) := by decide +kernel
theorem dX9_findWorth_90 : decode cX9_findWorth 90 = .ok (.aload_n 0, 1) := by decide +kernel
theorem dX9_findWorth_91 : decode cX9_findWorth 91 = .ok (.getfield 32, 3) := by decide +kernel
theorem dX9_findWorth_94 : decode cX9_findWorth 94 = .ok (.iload_n 1, 1) := by decide +kernel
theorem dX9_findWorth_95 : decode cX9_findWorth 95 = .ok (.aaload, 1) := by decide +kernel
theorem dX9_findWorth_96 : decode cX9_findWorth 96 = .ok (.aload_n 0, 1) := by decide +kernel
theorem dX9_findWorth_97 : decode cX9_findWorth 97 = .ok (.getfield 9, 3) := by decide +kernel
theorem dX9_findWorth_100 : decode cX9_findWorth 100 = .ok (.getfield 278, 3) := by decide +kernel
theorem dX9_findWorth_103 : decode cX9_findWorth 103 = .ok (.iload_n 1, 1) := by decide +kernel
theorem dX9_findWorth_104 : decode cX9_findWorth 104 = .ok (.iaload, 1) := by decide +kernel
theorem dX9_findWorth_105 : decode cX9_findWorth 105 = .ok (.aload_n 0, 1) := by decide +kernel
theorem dX9_findWorth_106 : decode cX9_findWorth 106 = .ok (.getfield 55, 3) := by decide +kernel
theorem dX9_findWorth_109 : decode cX9_findWorth 109 = .ok (.invokevirtual 328, 3) := by decide +kernel
theorem dX9_findWorth_112 : decode cX9_findWorth 112 = .ok (.aload_n 0, 1) := by decide +kernel
theorem dX9_findWorth_113 : decode cX9_findWorth 113 = .ok (.getfield 32, 3) := by decide +kernel
theorem dX9_findWorth_116 : decode cX9_findWorth 116 = .ok (.iload_n 1, 1) := by decide +kernel
theorem dX9_findWorth_117 : decode cX9_findWorth 117 = .ok (.aaload, 1) := by decide +kernel
theorem dX9_findWorth_118 : decode cX9_findWorth 118 = .ok (.invokevirtual 184, 3) := by decide +kernel
theorem dX9_findWorth_121 : decode cX9_findWorth 121 = .ok (.ireturn, 1) := by decide +kernel
def w_So_findWorth_90 (C : zC) (n0 : Nat) (Q : Int32 → zS → Prop)  (a0 : Nat) (a1 : Int32) (κ : zS) : Prop :=
  inb a1 (zN κ (zR κ soWorths a0)) ∧
  inb a1 (zN κ (zR κ atGains (zR κ soAtlas a0))) ∧
  ∃ u1, (zQ κ (zR κ soWorths a0) (a1).toNatClampNeg) = some u1 ∧
  ∀ _ : zT κ u1 = 11,
  ∀ _ : zT κ (zR κ soTerm a0) = 8,
  zRun C 4 mRa_addWhole [.ref u1, .int (zA κ (zR κ atGains (zR κ soAtlas a0)) (a1).toNatClampNeg), .ref (zR κ soTerm a0)] κ (oV (fun κ2 =>
    ∀ _ : zW C n0 κ2,
    ∀ _ : zM (zn κ) κ κ2,
    inb a1 (zN κ2 (zR κ2 soWorths a0)) ∧
    ∃ u6, (zQ κ2 (zR κ2 soWorths a0) (a1).toNatClampNeg) = some u6 ∧
    ∀ _ : zT κ2 u6 = 11,
    zRun C 1 mRa_fits [.ref u6] κ2 (oI (fun r8 κ7 =>
      ∀ _ : zW C n0 κ7,
      ∀ _ : zM (zn κ2) κ2 κ7,
      nb r8 ∧ Q r8 κ7) noX)) noX)
theorem t_So_findWorth_90 {C : zC} {n0 : Nat} {Q : Int32 → zS → Prop}   {a0 : Nat} {a1 : Int32} {κ : zS} (W : zW C n0 κ) (Ta0 : zT κ a0 = 12) (F : w_So_findWorth_90 C n0 Q  a0 a1 κ) : zG C n0 5 mSo_findWorth 90 [some (.ref a0), some (.int a1), none, none] [] κ (oI Q noX) := by
  unfold w_So_findWorth_90 at F
  refine y_aln dX9_findWorth_90 rfl ?_
  refine gf_X9_32 W dX9_findWorth_91 rfl Ta0 ?_
  refine y_iln dX9_findWorth_94 rfl ?_
  refine y_qld (t := 5) dX9_findWorth_95 (ty_soWorths W Ta0) (by decide) F.1 ?_
  replace F := F.2
  refine y_aln dX9_findWorth_96 rfl ?_
  refine gf_X9_9 W dX9_findWorth_97 rfl Ta0 ?_
  refine gf_X9_278 W dX9_findWorth_100 rfl (ty_soAtlas W Ta0) ?_
  refine y_iln dX9_findWorth_103 rfl ?_
  refine y_ald dX9_findWorth_104 (ty_atGains W (ty_soAtlas W Ta0)) F.1 ?_
  replace F := F.2
  refine y_aln dX9_findWorth_105 rfl ?_
  refine gf_X9_55 W dX9_findWorth_106 rfl Ta0 ?_
  obtain ⟨u1, Eu1, F⟩ := F
  have Tu1 : zT κ u1 = 11 := (fun v hv => W.2.2.2.2.1 _ _ v (ty_soWorths W Ta0) hv) u1 Eu1
  refine y_uq2 Eu1 ?_
  replace F := F Tu1
  replace F := F (ty_soTerm W Ta0)
  refine k_X9_328 W dX9_findWorth_109 rfl (Nat.le_of_ble_eq_true rfl) (Nat.le_of_ble_eq_true rfl) (Or.inl Tu1) F (fun  κ2 Wκ2 Mκ2 F => ?_) (fun _ _ h9 => False.elim h9)
  replace F := F Wκ2 Mκ2
  refine y_aln dX9_findWorth_112 rfl ?_
  have h5 := (ztm W Mκ2 Ta0)
  refine gf_X9_32 Wκ2 dX9_findWorth_113 rfl h5 ?_
  refine y_iln dX9_findWorth_116 rfl ?_
  refine y_qld (t := 5) dX9_findWorth_117 (ty_soWorths Wκ2 h5) (by decide) F.1 ?_
  replace F := F.2
  obtain ⟨u6, Eu6, F⟩ := F
  have Tu6 : zT κ2 u6 = 11 := (fun v hv => Wκ2.2.2.2.2.1 _ _ v (ty_soWorths Wκ2 h5) hv) u6 Eu6
  refine y_uq0 Eu6 ?_
  replace F := F Tu6
  refine k_X9_184 Wκ2 dX9_findWorth_118 rfl (Nat.le_of_ble_eq_true rfl) (Nat.le_of_ble_eq_true rfl) (Or.inl Tu6) F (fun r8 κ7 Wκ7 Mκ7 F => ?_) (fun _ _ h9 => False.elim h9)
  replace F := F Wκ7 Mκ7
  exact y_ri Wκ7 dX9_findWorth_121 rfl (nb_nar F.1) F.2

def w_So_findWorth_12 (C : zC) (n0 : Nat) (Q : Int32 → zS → Prop)  (a0 : Nat) (a1 : Int32) (a2 : Int32) (a3 : Int32) (κ : zS) : Prop :=
  ∃ I : Nat → Nat → Int32 → Int32 → Int32 → zS → Prop, (∃ n, I n a0 a1 a2 a3 κ) ∧ ∀ n a0 a1 a2 a3 κ, zW C n0 κ → zT κ a0 = 12 → I n a0 a1 a2 a3 κ →
    ∀ _ : zT κ (zR κ soAtlas a0) = 3,
    zRun C 0 mAt_waysOf [.ref (zR κ soAtlas a0), .int a1] κ (oI (fun r2 κ1 =>
      ∀ _ : zW C n0 κ1,
      ∀ _ : zM (zn κ) κ κ1,
      (r2 ≤ a3 →
        inb a1 (zN κ1 (zR κ1 soTaken a0)) ∧
        ∀ _ : zT κ1 a0 = 12,
        zRun C 0 mSo_worthBehind [.ref a0, .int (a2 + (zA κ1 (zR κ1 soTaken a0) (a1).toNatClampNeg))] κ1 (oQ 11 (fun r6 κ5 =>
          ∀ _ : zW C n0 κ5,
          ∀ _ : zM (zn κ1) κ1 κ5,
          ∀ _ : ∀ v, r6 = some v → zT κ5 v = 11,
          (r6 = none →
            w_So_findWorth_90 C n0 Q  a0 a1 κ5) ∧
          (∀ u8, r6 = some u8 →
            inb a1 (zN κ5 (zR κ5 soWorths a0)) ∧
            ∃ u11, (zQ κ5 (zR κ5 soWorths a0) (a1).toNatClampNeg) = some u11 ∧
            ∃ u12, r6 = some u12 ∧
            ∀ _ : zT κ5 u11 = 11,
            ∀ _ : zT κ5 u12 = 11,
            zRun C 2 mRa_copy [.ref u11, .ref u12] κ5 (oV (fun κ13 =>
              ∀ _ : zW C n0 κ13,
              ∀ _ : zM (zn κ5) κ5 κ13,
              w_So_findWorth_90 C n0 Q  a0 a1 κ13) noX))) noX)) ∧
      (¬ r2 ≤ a3 →
        ∀ _ : zT κ1 a0 = 12,
        zRun C 0 mSo_worthBehind [.ref a0, .int (a2 + a3)] κ1 (oQ 11 (fun r18 κ17 =>
          ∀ _ : zW C n0 κ17,
          ∀ _ : zM (zn κ1) κ1 κ17,
          ∀ _ : ∀ v, r18 = some v → zT κ17 v = 11,
          inb a1 (zN κ17 (zR κ17 soTaken a0)) ∧
          ∀ _ : zT κ17 a0 = 12,
          zRun C 0 mSo_worthBehind [.ref a0, .int (a2 + (zA κ17 (zR κ17 soTaken a0) (a1).toNatClampNeg))] κ17 (oQ 11 (fun r23 κ22 =>
            ∀ _ : zW C n0 κ22,
            ∀ _ : zM (zn κ17) κ17 κ22,
            ∀ _ : ∀ v, r23 = some v → zT κ22 v = 11,
            ∀ _ : zT κ22 a0 = 12,
            ∀ _ : ∀ v, r18 = some v → zT κ22 v = 11,
            ∀ _ : ∀ v, r23 = some v → zT κ22 v = 11,
            zRun C 4 mSo_isAbove [.ref a0, va_rf r18, va_rf r23] κ22 (oI (fun r26 κ25 =>
              ∀ _ : zW C n0 κ25,
              ∀ _ : zM (zn κ22) κ22 κ25,
              (r26 = (0 : Int32) →
                ∀ v3_29 : Int32, v3_29 = a3 + (1 : Int32) →
                ∃ k < n, I k a0 a1 a2 v3_29 κ25) ∧
              (¬ r26 = (0 : Int32) →
                inb a1 (zN κ25 (zR κ25 soTaken a0)) ∧
                ∀ κ32, κ32 = ua κ25 (zR κ25 soTaken a0) (a1).toNatClampNeg a3 →
                ∀ _ : zW C n0 κ32,
                ∀ v3_33 : Int32, v3_33 = a3 + (1 : Int32) →
                ∃ k < n, I k a0 a1 a2 v3_33 κ32)) noX)) noX)) noX))) noX)
theorem t_So_findWorth_12 {C : zC} {n0 : Nat} {Q : Int32 → zS → Prop}   {a0 : Nat} {a1 : Int32} {a2 : Int32} {a3 : Int32} {κ : zS} (W : zW C n0 κ) (Ta0 : zT κ a0 = 12) (F : w_So_findWorth_12 C n0 Q  a0 a1 a2 a3 κ) : zG C n0 5 mSo_findWorth 12 [some (.ref a0), some (.int a1), some (.int a2), some (.int a3)] [] κ (oI Q noX) := by
  obtain ⟨I, ⟨m0, hI0⟩, F0⟩ := F
  have key : ∀ n a0 a1 a2 a3 κ, zW C n0 κ → zT κ a0 = 12 → I n a0 a1 a2 a3 κ → zG C n0 5 mSo_findWorth 12 [some (.ref a0), some (.int a1), some (.int a2), some (.int a3)] [] κ (oI Q noX) := by
    intro n
    induction n using Nat.strongRecOn with
    | _ n ih =>
      intro a0 a1 a2 a3 κ W Ta0 hI
      have F := F0 n a0 a1 a2 a3 κ W Ta0 hI
      clear hI hI0
      refine y_iln dX9_findWorth_12 rfl ?_
      refine y_aln dX9_findWorth_13 rfl ?_
      refine gf_X9_9 W dX9_findWorth_14 rfl Ta0 ?_
      refine y_iln dX9_findWorth_17 rfl ?_
      replace F := F (ty_soAtlas W Ta0)
      refine k_X9_290 W dX9_findWorth_18 rfl (Nat.le_of_ble_eq_true rfl) (Nat.le_of_ble_eq_true rfl) (Or.inl (ty_soAtlas W Ta0)) F (fun r2 κ1 Wκ1 Mκ1 F => ?_) (fun _ _ h9 => False.elim h9)
      replace F := F Wκ1 Mκ1
      refine y_ii (r2 ≤ a3) dX9_findWorth_21 (t := 63) rfl rfl (fun c9 => ?_) (fun c9 => ?_)
      · replace F := F.1 c9
        refine y_aln dX9_findWorth_63 rfl ?_
        refine y_iln dX9_findWorth_64 rfl ?_
        refine y_aln dX9_findWorth_65 rfl ?_
        have h4 := (ztm W Mκ1 Ta0)
        refine gf_X9_72 Wκ1 dX9_findWorth_66 rfl h4 ?_
        refine y_iln dX9_findWorth_69 rfl ?_
        refine y_ald dX9_findWorth_70 (ty_soTaken Wκ1 h4) F.1 ?_
        replace F := F.2
        refine y_iadd dX9_findWorth_71 ?_
        replace F := F h4
        refine k_X9_320 Wκ1 dX9_findWorth_72 rfl (Nat.le_of_ble_eq_true rfl) (Nat.le_of_ble_eq_true rfl) (Or.inl h4) F (fun r6 κ5 Wκ5 Mκ5 g7 F => ?_) (fun _ _ h9 => False.elim h9)
        replace F := F Wκ5 Mκ5 g7
        refine y_qsn dX9_findWorth_75 (Nat.le_of_ble_eq_true rfl) rfl ?_
        show zG _ _ _ _ _ [some (.ref a0), some (.int a1), some (.int a2), some (va_rf r6)] _ _ _
        refine y_qln dX9_findWorth_76 rfl ?_
        refine y_nl dX9_findWorth_77 (t := 90) rfl (fun c9 => ?_) (fun u8 c9 => ?_)
        · replace F := F.1 c9
          have h9 := (ztm Wκ1 Mκ5 h4)
          exact y_k (t_So_findWorth_90  Wκ5 h9 F) ⟨rfl, rfl, trivial⟩
        · replace F := F.2 u8 c9
          refine y_aln dX9_findWorth_80 rfl ?_
          have h10 := (ztm Wκ1 Mκ5 h4)
          refine gf_X9_32 Wκ5 dX9_findWorth_81 rfl h10 ?_
          refine y_iln dX9_findWorth_84 rfl ?_
          refine y_qld (t := 5) dX9_findWorth_85 (ty_soWorths Wκ5 h10) (by decide) F.1 ?_
          replace F := F.2
          refine y_qln dX9_findWorth_86 rfl ?_
          obtain ⟨u11, Eu11, F⟩ := F
          have Tu11 : zT κ5 u11 = 11 := (fun v hv => Wκ5.2.2.2.2.1 _ _ v (ty_soWorths Wκ5 h10) hv) u11 Eu11
          refine y_uq1 Eu11 ?_
          obtain ⟨u12, Eu12, F⟩ := F
          have Tu12 : zT κ5 u12 = 11 := g7 u12 Eu12
          refine y_uq0 Eu12 ?_
          replace F := F Tu11
          replace F := F Tu12
          refine k_X9_132 Wκ5 dX9_findWorth_87 rfl (Nat.le_of_ble_eq_true rfl) (Nat.le_of_ble_eq_true rfl) (Or.inl Tu11) F (fun  κ13 Wκ13 Mκ13 F => ?_) (fun _ _ h9 => False.elim h9)
          replace F := F Wκ13 Mκ13
          have h16 := (ztm Wκ5 Mκ13 h10)
          exact y_k (t_So_findWorth_90  Wκ13 h16 F) ⟨rfl, rfl, trivial⟩
      · replace F := F.2 c9
        refine y_aln dX9_findWorth_24 rfl ?_
        refine y_aln dX9_findWorth_25 rfl ?_
        refine y_iln dX9_findWorth_26 rfl ?_
        refine y_iln dX9_findWorth_27 rfl ?_
        refine y_iadd dX9_findWorth_28 ?_
        have h19 := (ztm W Mκ1 Ta0)
        replace F := F h19
        refine k_X9_320 Wκ1 dX9_findWorth_29 rfl (Nat.le_of_ble_eq_true rfl) (Nat.le_of_ble_eq_true rfl) (Or.inl h19) F (fun r18 κ17 Wκ17 Mκ17 g20 F => ?_) (fun _ _ h9 => False.elim h9)
        replace F := F Wκ17 Mκ17 g20
        refine y_aln dX9_findWorth_32 rfl ?_
        refine y_iln dX9_findWorth_33 rfl ?_
        refine y_aln dX9_findWorth_34 rfl ?_
        have h21 := (ztm Wκ1 Mκ17 h19)
        refine gf_X9_72 Wκ17 dX9_findWorth_35 rfl h21 ?_
        refine y_iln dX9_findWorth_38 rfl ?_
        refine y_ald dX9_findWorth_39 (ty_soTaken Wκ17 h21) F.1 ?_
        replace F := F.2
        refine y_iadd dX9_findWorth_40 ?_
        replace F := F h21
        refine k_X9_320 Wκ17 dX9_findWorth_41 rfl (Nat.le_of_ble_eq_true rfl) (by simp only [List.map, cat_q]; exact (Nat.le_of_ble_eq_true rfl)) (Or.inl h21) F (fun r23 κ22 Wκ22 Mκ22 g24 F => ?_) (fun _ _ h9 => False.elim h9)
        replace F := F Wκ22 Mκ22 g24
        have h27 := (ztm Wκ17 Mκ22 h21)
        replace F := F h27
        replace F := F (fun v hv => ztm Wκ17 Mκ22 (g20 v hv))
        replace F := F g24
        refine k_X9_324 Wκ22 dX9_findWorth_44 rfl (Nat.le_of_ble_eq_true rfl) (Nat.le_of_ble_eq_true rfl) (Or.inl h27) F (fun r26 κ25 Wκ25 Mκ25 F => ?_) (fun _ _ h9 => False.elim h9)
        replace F := F Wκ25 Mκ25
        refine y_i (r26 = (0 : Int32)) dX9_findWorth_47 (t := 57) rfl rfl (fun c9 => ?_) (fun c9 => ?_)
        · replace F := F.1 c9
          refine y_incb dX9_findWorth_57 zi_1 rfl (Nat.le_of_ble_eq_true rfl) (fun v3_29 ev3_29 => ?_)
          replace F := F v3_29 ev3_29
          show zG _ _ _ _ _ [some (.ref a0), some (.int a1), some (.int a2), some (.int v3_29)] _ _ _
          refine y_goto dX9_findWorth_60 (t := 12) rfl ?_
          have h30 := (ztm Wκ22 Mκ25 h27)
          obtain ⟨k, hk, hI⟩ := F
          exact y_k (ih k hk _ _ _ _ _ Wκ25 h30 hI) ⟨rfl, rfl, rfl, rfl, trivial⟩
        · replace F := F.2 c9
          refine y_aln dX9_findWorth_50 rfl ?_
          have h31 := (ztm Wκ22 Mκ25 h27)
          refine gf_X9_72 Wκ25 dX9_findWorth_51 rfl h31 ?_
          refine y_iln dX9_findWorth_54 rfl ?_
          refine y_iln dX9_findWorth_55 rfl ?_
          refine y_ast Wκ25 dX9_findWorth_56 (ty_soTaken Wκ25 h31) F.1 (fun κ32 eκ32 => ?_)
          replace F := F.2 κ32 eκ32
          have Wκ32 : zW C n0 κ32 := zW_ua Wκ25 eκ32 (fun h => absurd (h.symm.trans (ty_soTaken Wκ25 h31)) (by decide)) (fun h => absurd (h.symm.trans (ty_soTaken Wκ25 h31)) (by decide))
          have Mκ32 : zM (zn κ25) κ25 κ32 := by rw [eκ32]; exact zM.of rfl rfl rfl
          replace F := F Wκ32
          refine y_incb dX9_findWorth_57 zi_1 rfl (Nat.le_of_ble_eq_true rfl) (fun v3_33 ev3_33 => ?_)
          replace F := F v3_33 ev3_33
          show zG _ _ _ _ _ [some (.ref a0), some (.int a1), some (.int a2), some (.int v3_33)] _ _ _
          refine y_goto dX9_findWorth_60 (t := 12) rfl ?_
          have h34 := (ztm Wκ25 Mκ32 h31)
          obtain ⟨k, hk, hI⟩ := F
          exact y_k (ih k hk _ _ _ _ _ Wκ32 h34 hI) ⟨rfl, rfl, rfl, rfl, trivial⟩
  exact key m0 a0 a1 a2 a3 κ W Ta0 hI0

def w_So_findWorth_0 (C : zC) (n0 : Nat) (Q : Int32 → zS → Prop)  (a0 : Nat) (a1 : Int32) (κ : zS) : Prop :=
  inb a1 (zN κ (zR κ atFirsts (zR κ soAtlas a0))) ∧
  ∀ v2_1 : Int32, v2_1 = (zA κ (zR κ atFirsts (zR κ soAtlas a0)) (a1).toNatClampNeg) →
  w_So_findWorth_12 C n0 Q  a0 a1 v2_1 (1 : Int32) κ
theorem t_So_findWorth_0 {C : zC} {n0 : Nat} {Q : Int32 → zS → Prop}   {a0 : Nat} {a1 : Int32} {κ : zS} (W : zW C n0 κ) (Ta0 : zT κ a0 = 12) (F : w_So_findWorth_0 C n0 Q  a0 a1 κ) : zG C n0 5 mSo_findWorth 0 [some (.ref a0), some (.int a1), none, none] [] κ (oI Q noX) := by
  unfold w_So_findWorth_0 at F
  refine y_aln dX9_findWorth_0 rfl ?_
  refine gf_X9_9 W dX9_findWorth_1 rfl Ta0 ?_
  refine gf_X9_317 W dX9_findWorth_4 rfl (ty_soAtlas W Ta0) ?_
  refine y_iln dX9_findWorth_7 rfl ?_
  refine y_ald dX9_findWorth_8 (ty_atFirsts W (ty_soAtlas W Ta0)) F.1 ?_
  replace F := F.2
  refine y_isnb dX9_findWorth_9 (Nat.le_of_ble_eq_true rfl) (fun v2_1 ev2_1 => ?_)
  replace F := F v2_1 ev2_1
  show zG _ _ _ _ _ [some (.ref a0), some (.int a1), some (.int v2_1), none] _ _ _
  refine y_ic dX9_findWorth_10 zi_1 ?_
  refine y_isn dX9_findWorth_11 (Nat.le_of_ble_eq_true rfl) rfl ?_
  show zG _ _ _ _ _ [some (.ref a0), some (.int a1), some (.int v2_1), some (.int (1 : Int32))] _ _ _
  exact y_k (t_So_findWorth_12  W Ta0 F) ⟨rfl, rfl, rfl, rfl, trivial⟩

theorem So_findWorth_run {C : zC} {n0 : Nat} {Q : Int32 → zS → Prop} {a0 : Nat} {a1 : Int32} {κ : zS} (W : zW C n0 κ) (Ta0 : zT κ a0 = 12) (F : w_So_findWorth_0 C (zn κ) Q a0 a1 κ) : zRun C 5 mSo_findWorth [.ref a0, .int a1] κ (oI Q noX) := z_run (m_ent _ 2) (t_So_findWorth_0 (W.lo (Nat.le_trans W.1.2.1 W.1.2.2) (Nat.le_refl _)) Ta0 F)

