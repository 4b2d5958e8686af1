/-! methods of the class: So_mixWorths, So_makePlan, Ta_init, Ar_copyOfB, Ta_widen, Ta_addWord, Ch_init, Ch_feed, Ch_end, Ch_fault, Ch_count -/
theorem dX9_mixWorths_0 : decode cX9_mixWorths 0 = .ok (.aload_n 0, 1) := by decide +kernel
theorem dX9_mixWorths_1 : decode cX9_mixWorths 1 = .ok (.getfield 40, 3) := by decide +kernel
theorem dX9_mixWorths_4 : decode cX9_mixWorths 4 = .ok (.lconst 1, 1) := by decide +kernel
theorem dX9_mixWorths_5 : decode cX9_mixWorths 5 = .ok (.invokevirtual 191, 3) := by decide +kernel
theorem dX9_mixWorths_8 : decode cX9_mixWorths 8 = .ok (.aload_n 0, 1) := by decide +kernel
theorem dX9_mixWorths_9 : decode cX9_mixWorths 9 = .ok (.getfield 9, 3) := by decide +kernel
theorem dX9_mixWorths_12 : decode cX9_mixWorths 12 = .ok (.getfield 317, 3) := by decide +kernel
theorem dX9_mixWorths_15 : decode cX9_mixWorths 15 = .ok (.iload_n 1, 1) := by decide +kernel
theorem dX9_mixWorths_16 : decode cX9_mixWorths 16 = .ok (.iaload, 1) := by decide +kernel
theorem dX9_mixWorths_17 : decode cX9_mixWorths 17 = .ok (.istore_n 2, 1) := by decide +kernel
theorem dX9_mixWorths_18 : decode cX9_mixWorths 18 = .ok (.iload_n 2, 1) := by decide +kernel
theorem dX9_mixWorths_19 : decode cX9_mixWorths 19 = .ok (.aload_n 0, 1) := by decide +kernel
theorem dX9_mixWorths_20 : decode cX9_mixWorths 20 = .ok (.getfield 9, 3) := by decide +kernel
theorem dX9_mixWorths_23 : decode cX9_mixWorths 23 = .ok (.getfield 317, 3) := by decide +kernel
theorem dX9_mixWorths_26 : decode cX9_mixWorths 26 = .ok (.iload_n 1, 1) := by decide +kernel
theorem dX9_mixWorths_27 : decode cX9_mixWorths 27 = .ok (.iconst 1, 1) := by decide +kernel
theorem dX9_mixWorths_28 : decode cX9_mixWorths 28 = .ok (.iadd, 1) := by decide +kernel
theorem dX9_mixWorths_29 : decode cX9_mixWorths 29 = .ok (.iaload, 1) := by decide +kernel
theorem dX9_mixWorths_30 : decode cX9_mixWorths 30 = .ok (.if_icmp .ge 34, 3) := by decide +kernel
theorem dX9_mixWorths_33 : decode cX9_mixWorths 33 = .ok (.aload_n 0, 1) := by decide +kernel
theorem dX9_mixWorths_34 : decode cX9_mixWorths 34 = .ok (.iload_n 2, 1) := by decide +kernel
theorem dX9_mixWorths_35 : decode cX9_mixWorths 35 = .ok (.invokevirtual 320, 3) := by decide +kernel
theorem dX9_mixWorths_38 : decode cX9_mixWorths 38 = .ok (.astore_n 3, 1) := by decide +kernel
theorem dX9_mixWorths_39 : decode cX9_mixWorths 39 = .ok (.aload_n 3, 1) := by decide +kernel
theorem dX9_mixWorths_40 : decode cX9_mixWorths 40 = .ok (.ifnull 18, 3) := by decide +kernel
theorem dX9_mixWorths_43 : decode cX9_mixWorths 43 = .ok (.aload_n 0, 1) := by decide +kernel
theorem dX9_mixWorths_44 : decode cX9_mixWorths 44 = .ok (.getfield 15, 3) := by decide +kernel
theorem dX9_mixWorths_47 : decode cX9_mixWorths 47 = .ok (.aload_n 0, 1) := by decide +kernel
theorem dX9_mixWorths_48 : decode cX9_mixWorths 48 = .ok (.getfield 40, 3) := by decide +kernel
theorem dX9_mixWorths_51 : decode cX9_mixWorths 51 = .ok (.aload_n 3, 1) := by decide +kernel
theorem dX9_mixWorths_52 : decode cX9_mixWorths 52 = .ok (.getfield 151, 3) := by decide +kernel
theorem dX9_mixWorths_55 : decode cX9_mixWorths 55 = .ok (.invokevirtual 207, 3) := by decide +kernel
theorem dX9_mixWorths_58 : decode cX9_mixWorths 58 = .ok (.iinc 2 1, 3) := by decide +kernel
theorem dX9_mixWorths_61 : decode cX9_mixWorths 61 = .ok (.goto (-43), 3) := by decide +kernel
theorem dX9_mixWorths_64 : decode cX9_mixWorths 64 = .ok (.aload_n 0, 1) := by decide +kernel
theorem dX9_mixWorths_65 : decode cX9_mixWorths 65 = .ok (.getfield 58, 3) := by decide +kernel
theorem dX9_mixWorths_68 : decode cX9_mixWorths 68 = .ok (.lconst 0, 1) := by decide +kernel
theorem dX9_mixWorths_69 : decode cX9_mixWorths 69 = .ok (.invokevirtual 191, 3) := by decide +kernel
theorem dX9_mixWorths_72 : decode cX9_mixWorths 72 = .ok (.aload_n 0, 1) := by decide +kernel
theorem dX9_mixWorths_73 : decode cX9_mixWorths 73 = .ok (.getfield 61, 3) := by decide +kernel
theorem dX9_mixWorths_76 : decode cX9_mixWorths 76 = .ok (.lconst 0, 1) := by decide +kernel
theorem dX9_mixWorths_77 : decode cX9_mixWorths 77 = .ok (.invokevirtual 191, 3) := by decide +kernel
theorem dX9_mixWorths_80 : decode cX9_mixWorths 80 = .ok (.aload_n 0, 1) := by decide +kernel
theorem dX9_mixWorths_81 : decode cX9_mixWorths 81 = .ok (.getfield 9, 3) := by decide +kernel
theorem dX9_mixWorths_84 : decode cX9_mixWorths 84 = .ok (.getfield 317, 3) := by decide +kernel
theorem dX9_mixWorths_87 : decode cX9_mixWorths 87 = .ok (.iload_n 1, 1) := by decide +kernel
theorem dX9_mixWorths_88 : decode cX9_mixWorths 88 = .ok (.iaload, 1) := by decide +kernel
theorem dX9_mixWorths_89 : decode cX9_mixWorths 89 = .ok (.istore_n 2, 1) := by decide +kernel
theorem dX9_mixWorths_90 : decode cX9_mixWorths 90 = .ok (.iload_n 2, 1) := by decide +kernel
theorem dX9_mixWorths_91 : decode cX9_mixWorths 91 = .ok (.aload_n 0, 1) := by decide +kernel
theorem dX9_mixWorths_92 : decode cX9_mixWorths 92 = .ok (.getfield 9, 3) := by decide +kernel
theorem dX9_mixWorths_95 : decode cX9_mixWorths 95 = .ok (.getfield 317, 3) := by decide +kernel
theorem dX9_mixWorths_98 : decode cX9_mixWorths 98 = .ok (.iload_n 1, 1) := by decide +kernel
theorem dX9_mixWorths_99 : decode cX9_mixWorths 99 = .ok (.iconst 1, 1) := by decide +kernel
theorem dX9_mixWorths_100 : decode cX9_mixWorths 100 = .ok (.iadd, 1) := by decide +kernel
theorem dX9_mixWorths_101 : decode cX9_mixWorths 101 = .ok (.iaload, 1) := by decide +kernel
theorem dX9_mixWorths_102 : decode cX9_mixWorths 102 = .ok (.if_icmp .ge 54, 3) := by decide +kernel
theorem dX9_mixWorths_105 : decode cX9_mixWorths 105 = .ok (.aload_n 0, 1) := by decide +kernel
theorem dX9_mixWorths_106 : decode cX9_mixWorths 106 = .ok (.iload_n 2, 1) := by decide +kernel
theorem dX9_mixWorths_107 : decode cX9_mixWorths 107 = .ok (.invokevirtual 320, 3) := by decide +kernel
theorem dX9_mixWorths_110 : decode cX9_mixWorths 110 = .ok (.astore_n 3, 1) := by decide +kernel
theorem dX9_mixWorths_111 : decode cX9_mixWorths 111 = .ok (.aload_n 3, 1) := by decide +kernel
theorem dX9_mixWorths_112 : decode cX9_mixWorths 112 = .ok (.ifnull 38, 3) := by decide +kernel
theorem dX9_mixWorths_115 : decode cX9_mixWorths 115 = .ok (.aload_n 3, 1) := by decide +kernel
theorem dX9_mixWorths_116 : decode cX9_mixWorths 116 = .ok (.getfield 164, 3) := by decide +kernel
theorem dX9_mixWorths_119 : decode cX9_mixWorths 119 = .ok (.ifCond .eq 31, 3) := by decide +kernel
theorem dX9_mixWorths_122 : decode cX9_mixWorths 122 = .ok (.aload_n 0, 1) := by decide +kernel
theorem dX9_mixWorths_123 : decode cX9_mixWorths 123 = .ok (.getfield 45, 3) := by decide +kernel
theorem dX9_mixWorths_126 : decode cX9_mixWorths 126 = .ok (.aload_n 3, 1) := by decide +kernel
theorem dX9_mixWorths_127 : decode cX9_mixWorths 127 = .ok (.invokevirtual 132, 3) := by decide +kernel
theorem dX9_mixWorths_130 : decode cX9_mixWorths 130 = .ok (.aload_n 0, 1) := by decide +kernel
theorem dX9_mixWorths_131 : decode cX9_mixWorths 131 = .ok (.aload_n 3, 1) := by decide +kernel
theorem dX9_mixWorths_132 : decode cX9_mixWorths 132 = .ok (.getfield 164, 3) := by decide +kernel
theorem dX9_mixWorths_135 : decode cX9_mixWorths 135 = .ok (.i2l, 1) := by decide +kernel
theorem dX9_mixWorths_136 : decode cX9_mixWorths 136 = .ok (.aload_n 0, 1) := by decide +kernel
theorem dX9_mixWorths_137 : decode cX9_mixWorths 137 = .ok (.getfield 9, 3) := by decide +kernel
theorem dX9_mixWorths_140 : decode cX9_mixWorths 140 = .ok (.getfield 174, 3) := by decide +kernel
theorem dX9_mixWorths_143 : decode cX9_mixWorths 143 = .ok (.iload_n 2, 1) := by decide +kernel
theorem dX9_mixWorths_144 : decode cX9_mixWorths 144 = .ok (.iaload, 1) := by decide +kernel
theorem dX9_mixWorths_145 : decode cX9_mixWorths 145 = .ok (.i2l, 1) := by decide +kernel
theorem dX9_mixWorths_146 : decode cX9_mixWorths 146 = .ok (.lmul, 1) := by decide +kernel
theorem dX9_mixWorths_147 : decode cX9_mixWorths 147 = .ok (.invokevirtual 216, 3) := by decide +kernel
theorem dX9_mixWorths_150 : decode cX9_mixWorths 150 = .ok (.iinc 2 1, 3) := by decide +kernel
theorem dX9_mixWorths_153 : decode cX9_mixWorths 153 = .ok (.goto (-63), 3) := by decide +kernel
theorem dX9_mixWorths_156 : decode cX9_mixWorths 156 = .ok (.aload_n 0, 1) := by decide +kernel
theorem dX9_mixWorths_157 : decode cX9_mixWorths 157 = .ok (.getfield 40, 3) := by decide +kernel
theorem dX9_mixWorths_160 : decode cX9_mixWorths 160 = .ok (.aload_n 0, 1) := by decide +kernel
theorem dX9_mixWorths_161 : decode cX9_mixWorths 161 = .ok (.getfield 9, 3) := by decide +kernel
theorem dX9_mixWorths_164 : decode cX9_mixWorths 164 = .ok (.getfield 331, 3) := by decide +kernel
theorem dX9_mixWorths_167 : decode cX9_mixWorths 167 = .ok (.iload_n 1, 1) := by decide +kernel
theorem dX9_mixWorths_168 : decode cX9_mixWorths 168 = .ok (.iaload, 1) := by decide +kernel
theorem dX9_mixWorths_169 : decode cX9_mixWorths 169 = .ok (.i2l, 1) := by decide +kernel
theorem dX9_mixWorths_170 : decode cX9_mixWorths 170 = .ok (.invokevirtual 154, 3) := by decide +kernel
theorem dX9_mixWorths_173 : decode cX9_mixWorths 173 = .ok (.aload_n 0, 1) := by decide +kernel
theorem dX9_mixWorths_174 : decode cX9_mixWorths 174 = .ok (.aload_n 0, 1) := by decide +kernel
theorem dX9_mixWorths_175 : decode cX9_mixWorths 175 = .ok (.getfield 40, 3) := by decide +kernel
theorem dX9_mixWorths_178 : decode cX9_mixWorths 178 = .ok (.invokevirtual 281, 3) := by decide +kernel
theorem dX9_mixWorths_181 : decode cX9_mixWorths 181 = .ok (.aload_n 0, 1) := by decide +kernel
theorem dX9_mixWorths_182 : decode cX9_mixWorths 182 = .ok (.aload_n 0, 1) := by decide +kernel
theorem dX9_mixWorths_183 : decode cX9_mixWorths 183 = .ok (.getfield 32, 3) := by decide +kernel
theorem dX9_mixWorths_186 : decode cX9_mixWorths 186 = .ok (.iload_n 1, 1) := by decide +kernel
theorem dX9_mixWorths_187 : decode cX9_mixWorths 187 = .ok (.aaload, 1) := by decide +kernel
theorem dX9_mixWorths_188 : decode cX9_mixWorths 188 = .ok (.invokevirtual 242, 3) := by decide +kernel
theorem dX9_mixWorths_191 : decode cX9_mixWorths 191 = .ok (.ireturn, 1) := by decide +kernel
def w_So_mixWorths_90 (C : zC) (n0 : Nat) (Q : Int32 → zS → Prop)  (a0 : Nat) (a1 : Int32) (a2 : Int32) (κ : zS) : Prop :=
  ∃ I : Nat → Nat → Int32 → Int32 → zS → Prop, (∃ n, I n a0 a1 a2 κ) ∧ ∀ n a0 a1 a2 κ, zW C n0 κ → zT κ a0 = 12 → I n a0 a1 a2 κ →
    inb (a1 + (1 : Int32)) (zN κ (zR κ atFirsts (zR κ soAtlas a0))) ∧
    ((zA κ (zR κ atFirsts (zR κ soAtlas a0)) ((a1 + (1 : Int32))).toNatClampNeg) ≤ a2 →
      inb a1 (zN κ (zR κ atTotals (zR κ soAtlas a0))) ∧
      ∀ _ : zT κ (zR κ soWhole a0) = 8,
      zRun C 3 mNu_times [.ref (zR κ soWhole a0), .long (Int32.toInt64 (zA κ (zR κ atTotals (zR κ soAtlas a0)) (a1).toNatClampNeg))] κ (oV (fun κ1 =>
        ∀ _ : zW C n0 κ1,
        ∀ _ : zM (zn κ) κ κ1,
        ∀ _ : zT κ1 a0 = 12,
        ∀ _ : zT κ1 (zR κ1 soWhole a0) = 8,
        zRun C 6 mSo_settle [.ref a0, .ref (zR κ1 soWhole a0)] κ1 (oV (fun κ5 =>
          ∀ _ : zW C n0 κ5,
          ∀ _ : zM (zn κ1) κ1 κ5,
          inb a1 (zN κ5 (zR κ5 soWorths a0)) ∧
          ∃ u9, (zQ κ5 (zR κ5 soWorths a0) (a1).toNatClampNeg) = some u9 ∧
          ∀ _ : zT κ5 a0 = 12,
          ∀ _ : zT κ5 u9 = 11,
          zRun C 3 mSo_keepPart [.ref a0, .ref u9] κ5 (oI (fun r11 κ10 =>
            ∀ _ : zW C n0 κ10,
            ∀ _ : zM (zn κ5) κ5 κ10,
            nb r11 ∧ Q r11 κ10) noX)) noX)) noX)) ∧
    (¬ (zA κ (zR κ atFirsts (zR κ soAtlas a0)) ((a1 + (1 : Int32))).toNatClampNeg) ≤ a2 →
      ∀ _ : zT κ a0 = 12,
      zRun C 0 mSo_worthBehind [.ref a0, .int a2] κ (oQ 11 (fun r14 κ13 =>
        ∀ _ : zW C n0 κ13,
        ∀ _ : zM (zn κ) κ κ13,
        ∀ _ : ∀ v, r14 = some v → zT κ13 v = 11,
        (r14 = none →
          ∀ v2_17 : Int32, v2_17 = a2 + (1 : Int32) →
          ∃ k < n, I k a0 a1 v2_17 κ13) ∧
        (∀ u16, r14 = some u16 →
          ∃ u19, r14 = some u19 ∧
          ((zI κ13 raSign u19) = (0 : Int32) →
            ∀ v2_20 : Int32, v2_20 = a2 + (1 : Int32) →
            ∃ k < n, I k a0 a1 v2_20 κ13) ∧
          (¬ (zI κ13 raSign u19) = (0 : Int32) →
            ∃ u23, r14 = some u23 ∧
            ∀ _ : zT κ13 (zR κ13 soPart a0) = 11,
            ∀ _ : zT κ13 u23 = 11,
            zRun C 2 mRa_copy [.ref (zR κ13 soPart a0), .ref u23] κ13 (oV (fun κ24 =>
              ∀ _ : zW C n0 κ24,
              ∀ _ : zM (zn κ13) κ13 κ24,
              ∃ u27, r14 = some u27 ∧
              inb a2 (zN κ24 (zR κ24 atWeights (zR κ24 soAtlas a0))) ∧
              ∀ _ : zT κ24 a0 = 12,
              zRun C 4 mSo_addTerm [.ref a0, .long ((Int32.toInt64 (zI κ24 raSign u27)) * (Int32.toInt64 (zA κ24 (zR κ24 atWeights (zR κ24 soAtlas a0)) (a2).toNatClampNeg)))] κ24 (oV (fun κ29 =>
                ∀ _ : zW C n0 κ29,
                ∀ _ : zM (zn κ24) κ24 κ29,
                ∀ v2_32 : Int32, v2_32 = a2 + (1 : Int32) →
                ∃ k < n, I k a0 a1 v2_32 κ29) noX)) noX)))) noX))
theorem t_So_mixWorths_90 {C : zC} {n0 : Nat} {Q : Int32 → zS → Prop}   {a0 : Nat} {a1 : Int32} {a2 : Int32} {κ : zS} (W : zW C n0 κ) (Ta0 : zT κ a0 = 12) (F : w_So_mixWorths_90 C n0 Q  a0 a1 a2 κ) : zG C n0 7 mSo_mixWorths 90 [some (.ref a0), some (.int a1), some (.int a2), none] [] κ (oI Q noX) := by
  obtain ⟨I, ⟨m0, hI0⟩, F0⟩ := F
  have key : ∀ n a0 a1 a2 κ, zW C n0 κ → zT κ a0 = 12 → I n a0 a1 a2 κ → zG C n0 7 mSo_mixWorths 90 [some (.ref a0), some (.int a1), some (.int a2), none] [] κ (oI Q noX) := by
    intro n
    induction n using Nat.strongRecOn with
    | _ n ih =>
      intro a0 a1 a2 κ W Ta0 hI
      have F := F0 n a0 a1 a2 κ W Ta0 hI
      clear hI hI0
      refine y_iln dX9_mixWorths_90 rfl ?_
      refine y_aln dX9_mixWorths_91 rfl ?_
      refine gf_X9_9 W dX9_mixWorths_92 rfl Ta0 ?_
      refine gf_X9_317 W dX9_mixWorths_95 rfl (ty_soAtlas W Ta0) ?_
      refine y_iln dX9_mixWorths_98 rfl ?_
      refine y_ic dX9_mixWorths_99 zi_1 ?_
      refine y_iadd dX9_mixWorths_100 ?_
      refine y_ald dX9_mixWorths_101 (ty_atFirsts W (ty_soAtlas W Ta0)) F.1 ?_
      replace F := F.2
      refine y_ii ((zA κ (zR κ atFirsts (zR κ soAtlas a0)) ((a1 + (1 : Int32))).toNatClampNeg) ≤ a2) dX9_mixWorths_102 (t := 156) rfl rfl (fun c9 => ?_) (fun c9 => ?_)
      · replace F := F.1 c9
        refine y_aln dX9_mixWorths_156 rfl ?_
        refine gf_X9_40 W dX9_mixWorths_157 rfl Ta0 ?_
        refine y_aln dX9_mixWorths_160 rfl ?_
        refine gf_X9_9 W dX9_mixWorths_161 rfl Ta0 ?_
        refine gf_X9_331 W dX9_mixWorths_164 rfl (ty_soAtlas W Ta0) ?_
        refine y_iln dX9_mixWorths_167 rfl ?_
        refine y_ald dX9_mixWorths_168 (ty_atTotals W (ty_soAtlas W Ta0)) F.1 ?_
        replace F := F.2
        refine y_i2l dX9_mixWorths_169 ?_
        replace F := F (ty_soWhole W Ta0)
        refine k_X9_154 W dX9_mixWorths_170 rfl (Nat.le_of_ble_eq_true rfl) (Nat.le_of_ble_eq_true rfl) (Or.inl (ty_soWhole W Ta0)) F (fun  κ1 Wκ1 Mκ1 F => ?_) (fun _ _ h9 => False.elim h9)
        replace F := F Wκ1 Mκ1
        refine y_aln dX9_mixWorths_173 rfl ?_
        refine y_aln dX9_mixWorths_174 rfl ?_
        have h4 := (ztm W Mκ1 Ta0)
        refine gf_X9_40 Wκ1 dX9_mixWorths_175 rfl h4 ?_
        replace F := F h4
        replace F := F (ty_soWhole Wκ1 h4)
        refine k_X9_281 Wκ1 dX9_mixWorths_178 rfl (Nat.le_of_ble_eq_true rfl) (Nat.le_of_ble_eq_true rfl) (Or.inl h4) F (fun  κ5 Wκ5 Mκ5 F => ?_) (fun _ _ h9 => False.elim h9)
        replace F := F Wκ5 Mκ5
        refine y_aln dX9_mixWorths_181 rfl ?_
        refine y_aln dX9_mixWorths_182 rfl ?_
        have h8 := (ztm Wκ1 Mκ5 h4)
        refine gf_X9_32 Wκ5 dX9_mixWorths_183 rfl h8 ?_
        refine y_iln dX9_mixWorths_186 rfl ?_
        refine y_qld (t := 5) dX9_mixWorths_187 (ty_soWorths Wκ5 h8) (by decide) F.1 ?_
        replace F := F.2
        obtain ⟨u9, Eu9, F⟩ := F
        have Tu9 : zT κ5 u9 = 11 := (fun v hv => Wκ5.2.2.2.2.1 _ _ v (ty_soWorths Wκ5 h8) hv) u9 Eu9
        refine y_uq0 Eu9 ?_
        replace F := F h8
        replace F := F Tu9
        refine k_X9_242 Wκ5 dX9_mixWorths_188 rfl (Nat.le_of_ble_eq_true rfl) (Nat.le_of_ble_eq_true rfl) (Or.inl h8) F (fun r11 κ10 Wκ10 Mκ10 F => ?_) (fun _ _ h9 => False.elim h9)
        replace F := F Wκ10 Mκ10
        exact y_ri Wκ10 dX9_mixWorths_191 rfl (nb_nar F.1) F.2
      · replace F := F.2 c9
        refine y_aln dX9_mixWorths_105 rfl ?_
        refine y_iln dX9_mixWorths_106 rfl ?_
        replace F := F Ta0
        refine k_X9_320 W dX9_mixWorths_107 rfl (Nat.le_of_ble_eq_true rfl) (Nat.le_of_ble_eq_true rfl) (Or.inl Ta0) F (fun r14 κ13 Wκ13 Mκ13 g15 F => ?_) (fun _ _ h9 => False.elim h9)
        replace F := F Wκ13 Mκ13 g15
        refine y_qsn dX9_mixWorths_110 (Nat.le_of_ble_eq_true rfl) rfl ?_
        show zG _ _ _ _ _ [some (.ref a0), some (.int a1), some (.int a2), some (va_rf r14)] _ _ _
        refine y_qln dX9_mixWorths_111 rfl ?_
        refine y_nl dX9_mixWorths_112 (t := 150) rfl (fun c9 => ?_) (fun u16 c9 => ?_)
        · replace F := F.1 c9
          refine y_incb dX9_mixWorths_150 zi_1 rfl (Nat.le_of_ble_eq_true rfl) (fun v2_17 ev2_17 => ?_)
          replace F := F v2_17 ev2_17
          show zG _ _ _ _ _ [some (.ref a0), some (.int a1), some (.int v2_17), some (va_rf r14)] _ _ _
          refine y_goto dX9_mixWorths_153 (t := 90) rfl ?_
          have h18 := (ztm W Mκ13 Ta0)
          obtain ⟨k, hk, hI⟩ := F
          exact y_k (ih k hk _ _ _ _ Wκ13 h18 hI) ⟨rfl, rfl, rfl, trivial⟩
        · replace F := F.2 u16 c9
          refine y_qln dX9_mixWorths_115 rfl ?_
          obtain ⟨u19, Eu19, F⟩ := F
          have Tu19 : zT κ13 u19 = 11 := g15 u19 Eu19
          refine y_uq0 Eu19 ?_
          refine gf_X9_164 dX9_mixWorths_116 rfl (Or.inl Tu19) ?_
          refine y_i ((zI κ13 raSign u19) = (0 : Int32)) dX9_mixWorths_119 (t := 150) rfl rfl (fun c9 => ?_) (fun c9 => ?_)
          · replace F := F.1 c9
            refine y_incb dX9_mixWorths_150 zi_1 rfl (Nat.le_of_ble_eq_true rfl) (fun v2_20 ev2_20 => ?_)
            replace F := F v2_20 ev2_20
            show zG _ _ _ _ _ [some (.ref a0), some (.int a1), some (.int v2_20), some (va_rf r14)] _ _ _
            refine y_goto dX9_mixWorths_153 (t := 90) rfl ?_
            have h21 := (ztm W Mκ13 Ta0)
            obtain ⟨k, hk, hI⟩ := F
            exact y_k (ih k hk _ _ _ _ Wκ13 h21 hI) ⟨rfl, rfl, rfl, trivial⟩
          · replace F := F.2 c9
            refine y_aln dX9_mixWorths_122 rfl ?_
            have h22 := (ztm W Mκ13 Ta0)
            refine gf_X9_45 Wκ13 dX9_mixWorths_123 rfl h22 ?_
            refine y_qln dX9_mixWorths_126 rfl ?_
            obtain ⟨u23, Eu23, F⟩ := F
            have Tu23 : zT κ13 u23 = 11 := g15 u23 Eu23
            refine y_uq0 Eu23 ?_
            replace F := F (ty_soPart Wκ13 h22)
            replace F := F Tu23
            refine k_X9_132 Wκ13 dX9_mixWorths_127 rfl (Nat.le_of_ble_eq_true rfl) (Nat.le_of_ble_eq_true rfl) (Or.inl (ty_soPart Wκ13 h22)) F (fun  κ24 Wκ24 Mκ24 F => ?_) (fun _ _ h9 => False.elim h9)
            replace F := F Wκ24 Mκ24
            refine y_aln dX9_mixWorths_130 rfl ?_
            refine y_qln dX9_mixWorths_131 rfl ?_
            obtain ⟨u27, Eu27, F⟩ := F
            have Tu27 : zT κ24 u27 = 11 := (fun v hv => ztm Wκ13 Mκ24 (g15 v hv)) u27 Eu27
            refine y_uq0 Eu27 ?_
            refine gf_X9_164 dX9_mixWorths_132 rfl (Or.inl Tu27) ?_
            refine y_i2l dX9_mixWorths_135 ?_
            refine y_aln dX9_mixWorths_136 rfl ?_
            have h28 := (ztm Wκ13 Mκ24 h22)
            refine gf_X9_9 Wκ24 dX9_mixWorths_137 rfl h28 ?_
            refine gf_X9_174 Wκ24 dX9_mixWorths_140 rfl (ty_soAtlas Wκ24 h28) ?_
            refine y_iln dX9_mixWorths_143 rfl ?_
            refine y_ald dX9_mixWorths_144 (ty_atWeights Wκ24 (ty_soAtlas Wκ24 h28)) F.1 ?_
            replace F := F.2
            refine y_i2l dX9_mixWorths_145 ?_
            refine y_lmul dX9_mixWorths_146 ?_
            replace F := F h28
            refine k_X9_216 Wκ24 dX9_mixWorths_147 rfl (Nat.le_of_ble_eq_true rfl) (Nat.le_of_ble_eq_true rfl) (Or.inl h28) F (fun  κ29 Wκ29 Mκ29 F => ?_) (fun _ _ h9 => False.elim h9)
            replace F := F Wκ29 Mκ29
            refine y_incb dX9_mixWorths_150 zi_1 rfl (Nat.le_of_ble_eq_true rfl) (fun v2_32 ev2_32 => ?_)
            replace F := F v2_32 ev2_32
            show zG _ _ _ _ _ [some (.ref a0), some (.int a1), some (.int v2_32), some (va_rf r14)] _ _ _
            refine y_goto dX9_mixWorths_153 (t := 90) rfl ?_
            have h33 := (ztm Wκ24 Mκ29 h28)
            obtain ⟨k, hk, hI⟩ := F
            exact y_k (ih k hk _ _ _ _ Wκ29 h33 hI) ⟨rfl, rfl, rfl, trivial⟩
  exact key m0 a0 a1 a2 κ W Ta0 hI0

def w_So_mixWorths_18 (C : zC) (n0 : Nat) (Q : Int32 → zS → Prop)  (a0 : Nat) (a1 : Int32) (a2 : Int32) (κ : zS) : Prop :=
  ∃ I : Nat → Nat → Int32 → Int32 → zS → Prop, (∃ n, I n a0 a1 a2 κ) ∧ ∀ n a0 a1 a2 κ, zW C n0 κ → zT κ a0 = 12 → I n a0 a1 a2 κ →
    inb (a1 + (1 : Int32)) (zN κ (zR κ atFirsts (zR κ soAtlas a0))) ∧
    ((zA κ (zR κ atFirsts (zR κ soAtlas a0)) ((a1 + (1 : Int32))).toNatClampNeg) ≤ a2 →
      ∀ _ : zT κ (zR κ soSum a0) = 8,
      zRun C 0 mNu_put [.ref (zR κ soSum a0), .long (0 : Int64)] κ (oV (fun κ1 =>
        ∀ _ : zW C n0 κ1,
        ∀ _ : zM (zn κ) κ κ1,
        ∀ _ : zT κ1 (zR κ1 soLess a0) = 8,
        zRun C 0 mNu_put [.ref (zR κ1 soLess a0), .long (0 : Int64)] κ1 (oV (fun κ5 =>
          ∀ _ : zW C n0 κ5,
          ∀ _ : zM (zn κ1) κ1 κ5,
          inb a1 (zN κ5 (zR κ5 atFirsts (zR κ5 soAtlas a0))) ∧
          ∀ v2_9 : Int32, v2_9 = (zA κ5 (zR κ5 atFirsts (zR κ5 soAtlas a0)) (a1).toNatClampNeg) →
          w_So_mixWorths_90 C n0 Q  a0 a1 v2_9 κ5) noX)) noX)) ∧
    (¬ (zA κ (zR κ atFirsts (zR κ soAtlas a0)) ((a1 + (1 : Int32))).toNatClampNeg) ≤ a2 →
      ∀ _ : zT κ a0 = 12,
      zRun C 0 mSo_worthBehind [.ref a0, .int a2] κ (oQ 11 (fun r11 κ10 =>
        ∀ _ : zW C n0 κ10,
        ∀ _ : zM (zn κ) κ κ10,
        ∀ _ : ∀ v, r11 = some v → zT κ10 v = 11,
        (r11 = none →
          ∀ v2_14 : Int32, v2_14 = a2 + (1 : Int32) →
          ∃ k < n, I k a0 a1 v2_14 κ10) ∧
        (∀ u13, r11 = some u13 →
          ∃ u17, r11 = some u17 ∧
          ∀ _ : zT κ10 (zR κ10 soCalc a0) = 4,
          ∀ _ : zT κ10 (zR κ10 soWhole a0) = 8,
          ∀ _ : zT κ10 (zR κ10 raBottom u17) = 8,
          zRun C 5 mCa_join [.ref (zR κ10 soCalc a0), .ref (zR κ10 soWhole a0), .ref (zR κ10 raBottom u17)] κ10 (oV (fun κ18 =>
            ∀ _ : zW C n0 κ18,
            ∀ _ : zM (zn κ10) κ10 κ18,
            ∀ v2_21 : Int32, v2_21 = a2 + (1 : Int32) →
            ∃ k < n, I k a0 a1 v2_21 κ18) noX))) noX))
theorem t_So_mixWorths_18 {C : zC} {n0 : Nat} {Q : Int32 → zS → Prop}   {a0 : Nat} {a1 : Int32} {a2 : Int32} {κ : zS} (W : zW C n0 κ) (Ta0 : zT κ a0 = 12) (F : w_So_mixWorths_18 C n0 Q  a0 a1 a2 κ) : zG C n0 7 mSo_mixWorths 18 [some (.ref a0), some (.int a1), some (.int a2), none] [] κ (oI Q noX) := by
  obtain ⟨I, ⟨m0, hI0⟩, F0⟩ := F
  have key : ∀ n a0 a1 a2 κ, zW C n0 κ → zT κ a0 = 12 → I n a0 a1 a2 κ → zG C n0 7 mSo_mixWorths 18 [some (.ref a0), some (.int a1), some (.int a2), none] [] κ (oI Q noX) := by
    intro n
    induction n using Nat.strongRecOn with
    | _ n ih =>
      intro a0 a1 a2 κ W Ta0 hI
      have F := F0 n a0 a1 a2 κ W Ta0 hI
      clear hI hI0
      refine y_iln dX9_mixWorths_18 rfl ?_
      refine y_aln dX9_mixWorths_19 rfl ?_
      refine gf_X9_9 W dX9_mixWorths_20 rfl Ta0 ?_
      refine gf_X9_317 W dX9_mixWorths_23 rfl (ty_soAtlas W Ta0) ?_
      refine y_iln dX9_mixWorths_26 rfl ?_
      refine y_ic dX9_mixWorths_27 zi_1 ?_
      refine y_iadd dX9_mixWorths_28 ?_
      refine y_ald dX9_mixWorths_29 (ty_atFirsts W (ty_soAtlas W Ta0)) F.1 ?_
      replace F := F.2
      refine y_ii ((zA κ (zR κ atFirsts (zR κ soAtlas a0)) ((a1 + (1 : Int32))).toNatClampNeg) ≤ a2) dX9_mixWorths_30 (t := 64) rfl rfl (fun c9 => ?_) (fun c9 => ?_)
      · replace F := F.1 c9
        refine y_aln dX9_mixWorths_64 rfl ?_
        refine gf_X9_58 W dX9_mixWorths_65 rfl Ta0 ?_
        refine y_lc dX9_mixWorths_68 zl_0 ?_
        replace F := F (ty_soSum W Ta0)
        refine k_X9_191 W dX9_mixWorths_69 rfl (Nat.le_of_ble_eq_true rfl) (Nat.le_of_ble_eq_true rfl) (Or.inl (ty_soSum W Ta0)) F (fun  κ1 Wκ1 Mκ1 F => ?_) (fun _ _ h9 => False.elim h9)
        replace F := F Wκ1 Mκ1
        refine y_aln dX9_mixWorths_72 rfl ?_
        have h4 := (ztm W Mκ1 Ta0)
        refine gf_X9_61 Wκ1 dX9_mixWorths_73 rfl h4 ?_
        refine y_lc dX9_mixWorths_76 zl_0 ?_
        replace F := F (ty_soLess Wκ1 h4)
        refine k_X9_191 Wκ1 dX9_mixWorths_77 rfl (Nat.le_of_ble_eq_true rfl) (Nat.le_of_ble_eq_true rfl) (Or.inl (ty_soLess Wκ1 h4)) F (fun  κ5 Wκ5 Mκ5 F => ?_) (fun _ _ h9 => False.elim h9)
        replace F := F Wκ5 Mκ5
        refine y_aln dX9_mixWorths_80 rfl ?_
        have h8 := (ztm Wκ1 Mκ5 h4)
        refine gf_X9_9 Wκ5 dX9_mixWorths_81 rfl h8 ?_
        refine gf_X9_317 Wκ5 dX9_mixWorths_84 rfl (ty_soAtlas Wκ5 h8) ?_
        refine y_iln dX9_mixWorths_87 rfl ?_
        refine y_ald dX9_mixWorths_88 (ty_atFirsts Wκ5 (ty_soAtlas Wκ5 h8)) F.1 ?_
        replace F := F.2
        refine y_isnb dX9_mixWorths_89 (Nat.le_of_ble_eq_true rfl) (fun v2_9 ev2_9 => ?_)
        replace F := F v2_9 ev2_9
        show zG _ _ _ _ _ [some (.ref a0), some (.int a1), some (.int v2_9), none] _ _ _
        exact y_k (t_So_mixWorths_90  Wκ5 h8 F) ⟨rfl, rfl, rfl, trivial⟩
      · replace F := F.2 c9
        refine y_aln dX9_mixWorths_33 rfl ?_
        refine y_iln dX9_mixWorths_34 rfl ?_
        replace F := F Ta0
        refine k_X9_320 W dX9_mixWorths_35 rfl (Nat.le_of_ble_eq_true rfl) (Nat.le_of_ble_eq_true rfl) (Or.inl Ta0) F (fun r11 κ10 Wκ10 Mκ10 g12 F => ?_) (fun _ _ h9 => False.elim h9)
        replace F := F Wκ10 Mκ10 g12
        refine y_qsn dX9_mixWorths_38 (Nat.le_of_ble_eq_true rfl) rfl ?_
        show zG _ _ _ _ _ [some (.ref a0), some (.int a1), some (.int a2), some (va_rf r11)] _ _ _
        refine y_qln dX9_mixWorths_39 rfl ?_
        refine y_nl dX9_mixWorths_40 (t := 58) rfl (fun c9 => ?_) (fun u13 c9 => ?_)
        · replace F := F.1 c9
          refine y_incb dX9_mixWorths_58 zi_1 rfl (Nat.le_of_ble_eq_true rfl) (fun v2_14 ev2_14 => ?_)
          replace F := F v2_14 ev2_14
          show zG _ _ _ _ _ [some (.ref a0), some (.int a1), some (.int v2_14), some (va_rf r11)] _ _ _
          refine y_goto dX9_mixWorths_61 (t := 18) rfl ?_
          have h15 := (ztm W Mκ10 Ta0)
          obtain ⟨k, hk, hI⟩ := F
          exact y_k (ih k hk _ _ _ _ Wκ10 h15 hI) ⟨rfl, rfl, rfl, trivial⟩
        · replace F := F.2 u13 c9
          refine y_aln dX9_mixWorths_43 rfl ?_
          have h16 := (ztm W Mκ10 Ta0)
          refine gf_X9_15 Wκ10 dX9_mixWorths_44 rfl h16 ?_
          refine y_aln dX9_mixWorths_47 rfl ?_
          refine gf_X9_40 Wκ10 dX9_mixWorths_48 rfl h16 ?_
          refine y_qln dX9_mixWorths_51 rfl ?_
          obtain ⟨u17, Eu17, F⟩ := F
          have Tu17 : zT κ10 u17 = 11 := g12 u17 Eu17
          refine y_uq0 Eu17 ?_
          refine gf_X9_151 Wκ10 dX9_mixWorths_52 rfl Tu17 ?_
          replace F := F (ty_soCalc Wκ10 h16)
          replace F := F (ty_soWhole Wκ10 h16)
          replace F := F (ty_raBottom Wκ10 Tu17)
          refine k_X9_207 Wκ10 dX9_mixWorths_55 rfl (Nat.le_of_ble_eq_true rfl) (Nat.le_of_ble_eq_true rfl) (Or.inl (ty_soCalc Wκ10 h16)) F (fun  κ18 Wκ18 Mκ18 F => ?_) (fun _ _ h9 => False.elim h9)
          replace F := F Wκ18 Mκ18
          refine y_incb dX9_mixWorths_58 zi_1 rfl (Nat.le_of_ble_eq_true rfl) (fun v2_21 ev2_21 => ?_)
          replace F := F v2_21 ev2_21
          show zG _ _ _ _ _ [some (.ref a0), some (.int a1), some (.int v2_21), some (va_rf r11)] _ _ _
          refine y_goto dX9_mixWorths_61 (t := 18) rfl ?_
          have h22 := (ztm Wκ10 Mκ18 h16)
          obtain ⟨k, hk, hI⟩ := F
          exact y_k (ih k hk _ _ _ _ Wκ18 h22 hI) ⟨rfl, rfl, rfl, trivial⟩
  exact key m0 a0 a1 a2 κ W Ta0 hI0

def w_So_mixWorths_0 (C : zC) (n0 : Nat) (Q : Int32 → zS → Prop)  (a0 : Nat) (a1 : Int32) (κ : zS) : Prop :=
  ∀ _ : zT κ (zR κ soWhole a0) = 8,
  zRun C 0 mNu_put [.ref (zR κ soWhole a0), .long (1 : Int64)] κ (oV (fun κ1 =>
    ∀ _ : zW C n0 κ1,
    ∀ _ : zM (zn κ) κ κ1,
    inb a1 (zN κ1 (zR κ1 atFirsts (zR κ1 soAtlas a0))) ∧
    ∀ v2_5 : Int32, v2_5 = (zA κ1 (zR κ1 atFirsts (zR κ1 soAtlas a0)) (a1).toNatClampNeg) →
    w_So_mixWorths_18 C n0 Q  a0 a1 v2_5 κ1) noX)
theorem t_So_mixWorths_0 {C : zC} {n0 : Nat} {Q : Int32 → zS → Prop}   {a0 : Nat} {a1 : Int32} {κ : zS} (W : zW C n0 κ) (Ta0 : zT κ a0 = 12) (F : w_So_mixWorths_0 C n0 Q  a0 a1 κ) : zG C n0 7 mSo_mixWorths 0 [some (.ref a0), some (.int a1), none, none] [] κ (oI Q noX) := by
  unfold w_So_mixWorths_0 at F
  refine y_aln dX9_mixWorths_0 rfl ?_
  refine gf_X9_40 W dX9_mixWorths_1 rfl Ta0 ?_
  refine y_lc dX9_mixWorths_4 zl_1 ?_
  replace F := F (ty_soWhole W Ta0)
  refine k_X9_191 W dX9_mixWorths_5 rfl (Nat.le_of_ble_eq_true rfl) (Nat.le_of_ble_eq_true rfl) (Or.inl (ty_soWhole W Ta0)) F (fun  κ1 Wκ1 Mκ1 F => ?_) (fun _ _ h9 => False.elim h9)
  replace F := F Wκ1 Mκ1
  refine y_aln dX9_mixWorths_8 rfl ?_
  have h4 := (ztm W Mκ1 Ta0)
  refine gf_X9_9 Wκ1 dX9_mixWorths_9 rfl h4 ?_
  refine gf_X9_317 Wκ1 dX9_mixWorths_12 rfl (ty_soAtlas Wκ1 h4) ?_
  refine y_iln dX9_mixWorths_15 rfl ?_
  refine y_ald dX9_mixWorths_16 (ty_atFirsts Wκ1 (ty_soAtlas Wκ1 h4)) F.1 ?_
  replace F := F.2
  refine y_isnb dX9_mixWorths_17 (Nat.le_of_ble_eq_true rfl) (fun v2_5 ev2_5 => ?_)
  replace F := F v2_5 ev2_5
  show zG _ _ _ _ _ [some (.ref a0), some (.int a1), some (.int v2_5), none] _ _ _
  exact y_k (t_So_mixWorths_18  Wκ1 h4 F) ⟨rfl, rfl, rfl, trivial⟩

theorem So_mixWorths_run {C : zC} {n0 : Nat} {Q : Int32 → zS → Prop} {a0 : Nat} {a1 : Int32} {κ : zS} (W : zW C n0 κ) (Ta0 : zT κ a0 = 12) (F : w_So_mixWorths_0 C (zn κ) Q a0 a1 κ) : zRun C 7 mSo_mixWorths [.ref a0, .int a1] κ (oI Q noX) := z_run (m_ent _ 2) (t_So_mixWorths_0 (W.lo (Nat.le_trans W.1.2.1 W.1.2.2) (Nat.le_refl _)) Ta0 F)

theorem dX9_makePlan_0 : decode cX9_makePlan 0 = .ok (.aload_n 0, 1) := by decide +kernel
theorem dX9_makePlan_1 : decode cX9_makePlan 1 = .ok (.getfield 9, 3) := by decide +kernel
theorem dX9_makePlan_4 : decode cX9_makePlan 4 = .ok (.getfield 284, 3) := by decide +kernel
theorem dX9_makePlan_7 : decode cX9_makePlan 7 = .ok (.ifCond .le 6, 3) := by decide +kernel
theorem dX9_makePlan_10 : decode cX9_makePlan 10 = .ok (.bipush (-2), 2) := by decide +kernel
theorem dX9_makePlan_12 : decode cX9_makePlan 12 = .ok (.ireturn, 1) := by decide +kernel
theorem dX9_makePlan_13 : decode cX9_makePlan 13 = .ok (.aload_n 0, 1) := by decide +kernel
theorem dX9_makePlan_14 : decode cX9_makePlan 14 = .ok (.getfield 25, 3) := by decide +kernel
theorem dX9_makePlan_17 : decode cX9_makePlan 17 = .ok (.aload_n 0, 1) := by decide +kernel
theorem dX9_makePlan_18 : decode cX9_makePlan 18 = .ok (.getfield 9, 3) := by decide +kernel
theorem dX9_makePlan_21 : decode cX9_makePlan 21 = .ok (.iconst 0, 1) := by decide +kernel
theorem dX9_makePlan_22 : decode cX9_makePlan 22 = .ok (.invokevirtual 88, 3) := by decide +kernel
theorem dX9_makePlan_25 : decode cX9_makePlan 25 = .ok (.aload_n 0, 1) := by decide +kernel
theorem dX9_makePlan_26 : decode cX9_makePlan 26 = .ok (.getfield 25, 3) := by decide +kernel
theorem dX9_makePlan_29 : decode cX9_makePlan 29 = .ok (.invokevirtual 94, 3) := by decide +kernel
theorem dX9_makePlan_32 : decode cX9_makePlan 32 = .ok (.aload_n 0, 1) := by decide +kernel
theorem dX9_makePlan_33 : decode cX9_makePlan 33 = .ok (.aload_n 0, 1) := by decide +kernel
theorem dX9_makePlan_34 : decode cX9_makePlan 34 = .ok (.getfield 32, 3) := by decide +kernel
theorem dX9_makePlan_37 : decode cX9_makePlan 37 = .ok (.aload_n 0, 1) := by decide +kernel
theorem dX9_makePlan_38 : decode cX9_makePlan 38 = .ok (.getfield 25, 3) := by decide +kernel
theorem dX9_makePlan_41 : decode cX9_makePlan 41 = .ok (.getfield 115, 3) := by decide +kernel
theorem dX9_makePlan_44 : decode cX9_makePlan 44 = .ok (.invokestatic 118, 3) := by decide +kernel
theorem dX9_makePlan_47 : decode cX9_makePlan 47 = .ok (.putfield 32, 3) := by decide +kernel
theorem dX9_makePlan_50 : decode cX9_makePlan 50 = .ok (.aload_n 0, 1) := by decide +kernel
theorem dX9_makePlan_51 : decode cX9_makePlan 51 = .ok (.getfield 72, 3) := by decide +kernel
theorem dX9_makePlan_54 : decode cX9_makePlan 54 = .ok (.arraylength, 1) := by decide +kernel
theorem dX9_makePlan_55 : decode cX9_makePlan 55 = .ok (.aload_n 0, 1) := by decide +kernel
theorem dX9_makePlan_56 : decode cX9_makePlan 56 = .ok (.getfield 25, 3) := by decide +kernel
theorem dX9_makePlan_59 : decode cX9_makePlan 59 = .ok (.getfield 115, 3) := by decide +kernel
theorem dX9_makePlan_62 : decode cX9_makePlan 62 = .ok (.if_icmp .ge 12, 3) := by decide +kernel
theorem dX9_makePlan_65 : decode cX9_makePlan 65 = .ok (.aload_n 0, 1) := by decide +kernel
theorem dX9_makePlan_66 : decode cX9_makePlan 66 = .ok (.sipush 1000, 3) := by decide +kernel
theorem dX9_makePlan_69 : decode cX9_makePlan 69 = .ok (.newarray .int, 2) := by decide +kernel
theorem dX9_makePlan_71 : decode cX9_makePlan 71 = .ok (.putfield 72, 3) := by decide +kernel
theorem dX9_makePlan_74 : decode cX9_makePlan 74 = .ok (.iconst 0, 1) := by decide +kernel
theorem dX9_makePlan_75 : decode cX9_makePlan 75 = .ok (.istore_n 1, 1) := by decide +kernel
theorem dX9_makePlan_76 : decode cX9_makePlan 76 = .ok (.iload_n 1, 1) := by decide +kernel
theorem dX9_makePlan_77 : decode cX9_makePlan 77 = .ok (.aload_n 0, 1) := by decide +kernel
theorem dX9_makePlan_78 : decode cX9_makePlan 78 = .ok (.getfield 25, 3) := by decide +kernel
theorem dX9_makePlan_81 : decode cX9_makePlan 81 = .ok (.getfield 115, 3) := by decide +kernel
theorem dX9_makePlan_84 : decode cX9_makePlan 84 = .ok (.if_icmp .ge 71, 3) := by decide +kernel
theorem dX9_makePlan_87 : decode cX9_makePlan 87 = .ok (.aload_n 0, 1) := by decide +kernel
theorem dX9_makePlan_88 : decode cX9_makePlan 88 = .ok (.getfield 25, 3) := by decide +kernel
theorem dX9_makePlan_91 : decode cX9_makePlan 91 = .ok (.getfield 105, 3) := by decide +kernel
theorem dX9_makePlan_94 : decode cX9_makePlan 94 = .ok (.iload_n 1, 1) := by decide +kernel
theorem dX9_makePlan_95 : decode cX9_makePlan 95 = .ok (.iaload, 1) := by decide +kernel
theorem dX9_makePlan_96 : decode cX9_makePlan 96 = .ok (.istore_n 2, 1) := by decide +kernel
theorem dX9_makePlan_97 : decode cX9_makePlan 97 = .ok (.aload_n 0, 1) := by decide +kernel
theorem dX9_makePlan_98 : decode cX9_makePlan 98 = .ok (.getfield 72, 3) := by decide +kernel
theorem dX9_makePlan_101 : decode cX9_makePlan 101 = .ok (.iload_n 2, 1) := by decide +kernel
theorem dX9_makePlan_102 : decode cX9_makePlan 102 = .ok (.iconst 0, 1) := by decide +kernel
theorem dX9_makePlan_103 : decode cX9_makePlan 103 = .ok (.iastore, 1) := by decide +kernel
theorem dX9_makePlan_104 : decode cX9_makePlan 104 = .ok (.aload_n 0, 1) := by decide +kernel
theorem dX9_makePlan_105 : decode cX9_makePlan 105 = .ok (.getfield 9, 3) := by decide +kernel
theorem dX9_makePlan_108 : decode cX9_makePlan 108 = .ok (.getfield 287, 3) := by decide +kernel
theorem dX9_makePlan_111 : decode cX9_makePlan 111 = .ok (.iload_n 2, 1) := by decide +kernel
theorem dX9_makePlan_112 : decode cX9_makePlan 112 = .ok (.baload, 1) := by decide +kernel
theorem dX9_makePlan_113 : decode cX9_makePlan 113 = .ok (.ifCond .ne 15, 3) := by decide +kernel
theorem dX9_makePlan_116 : decode cX9_makePlan 116 = .ok (.aload_n 0, 1) := by decide +kernel
theorem dX9_makePlan_117 : decode cX9_makePlan 117 = .ok (.getfield 9, 3) := by decide +kernel
theorem dX9_makePlan_120 : decode cX9_makePlan 120 = .ok (.iload_n 2, 1) := by decide +kernel
theorem dX9_makePlan_121 : decode cX9_makePlan 121 = .ok (.invokevirtual 290, 3) := by decide +kernel
theorem dX9_makePlan_124 : decode cX9_makePlan 124 = .ok (.iconst 1, 1) := by decide +kernel
theorem dX9_makePlan_125 : decode cX9_makePlan 125 = .ok (.if_icmp .ne 11, 3) := by decide +kernel
theorem dX9_makePlan_128 : decode cX9_makePlan 128 = .ok (.aload_n 0, 1) := by decide +kernel
theorem dX9_makePlan_129 : decode cX9_makePlan 129 = .ok (.iload_n 2, 1) := by decide +kernel
theorem dX9_makePlan_130 : decode cX9_makePlan 130 = .ok (.invokevirtual 293, 3) := by decide +kernel
theorem dX9_makePlan_133 : decode cX9_makePlan 133 = .ok (.goto 8, 3) := by decide +kernel
theorem dX9_makePlan_136 : decode cX9_makePlan 136 = .ok (.aload_n 0, 1) := by decide +kernel
theorem dX9_makePlan_137 : decode cX9_makePlan 137 = .ok (.iload_n 2, 1) := by decide +kernel
theorem dX9_makePlan_138 : decode cX9_makePlan 138 = .ok (.invokevirtual 296, 3) := by decide +kernel
theorem dX9_makePlan_141 : decode cX9_makePlan 141 = .ok (.istore_n 3, 1) := by decide +kernel
theorem dX9_makePlan_142 : decode cX9_makePlan 142 = .ok (.iload_n 3, 1) := by decide +kernel
theorem dX9_makePlan_143 : decode cX9_makePlan 143 = .ok (.ifCond .ne 6, 3) := by decide +kernel
theorem dX9_makePlan_146 : decode cX9_makePlan 146 = .ok (.bipush (-3), 2) := by decide +kernel
theorem dX9_makePlan_148 : decode cX9_makePlan 148 = .ok (.ireturn, 1) := by decide +kernel
theorem dX9_makePlan_149 : decode cX9_makePlan 149 = .ok (.iinc 1 1, 3) := by decide +kernel
theorem dX9_makePlan_152 : decode cX9_makePlan 152 = .ok (.goto (-76), 3) := by decide +kernel
theorem dX9_makePlan_155 : decode cX9_makePlan 155 = .ok (.aload_n 0, 1) := by decide +kernel
theorem dX9_makePlan_156 : decode cX9_makePlan 156 = .ok (.getfield 72, 3) := by decide +kernel
theorem dX9_makePlan_159 : decode cX9_makePlan 159 = .ok (.iconst 0, 1) := by decide +kernel
theorem dX9_makePlan_160 : decode cX9_makePlan 160 = .ok (.aload_n 0, 1) := by decide +kernel
theorem dX9_makePlan_161 : decode cX9_makePlan 161 = .ok (.getfield 9, 3) := by decide +kernel
theorem dX9_makePlan_164 : decode cX9_makePlan 164 = .ok (.getfield 299, 3) := by decide +kernel
theorem dX9_makePlan_167 : decode cX9_makePlan 167 = .ok (.iconst 0, 1) := by decide +kernel
theorem dX9_makePlan_168 : decode cX9_makePlan 168 = .ok (.aload_n 0, 1) := by decide +kernel
theorem dX9_makePlan_169 : decode cX9_makePlan 169 = .ok (.getfield 25, 3) := by decide +kernel
theorem dX9_makePlan_172 : decode cX9_makePlan 172 = .ok (.getfield 115, 3) := by decide +kernel
theorem dX9_makePlan_175 : decode cX9_makePlan 175 = .ok (.invokestatic 302, 3) := by decide +kernel
theorem dX9_makePlan_178 : decode cX9_makePlan 178 = .ok (.aload_n 0, 1) := by decide +kernel
theorem dX9_makePlan_179 : decode cX9_makePlan 179 = .ok (.iconst 1, 1) := by decide +kernel
theorem dX9_makePlan_180 : decode cX9_makePlan 180 = .ok (.putfield 308, 3) := by decide +kernel
theorem dX9_makePlan_183 : decode cX9_makePlan 183 = .ok (.aload_n 0, 1) := by decide +kernel
theorem dX9_makePlan_184 : decode cX9_makePlan 184 = .ok (.iconst 0, 1) := by decide +kernel
theorem dX9_makePlan_185 : decode cX9_makePlan 185 = .ok (.putfield 84, 3) := by decide +kernel
theorem dX9_makePlan_188 : decode cX9_makePlan 188 = .ok (.iconst 0, 1) := by decide +kernel
theorem dX9_makePlan_189 : decode cX9_makePlan 189 = .ok (.ireturn, 1) := by decide +kernel
def w_So_makePlan_141 (C : zC) (n0 : Nat) (Q : Int32 → zS → Prop) (B76 : Nat → Int32 → zS → Prop) (a0 : Nat) (a1 : Int32) (s0 : Int32) (κ : zS) : Prop :=
  (¬ s0 = (0 : Int32) →
    ∀ v1_1 : Int32, v1_1 = a1 + (1 : Int32) →
    B76 a0 v1_1 κ) ∧
  (s0 = (0 : Int32) →
    Q (-3 : Int32) κ)
theorem t_So_makePlan_141 {C : zC} {n0 : Nat} {Q : Int32 → zS → Prop} {B76 : Nat → Int32 → zS → Prop} (hB76 : ∀ a0' a1' τ, zW C n0 τ → zT τ a0' = 12 → B76 a0' a1' τ → zG C n0 8 mSo_makePlan 76 [some (.ref a0'), some (.int a1'), none, none] [] τ (oI Q noX)) {a0 : Nat} {a1 : Int32} {s0 : Int32} {κ : zS} (W : zW C n0 κ) (Ta0 : zT κ a0 = 12) (F : w_So_makePlan_141 C n0 Q B76 a0 a1 s0 κ) : zG C n0 8 mSo_makePlan 141 [some (.ref a0), some (.int a1), none, none] [.int s0] κ (oI Q noX) := by
  unfold w_So_makePlan_141 at F
  refine y_isn dX9_makePlan_141 (Nat.le_of_ble_eq_true rfl) rfl ?_
  show zG _ _ _ _ _ [some (.ref a0), some (.int a1), none, some (.int s0)] _ _ _
  refine y_iln dX9_makePlan_142 rfl ?_
  refine y_in (s0 = (0 : Int32)) dX9_makePlan_143 (t := 149) rfl rfl (fun c9 => ?_) (fun c9 => ?_)
  · replace F := F.1 c9
    refine y_incb dX9_makePlan_149 zi_1 rfl (Nat.le_of_ble_eq_true rfl) (fun v1_1 ev1_1 => ?_)
    replace F := F v1_1 ev1_1
    show zG _ _ _ _ _ [some (.ref a0), some (.int v1_1), none, some (.int s0)] _ _ _
    refine y_goto dX9_makePlan_152 (t := 76) rfl ?_
    exact y_k (hB76 _ _ _ W Ta0 F) ⟨rfl, rfl, trivial⟩
  · replace F := F.2 c9
    refine y_bi1 dX9_makePlan_146 zb_m3 ?_
    exact y_ri W dX9_makePlan_148 rfl in_nar F

def w_So_makePlan_128 (C : zC) (n0 : Nat) (Q : Int32 → zS → Prop) (B76 : Nat → Int32 → zS → Prop) (a0 : Nat) (a1 : Int32) (a2 : Int32) (κ : zS) : Prop :=
  ∀ _ : zT κ a0 = 12,
  zRun C 5 mSo_findWorth [.ref a0, .int a2] κ (oI (fun r2 κ1 =>
    ∀ _ : zW C n0 κ1,
    ∀ _ : zM (zn κ) κ κ1,
    w_So_makePlan_141 C n0 Q B76 a0 a1 r2 κ1) noX)
theorem t_So_makePlan_128 {C : zC} {n0 : Nat} {Q : Int32 → zS → Prop} {B76 : Nat → Int32 → zS → Prop} (hB76 : ∀ a0' a1' τ, zW C n0 τ → zT τ a0' = 12 → B76 a0' a1' τ → zG C n0 8 mSo_makePlan 76 [some (.ref a0'), some (.int a1'), none, none] [] τ (oI Q noX)) {a0 : Nat} {a1 : Int32} {a2 : Int32} {κ : zS} (W : zW C n0 κ) (Ta0 : zT κ a0 = 12) (F : w_So_makePlan_128 C n0 Q B76 a0 a1 a2 κ) : zG C n0 8 mSo_makePlan 128 [some (.ref a0), some (.int a1), some (.int a2), none] [] κ (oI Q noX) := by
  unfold w_So_makePlan_128 at F
  refine y_aln dX9_makePlan_128 rfl ?_
  refine y_iln dX9_makePlan_129 rfl ?_
  replace F := F Ta0
  refine k_X9_293 W dX9_makePlan_130 rfl (Nat.le_of_ble_eq_true rfl) (Nat.le_of_ble_eq_true rfl) (Or.inl Ta0) F (fun r2 κ1 Wκ1 Mκ1 F => ?_) (fun _ _ h9 => False.elim h9)
  replace F := F Wκ1 Mκ1
  refine y_goto dX9_makePlan_133 (t := 141) rfl ?_
  have h4 := (ztm W Mκ1 Ta0)
  exact y_k (t_So_makePlan_141 hB76 Wκ1 h4 F) ⟨rfl, rfl, trivial⟩

def w_So_makePlan_76 (C : zC) (n0 : Nat) (Q : Int32 → zS → Prop)  (a0 : Nat) (a1 : Int32) (κ : zS) : Prop :=
  ∃ I : Nat → Nat → Int32 → zS → Prop, (∃ n, I n a0 a1 κ) ∧ ∀ n a0 a1 κ, zW C n0 κ → zT κ a0 = 12 → I n a0 a1 κ →
    ((zI κ weTotal (zR κ soWeb a0)) ≤ a1 →
      cpo κ (zR κ soTaken a0) (zR κ atPlan (zR κ soAtlas a0)) (0 : Int32) (0 : Int32) (zI κ weTotal (zR κ soWeb a0)) ∧
      ∀ κ1, κ1 = uc κ (zR κ soTaken a0) (zR κ atPlan (zR κ soAtlas a0)) ((0 : Int32)).toNatClampNeg ((0 : Int32)).toNatClampNeg ((zI κ weTotal (zR κ soWeb a0))).toNatClampNeg →
      ∀ _ : zW C n0 κ1,
      ∀ κ2, κ2 = ui κ1 soPlanned a0 (1 : Int32) →
      ∀ _ : zW C n0 κ2,
      ∀ κ4, κ4 = ui κ2 soSolved a0 (0 : Int32) →
      ∀ _ : zW C n0 κ4,
      Q (0 : Int32) κ4) ∧
    (¬ (zI κ weTotal (zR κ soWeb a0)) ≤ a1 →
      inb a1 (zN κ (zR κ weOrder (zR κ soWeb a0))) ∧
      ∀ v2_6 : Int32, v2_6 = (zA κ (zR κ weOrder (zR κ soWeb a0)) (a1).toNatClampNeg) →
      inb v2_6 (zN κ (zR κ soTaken a0)) ∧
      ∀ κ7, κ7 = ua κ (zR κ soTaken a0) (v2_6).toNatClampNeg (0 : Int32) →
      ∀ _ : zW C n0 κ7,
      inb v2_6 (zN κ7 (zR κ7 atChooses (zR κ7 soAtlas a0))) ∧
      (¬ (zA κ7 (zR κ7 atChooses (zR κ7 soAtlas a0)) (v2_6).toNatClampNeg) = (0 : Int32) →
        w_So_makePlan_128 C n0 Q (fun a0' a1' τ => ∃ k < n, I k a0' a1' τ) a0 a1 v2_6 κ7) ∧
      ((zA κ7 (zR κ7 atChooses (zR κ7 soAtlas a0)) (v2_6).toNatClampNeg) = (0 : Int32) →
        ∀ _ : zT κ7 (zR κ7 soAtlas a0) = 3,
        zRun C 0 mAt_waysOf [.ref (zR κ7 soAtlas a0), .int v2_6] κ7 (oI (fun r10 κ9 =>
          ∀ _ : zW C n0 κ9,
          ∀ _ : zM (zn κ7) κ7 κ9,
          (¬ r10 = (1 : Int32) →
            ∀ _ : zT κ9 a0 = 12,
            zRun C 7 mSo_mixWorths [.ref a0, .int v2_6] κ9 (oI (fun r13 κ12 =>
              ∀ _ : zW C n0 κ12,
              ∀ _ : zM (zn κ9) κ9 κ12,
              w_So_makePlan_141 C n0 Q (fun a0' a1' τ => ∃ k < n, I k a0' a1' τ) a0 a1 r13 κ12) noX)) ∧
          (r10 = (1 : Int32) →
            w_So_makePlan_128 C n0 Q (fun a0' a1' τ => ∃ k < n, I k a0' a1' τ) a0 a1 v2_6 κ9)) noX)))
theorem t_So_makePlan_76 {C : zC} {n0 : Nat} {Q : Int32 → zS → Prop}   {a0 : Nat} {a1 : Int32} {κ : zS} (W : zW C n0 κ) (Ta0 : zT κ a0 = 12) (F : w_So_makePlan_76 C n0 Q  a0 a1 κ) : zG C n0 8 mSo_makePlan 76 [some (.ref a0), some (.int a1), none, none] [] κ (oI Q noX) := by
  obtain ⟨I, ⟨m0, hI0⟩, F0⟩ := F
  have key : ∀ n a0 a1 κ, zW C n0 κ → zT κ a0 = 12 → I n a0 a1 κ → zG C n0 8 mSo_makePlan 76 [some (.ref a0), some (.int a1), none, none] [] κ (oI Q noX) := by
    intro n
    induction n using Nat.strongRecOn with
    | _ n ih =>
      intro a0 a1 κ W Ta0 hI
      have F := F0 n a0 a1 κ W Ta0 hI
      clear hI hI0
      refine y_iln dX9_makePlan_76 rfl ?_
      refine y_aln dX9_makePlan_77 rfl ?_
      refine gf_X9_25 W dX9_makePlan_78 rfl Ta0 ?_
      refine gf_X9_115 dX9_makePlan_81 rfl (Or.inl (ty_soWeb W Ta0)) ?_
      refine y_ii ((zI κ weTotal (zR κ soWeb a0)) ≤ a1) dX9_makePlan_84 (t := 155) rfl rfl (fun c9 => ?_) (fun c9 => ?_)
      · replace F := F.1 c9
        refine y_aln dX9_makePlan_155 rfl ?_
        refine gf_X9_72 W dX9_makePlan_156 rfl Ta0 ?_
        refine y_ic dX9_makePlan_159 zi_0 ?_
        refine y_aln dX9_makePlan_160 rfl ?_
        refine gf_X9_9 W dX9_makePlan_161 rfl Ta0 ?_
        refine gf_X9_299 W dX9_makePlan_164 rfl (ty_soAtlas W Ta0) ?_
        refine y_ic dX9_makePlan_167 zi_0 ?_
        refine y_aln dX9_makePlan_168 rfl ?_
        refine gf_X9_25 W dX9_makePlan_169 rfl Ta0 ?_
        refine gf_X9_115 dX9_makePlan_172 rfl (Or.inl (ty_soWeb W Ta0)) ?_
        refine y_cpy (t := 0) W dX9_makePlan_175 rfl zbi_X9_302 (ty_soTaken W Ta0) (ty_atPlan W (ty_soAtlas W Ta0)) (by decide) (Nat.le_of_ble_eq_true rfl) (Nat.le_of_ble_eq_true rfl) F.1 (fun κ1 eκ1 => ?_)
        replace F := F.2 κ1 eκ1
        have Wκ1 : zW C n0 κ1 := zW_uc W eκ1 ((ty_soTaken W Ta0).trans (ty_atPlan W (ty_soAtlas W Ta0)).symm)
        have Mκ1 : zM (zn κ) κ κ1 := by rw [eκ1]; exact zM.of rfl rfl rfl
        replace F := F Wκ1
        refine y_aln dX9_makePlan_178 rfl ?_
        refine y_ic dX9_makePlan_179 zi_1 ?_
        have h3 := (ztm W Mκ1 Ta0)
        refine pf_X9_308 Wκ1 dX9_makePlan_180 rfl (nb_nar nb_1) (Or.inl h3) (fun κ2 eκ2 => ?_)
        replace F := F κ2 eκ2
        have Wκ2 : zW C n0 κ2 := zW_ui Wκ1 eκ2 (fun _ => nb_1)
        have Mκ2 : zM (zn κ1) κ1 κ2 := by rw [eκ2]; exact zM.of rfl rfl rfl
        replace F := F Wκ2
        refine y_aln dX9_makePlan_183 rfl ?_
        refine y_ic dX9_makePlan_184 zi_0 ?_
        have h5 := (ztm Wκ1 Mκ2 h3)
        refine pf_X9_84 Wκ2 dX9_makePlan_185 rfl (nb_nar nb_0) (Or.inl h5) (fun κ4 eκ4 => ?_)
        replace F := F κ4 eκ4
        have Wκ4 : zW C n0 κ4 := zW_ui Wκ2 eκ4 (fun _ => nb_0)
        have Mκ4 : zM (zn κ2) κ2 κ4 := by rw [eκ4]; exact zM.of rfl rfl rfl
        replace F := F Wκ4
        refine y_ic dX9_makePlan_188 zi_0 ?_
        exact y_ri Wκ4 dX9_makePlan_189 rfl in_nar F
      · replace F := F.2 c9
        refine y_aln dX9_makePlan_87 rfl ?_
        refine gf_X9_25 W dX9_makePlan_88 rfl Ta0 ?_
        refine gf_X9_105 W dX9_makePlan_91 rfl (ty_soWeb W Ta0) ?_
        refine y_iln dX9_makePlan_94 rfl ?_
        refine y_ald dX9_makePlan_95 (ty_weOrder W (ty_soWeb W Ta0)) F.1 ?_
        replace F := F.2
        refine y_isnb dX9_makePlan_96 (Nat.le_of_ble_eq_true rfl) (fun v2_6 ev2_6 => ?_)
        replace F := F v2_6 ev2_6
        show zG _ _ _ _ _ [some (.ref a0), some (.int a1), some (.int v2_6), none] _ _ _
        refine y_aln dX9_makePlan_97 rfl ?_
        refine gf_X9_72 W dX9_makePlan_98 rfl Ta0 ?_
        refine y_iln dX9_makePlan_101 rfl ?_
        refine y_ic dX9_makePlan_102 zi_0 ?_
        refine y_ast W dX9_makePlan_103 (ty_soTaken W Ta0) F.1 (fun κ7 eκ7 => ?_)
        replace F := F.2 κ7 eκ7
        have Wκ7 : zW C n0 κ7 := zW_ua W eκ7 (fun h => absurd (h.symm.trans (ty_soTaken W Ta0)) (by decide)) (fun h => absurd (h.symm.trans (ty_soTaken W Ta0)) (by decide))
        have Mκ7 : zM (zn κ) κ κ7 := by rw [eκ7]; exact zM.of rfl rfl rfl
        replace F := F Wκ7
        refine y_aln dX9_makePlan_104 rfl ?_
        have h8 := (ztm W Mκ7 Ta0)
        refine gf_X9_9 Wκ7 dX9_makePlan_105 rfl h8 ?_
        refine gf_X9_287 Wκ7 dX9_makePlan_108 rfl (ty_soAtlas Wκ7 h8) ?_
        refine y_iln dX9_makePlan_111 rfl ?_
        refine y_zld dX9_makePlan_112 (ty_atChooses Wκ7 (ty_soAtlas Wκ7 h8)) F.1 ?_
        replace F := F.2
        refine y_in ((zA κ7 (zR κ7 atChooses (zR κ7 soAtlas a0)) (v2_6).toNatClampNeg) = (0 : Int32)) dX9_makePlan_113 (t := 128) rfl rfl (fun c9 => ?_) (fun c9 => ?_)
        · replace F := F.1 c9
          exact y_k (t_So_makePlan_128 (fun a0' a1' τ w9 f09 hb => by obtain ⟨k, hk, hI⟩ := hb; exact ih k hk a0' a1' τ w9 f09 hI) Wκ7 h8 F) ⟨rfl, rfl, rfl, trivial⟩
        · replace F := F.2 c9
          refine y_aln dX9_makePlan_116 rfl ?_
          refine gf_X9_9 Wκ7 dX9_makePlan_117 rfl h8 ?_
          refine y_iln dX9_makePlan_120 rfl ?_
          replace F := F (ty_soAtlas Wκ7 h8)
          refine k_X9_290 Wκ7 dX9_makePlan_121 rfl (Nat.le_of_ble_eq_true rfl) (Nat.le_of_ble_eq_true rfl) (Or.inl (ty_soAtlas Wκ7 h8)) F (fun r10 κ9 Wκ9 Mκ9 F => ?_) (fun _ _ h9 => False.elim h9)
          replace F := F Wκ9 Mκ9
          refine y_ic dX9_makePlan_124 zi_1 ?_
          refine y_iin (r10 = (1 : Int32)) dX9_makePlan_125 (t := 136) rfl rfl (fun c9 => ?_) (fun c9 => ?_)
          · replace F := F.1 c9
            refine y_aln dX9_makePlan_136 rfl ?_
            refine y_iln dX9_makePlan_137 rfl ?_
            have h14 := (ztm Wκ7 Mκ9 h8)
            replace F := F h14
            refine k_X9_296 Wκ9 dX9_makePlan_138 rfl (Nat.le_of_ble_eq_true rfl) (Nat.le_of_ble_eq_true rfl) (Or.inl h14) F (fun r13 κ12 Wκ12 Mκ12 F => ?_) (fun _ _ h9 => False.elim h9)
            replace F := F Wκ12 Mκ12
            have h16 := (ztm Wκ9 Mκ12 h14)
            exact y_k (t_So_makePlan_141 (fun a0' a1' τ w9 f09 hb => by obtain ⟨k, hk, hI⟩ := hb; exact ih k hk a0' a1' τ w9 f09 hI) Wκ12 h16 F) ⟨rfl, rfl, trivial⟩
          · replace F := F.2 c9
            have h17 := (ztm Wκ7 Mκ9 h8)
            exact y_k (t_So_makePlan_128 (fun a0' a1' τ w9 f09 hb => by obtain ⟨k, hk, hI⟩ := hb; exact ih k hk a0' a1' τ w9 f09 hI) Wκ9 h17 F) ⟨rfl, rfl, rfl, trivial⟩
  exact key m0 a0 a1 κ W Ta0 hI0

def w_So_makePlan_0 (C : zC) (n0 : Nat) (Q : Int32 → zS → Prop)  (a0 : Nat) (κ : zS) : Prop :=
  ((zI κ atRings (zR κ soAtlas a0)) ≤ (0 : Int32) →
    ∀ _ : zT κ (zR κ soWeb a0) = 14,
    ∀ _ : zT κ (zR κ soAtlas a0) = 3,
    zRun C 2 mWe_weave [.ref (zR κ soWeb a0), .ref (zR κ soAtlas a0), .int (0 : Int32)] κ (oV (fun κ1 =>
      ∀ _ : zW C n0 κ1,
      ∀ _ : zM (zn κ) κ κ1,
      ∀ _ : zT κ1 (zR κ1 soWeb a0) = 14,
      zRun C 2 mWe_knot [.ref (zR κ1 soWeb a0)] κ1 (oV (fun κ5 =>
        ∀ _ : zW C n0 κ5,
        ∀ _ : zM (zn κ1) κ1 κ5,
        ∀ _ : zT κ5 (zR κ5 soWorths a0) = 25,
        zRun C 3 mSo_fresh [.ref (zR κ5 soWorths a0), .int (zI κ5 weTotal (zR κ5 soWeb a0))] κ5 (oR 25 (fun r10 κ9 =>
          ∀ _ : zW C n0 κ9,
          ∀ _ : zM (zn κ5) κ5 κ9,
          ∀ _ : zT κ9 r10 = 25,
          zO κ9 r10 = (0, 0) ∧
          ∀ κ12, κ12 = uo κ9 soWorths a0 r10 →
          ∀ _ : zW C n0 κ12,
          ((zI κ12 weTotal (zR κ12 soWeb a0)) ≤ (Int32.ofNat (zN κ12 (zR κ12 soTaken a0))) →
            w_So_makePlan_76 C n0 Q  a0 (0 : Int32) κ12) ∧
          (¬ (zI κ12 weTotal (zR κ12 soWeb a0)) ≤ (Int32.ofNat (zN κ12 (zR κ12 soTaken a0))) →
            nsz (1000 : Int32) ∧
            ∀ κ16, κ16 = na κ12 20 ((1000 : Int32)).toNatClampNeg →
            ∀ _ : zW C n0 κ16,
            zO κ16 (zn κ12) = (0, 0) ∧
            ∀ κ19, κ19 = uo κ16 soTaken a0 (zn κ12) →
            ∀ _ : zW C n0 κ19,
            w_So_makePlan_76 C n0 Q  a0 (0 : Int32) κ19)) noX)) noX)) noX)) ∧
  (¬ (zI κ atRings (zR κ soAtlas a0)) ≤ (0 : Int32) →
    Q (-2 : Int32) κ)
theorem t_So_makePlan_0 {C : zC} {n0 : Nat} {Q : Int32 → zS → Prop}   {a0 : Nat} {κ : zS} (W : zW C n0 κ) (Ta0 : zT κ a0 = 12) (F : w_So_makePlan_0 C n0 Q  a0 κ) : zG C n0 8 mSo_makePlan 0 [some (.ref a0), none, none, none] [] κ (oI Q noX) := by
  unfold w_So_makePlan_0 at F
  refine y_aln dX9_makePlan_0 rfl ?_
  refine gf_X9_9 W dX9_makePlan_1 rfl Ta0 ?_
  refine gf_X9_284 dX9_makePlan_4 rfl (Or.inl (ty_soAtlas W Ta0)) ?_
  refine y_i ((zI κ atRings (zR κ soAtlas a0)) ≤ (0 : Int32)) dX9_makePlan_7 (t := 13) rfl rfl (fun c9 => ?_) (fun c9 => ?_)
  · replace F := F.1 c9
    refine y_aln dX9_makePlan_13 rfl ?_
    refine gf_X9_25 W dX9_makePlan_14 rfl Ta0 ?_
    refine y_aln dX9_makePlan_17 rfl ?_
    refine gf_X9_9 W dX9_makePlan_18 rfl Ta0 ?_
    refine y_ic dX9_makePlan_21 zi_0 ?_
    replace F := F (ty_soWeb W Ta0)
    replace F := F (ty_soAtlas W Ta0)
    refine k_X9_88 W dX9_makePlan_22 rfl (Nat.le_of_ble_eq_true rfl) (Nat.le_of_ble_eq_true rfl) (Or.inl (ty_soWeb W Ta0)) F (fun  κ1 Wκ1 Mκ1 F => ?_) (fun _ _ h9 => False.elim h9)
    replace F := F Wκ1 Mκ1
    refine y_aln dX9_makePlan_25 rfl ?_
    have h4 := (ztm W Mκ1 Ta0)
    refine gf_X9_25 Wκ1 dX9_makePlan_26 rfl h4 ?_
    replace F := F (ty_soWeb Wκ1 h4)
    refine k_X9_94 Wκ1 dX9_makePlan_29 rfl (Nat.le_of_ble_eq_true rfl) (Nat.le_of_ble_eq_true rfl) (Or.inl (ty_soWeb Wκ1 h4)) F (fun  κ5 Wκ5 Mκ5 F => ?_) (fun _ _ h9 => False.elim h9)
    replace F := F Wκ5 Mκ5
    refine y_aln dX9_makePlan_32 rfl ?_
    refine y_aln dX9_makePlan_33 rfl ?_
    have h8 := (ztm Wκ1 Mκ5 h4)
    refine gf_X9_32 Wκ5 dX9_makePlan_34 rfl h8 ?_
    refine y_aln dX9_makePlan_37 rfl ?_
    refine gf_X9_25 Wκ5 dX9_makePlan_38 rfl h8 ?_
    refine gf_X9_115 dX9_makePlan_41 rfl (Or.inl (ty_soWeb Wκ5 h8)) ?_
    replace F := F (ty_soWorths Wκ5 h8)
    refine k_X9_118 Wκ5 dX9_makePlan_44 rfl (Nat.le_of_ble_eq_true rfl) (Nat.le_of_ble_eq_true rfl)  F (fun r10 κ9 Wκ9 Mκ9 g11 F => ?_) (fun _ _ h9 => False.elim h9)
    replace F := F Wκ9 Mκ9 g11
    have b13 := F.1
    replace F := F.2
    have h14 := (ztm Wκ5 Mκ9 h8)
    refine pf_X9_32 Wκ9 dX9_makePlan_47 rfl (Or.inl h14) g11 (fun κ12 eκ12 => ?_)
    replace F := F κ12 eκ12
    have Wκ12 : zW C n0 κ12 := zW_uo Wκ9 eκ12 (fun t ht => by cases ht; exact g11) b13
    have Mκ12 : zM (zn κ9) κ9 κ12 := by rw [eκ12]; exact zM.of rfl rfl rfl
    replace F := F Wκ12
    refine y_aln dX9_makePlan_50 rfl ?_
    have h15 := (ztm Wκ9 Mκ12 h14)
    refine gf_X9_72 Wκ12 dX9_makePlan_51 rfl h15 ?_
    refine y_alen (t := 0) dX9_makePlan_54 (ty_soTaken Wκ12 h15) (by decide) ?_
    refine y_aln dX9_makePlan_55 rfl ?_
    refine gf_X9_25 Wκ12 dX9_makePlan_56 rfl h15 ?_
    refine gf_X9_115 dX9_makePlan_59 rfl (Or.inl (ty_soWeb Wκ12 h15)) ?_
    refine y_ii ((zI κ12 weTotal (zR κ12 soWeb a0)) ≤ (Int32.ofNat (zN κ12 (zR κ12 soTaken a0)))) dX9_makePlan_62 (t := 74) rfl rfl (fun c9 => ?_) (fun c9 => ?_)
    · replace F := F.1 c9
      refine y_ic dX9_makePlan_74 zi_0 ?_
      refine y_isn dX9_makePlan_75 (Nat.le_of_ble_eq_true rfl) rfl ?_
      show zG _ _ _ _ _ [some (.ref a0), some (.int (0 : Int32)), none, none] _ _ _
      exact y_k (t_So_makePlan_76  Wκ12 h15 F) ⟨rfl, rfl, trivial⟩
    · replace F := F.2 c9
      refine y_aln dX9_makePlan_65 rfl ?_
      refine y_si dX9_makePlan_66 zs_1000 ?_
      have b17 := F.1
      refine y_newa (t := 0) Wκ12 dX9_makePlan_69 (by decide) b17 (fun κ16 eκ16 => ?_)
      replace F := F.2 κ16 eκ16
      have Wκ16 : zW C n0 κ16 := zW_na Wκ12 eκ16 (by decide) (by decide) b17.2
      have Mκ16 : zM (zn κ12) κ12 κ16 := zM_na (Wκ12.lo (Nat.le_trans Wκ12.1.2.1 Wκ12.1.2.2) (Nat.le_refl _)) eκ16
      replace F := F Wκ16
      have g18 : zT κ16 (zn κ12) = 20 := by rw [eκ16]; exact if_pos rfl
      have b20 := F.1
      replace F := F.2
      have h21 := (ztm Wκ12 Mκ16 h15)
      refine pf_X9_72 Wκ16 dX9_makePlan_71 rfl (Or.inl h21) g18 (fun κ19 eκ19 => ?_)
      replace F := F κ19 eκ19
      have Wκ19 : zW C n0 κ19 := zW_uo Wκ16 eκ19 (fun t ht => by cases ht; exact g18) b20
      have Mκ19 : zM (zn κ16) κ16 κ19 := by rw [eκ19]; exact zM.of rfl rfl rfl
      replace F := F Wκ19
      refine y_ic dX9_makePlan_74 zi_0 ?_
      refine y_isn dX9_makePlan_75 (Nat.le_of_ble_eq_true rfl) rfl ?_
      show zG _ _ _ _ _ [some (.ref a0), some (.int (0 : Int32)), none, none] _ _ _
      have h22 := (ztm Wκ16 Mκ19 h21)
      exact y_k (t_So_makePlan_76  Wκ19 h22 F) ⟨rfl, rfl, trivial⟩
  · replace F := F.2 c9
    refine y_bi1 dX9_makePlan_10 zb_m2 ?_
    exact y_ri W dX9_makePlan_12 rfl in_nar F

theorem So_makePlan_run {C : zC} {n0 : Nat} {Q : Int32 → zS → Prop} {a0 : Nat} {κ : zS} (W : zW C n0 κ) (Ta0 : zT κ a0 = 12) (F : w_So_makePlan_0 C (zn κ) Q a0 κ) : zRun C 8 mSo_makePlan [.ref a0] κ (oI Q noX) := z_run (m_ent _ 3) (t_So_makePlan_0 (W.lo (Nat.le_trans W.1.2.1 W.1.2.2) (Nat.le_refl _)) Ta0 F)

theorem dX10_init_0 : decode cX10_init 0 = .ok (.aload_n 0, 1) := by decide +kernel
theorem dX10_init_1 : decode cX10_init 1 = .ok (.invokespecial 3, 3) := by decide +kernel
theorem dX10_init_4 : decode cX10_init 4 = .ok (.aload_n 0, 1) := by decide +kernel
theorem dX10_init_5 : decode cX10_init 5 = .ok (.sipush 240, 3) := by decide +kernel
theorem dX10_init_8 : decode cX10_init 8 = .ok (.newarray .byte, 2) := by decide +kernel
theorem dX10_init_10 : decode cX10_init 10 = .ok (.putfield 9, 3) := by decide +kernel
theorem dX10_init_13 : decode cX10_init 13 = .ok (.aload_n 0, 1) := by decide +kernel
theorem dX10_init_14 : decode cX10_init 14 = .ok (.bipush 64, 2) := by decide +kernel
theorem dX10_init_16 : decode cX10_init 16 = .ok (.newarray .int, 2) := by decide +kernel
theorem dX10_init_18 : decode cX10_init 18 = .ok (.putfield 15, 3) := by decide +kernel
theorem dX10_init_21 : decode cX10_init 21 = .ok (.aload_n 0, 1) := by decide +kernel
theorem dX10_init_22 : decode cX10_init 22 = .ok (.bipush 64, 2) := by decide +kernel
theorem dX10_init_24 : decode cX10_init 24 = .ok (.newarray .int, 2) := by decide +kernel
theorem dX10_init_26 : decode cX10_init 26 = .ok (.putfield 19, 3) := by decide +kernel
theorem dX10_init_29 : decode cX10_init 29 = .ok (.aload_n 0, 1) := by decide +kernel
theorem dX10_init_30 : decode cX10_init 30 = .ok (.bipush 64, 2) := by decide +kernel
theorem dX10_init_32 : decode cX10_init 32 = .ok (.newarray .int, 2) := by decide +kernel
theorem dX10_init_34 : decode cX10_init 34 = .ok (.putfield 22, 3) := by decide +kernel
theorem dX10_init_37 : decode cX10_init 37 = .ok (.return_, 1) := by decide +kernel
def w_Ta_init_0 (C : zC) (n0 : Nat) (Q : zS → Prop)  (a0 : Nat) (κ : zS) : Prop :=
  nsz (240 : Int32) ∧
  ∀ κ1, κ1 = na κ 21 ((240 : Int32)).toNatClampNeg →
  ∀ _ : zW C n0 κ1,
  zO κ1 (zn κ) = (0, 0) ∧
  ∀ κ4, κ4 = uo κ1 taBytes a0 (zn κ) →
  ∀ _ : zW C n0 κ4,
  nsz (64 : Int32) ∧
  ∀ κ7, κ7 = na κ4 20 ((64 : Int32)).toNatClampNeg →
  ∀ _ : zW C n0 κ7,
  zO κ7 (zn κ4) = (0, 0) ∧
  ∀ κ10, κ10 = uo κ7 taKinds a0 (zn κ4) →
  ∀ _ : zW C n0 κ10,
  nsz (64 : Int32) ∧
  ∀ κ13, κ13 = na κ10 20 ((64 : Int32)).toNatClampNeg →
  ∀ _ : zW C n0 κ13,
  zO κ13 (zn κ10) = (0, 0) ∧
  ∀ κ16, κ16 = uo κ13 taPlaces a0 (zn κ10) →
  ∀ _ : zW C n0 κ16,
  nsz (64 : Int32) ∧
  ∀ κ19, κ19 = na κ16 20 ((64 : Int32)).toNatClampNeg →
  ∀ _ : zW C n0 κ19,
  zO κ19 (zn κ16) = (0, 0) ∧
  ∀ κ22, κ22 = uo κ19 taLengths a0 (zn κ16) →
  ∀ _ : zW C n0 κ22,
  Q κ22
theorem t_Ta_init_0 {C : zC} {n0 : Nat} {Q : zS → Prop}   {a0 : Nat} {κ : zS} (W : zW C n0 κ) (Ta0 : zT κ a0 = 53) (F : w_Ta_init_0 C n0 Q  a0 κ) : zG C n0 1 mTa_init 0 [some (.ref a0)] [] κ (oV Q noX) := by
  unfold w_Ta_init_0 at F
  refine y_aln dX10_init_0 rfl ?_
  refine y_oinit dX10_init_1 rfl zbi_X10_3 (Nat.le_of_ble_eq_true rfl) (Nat.le_of_ble_eq_true rfl) ?_
  refine y_aln dX10_init_4 rfl ?_
  refine y_si dX10_init_5 zs_240 ?_
  have b2 := F.1
  refine y_newa (t := 1) W dX10_init_8 (by decide) b2 (fun κ1 eκ1 => ?_)
  replace F := F.2 κ1 eκ1
  have Wκ1 : zW C n0 κ1 := zW_na W eκ1 (by decide) (by decide) b2.2
  have Mκ1 : zM (zn κ) κ κ1 := zM_na (W.lo (Nat.le_trans W.1.2.1 W.1.2.2) (Nat.le_refl _)) eκ1
  replace F := F Wκ1
  have g3 : zT κ1 (zn κ) = 21 := by rw [eκ1]; exact if_pos rfl
  have b5 := F.1
  replace F := F.2
  have h6 := (ztm W Mκ1 Ta0)
  refine pf_X10_9 Wκ1 dX10_init_10 rfl (Or.inr h6) g3 (fun κ4 eκ4 => ?_)
  replace F := F κ4 eκ4
  have Wκ4 : zW C n0 κ4 := zW_uo Wκ1 eκ4 (fun t ht => by cases ht; exact g3) b5
  have Mκ4 : zM (zn κ1) κ1 κ4 := by rw [eκ4]; exact zM.of rfl rfl rfl
  replace F := F Wκ4
  refine y_aln dX10_init_13 rfl ?_
  refine y_bi1 dX10_init_14 zb_64 ?_
  have b8 := F.1
  refine y_newa (t := 0) Wκ4 dX10_init_16 (by decide) b8 (fun κ7 eκ7 => ?_)
  replace F := F.2 κ7 eκ7
  have Wκ7 : zW C n0 κ7 := zW_na Wκ4 eκ7 (by decide) (by decide) b8.2
  have Mκ7 : zM (zn κ4) κ4 κ7 := zM_na (Wκ4.lo (Nat.le_trans Wκ4.1.2.1 Wκ4.1.2.2) (Nat.le_refl _)) eκ7
  replace F := F Wκ7
  have g9 : zT κ7 (zn κ4) = 20 := by rw [eκ7]; exact if_pos rfl
  have b11 := F.1
  replace F := F.2
  have h12 := (ztm Wκ4 Mκ7 (ztm Wκ1 Mκ4 h6))
  refine pf_X10_15 Wκ7 dX10_init_18 rfl (Or.inr h12) g9 (fun κ10 eκ10 => ?_)
  replace F := F κ10 eκ10
  have Wκ10 : zW C n0 κ10 := zW_uo Wκ7 eκ10 (fun t ht => by cases ht; exact g9) b11
  have Mκ10 : zM (zn κ7) κ7 κ10 := by rw [eκ10]; exact zM.of rfl rfl rfl
  replace F := F Wκ10
  refine y_aln dX10_init_21 rfl ?_
  refine y_bi1 dX10_init_22 zb_64 ?_
  have b14 := F.1
  refine y_newa (t := 0) Wκ10 dX10_init_24 (by decide) b14 (fun κ13 eκ13 => ?_)
  replace F := F.2 κ13 eκ13
  have Wκ13 : zW C n0 κ13 := zW_na Wκ10 eκ13 (by decide) (by decide) b14.2
  have Mκ13 : zM (zn κ10) κ10 κ13 := zM_na (Wκ10.lo (Nat.le_trans Wκ10.1.2.1 Wκ10.1.2.2) (Nat.le_refl _)) eκ13
  replace F := F Wκ13
  have g15 : zT κ13 (zn κ10) = 20 := by rw [eκ13]; exact if_pos rfl
  have b17 := F.1
  replace F := F.2
  have h18 := (ztm Wκ10 Mκ13 (ztm Wκ7 Mκ10 h12))
  refine pf_X10_19 Wκ13 dX10_init_26 rfl (Or.inr h18) g15 (fun κ16 eκ16 => ?_)
  replace F := F κ16 eκ16
  have Wκ16 : zW C n0 κ16 := zW_uo Wκ13 eκ16 (fun t ht => by cases ht; exact g15) b17
  have Mκ16 : zM (zn κ13) κ13 κ16 := by rw [eκ16]; exact zM.of rfl rfl rfl
  replace F := F Wκ16
  refine y_aln dX10_init_29 rfl ?_
  refine y_bi1 dX10_init_30 zb_64 ?_
  have b20 := F.1
  refine y_newa (t := 0) Wκ16 dX10_init_32 (by decide) b20 (fun κ19 eκ19 => ?_)
  replace F := F.2 κ19 eκ19
  have Wκ19 : zW C n0 κ19 := zW_na Wκ16 eκ19 (by decide) (by decide) b20.2
  have Mκ19 : zM (zn κ16) κ16 κ19 := zM_na (Wκ16.lo (Nat.le_trans Wκ16.1.2.1 Wκ16.1.2.2) (Nat.le_refl _)) eκ19
  replace F := F Wκ19
  have g21 : zT κ19 (zn κ16) = 20 := by rw [eκ19]; exact if_pos rfl
  have b23 := F.1
  replace F := F.2
  have h24 := (ztm Wκ16 Mκ19 (ztm Wκ13 Mκ16 h18))
  refine pf_X10_22 Wκ19 dX10_init_34 rfl (Or.inr h24) g21 (fun κ22 eκ22 => ?_)
  replace F := F κ22 eκ22
  have Wκ22 : zW C n0 κ22 := zW_uo Wκ19 eκ22 (fun t ht => by cases ht; exact g21) b23
  have Mκ22 : zM (zn κ19) κ19 κ22 := by rw [eκ22]; exact zM.of rfl rfl rfl
  replace F := F Wκ22
  exact y_rv Wκ22 dX10_init_37 rfl F

theorem Ta_init_run {C : zC} {n0 : Nat} {Q : zS → Prop} {a0 : Nat} {κ : zS} (W : zW C n0 κ) (Ta0 : zT κ a0 = 53) (F : w_Ta_init_0 C (zn κ) Q a0 κ) : zRun C 1 mTa_init [.ref a0] κ (oV Q noX) := z_run (m_ent _ 0) (t_Ta_init_0 (W.lo (Nat.le_trans W.1.2.1 W.1.2.2) (Nat.le_refl _)) Ta0 F)

theorem dJ7_copyOf_9075b_0 : decode cJ7_copyOf_9075b 0 = .ok (.iload_n 1, 1) := by decide +kernel
theorem dJ7_copyOf_9075b_1 : decode cJ7_copyOf_9075b 1 = .ok (.aload_n 0, 1) := by decide +kernel
theorem dJ7_copyOf_9075b_2 : decode cJ7_copyOf_9075b 2 = .ok (.arraylength, 1) := by decide +kernel
theorem dJ7_copyOf_9075b_3 : decode cJ7_copyOf_9075b 3 = .ok (.if_icmp .ne 11, 3) := by decide +kernel
theorem dJ7_copyOf_9075b_6 : decode cJ7_copyOf_9075b 6 = .ok (.aload_n 0, 1) := by decide +kernel
theorem dJ7_copyOf_9075b_7 : decode cJ7_copyOf_9075b 7 = .ok (.invokevirtual 310, 3) := by decide +kernel
theorem dJ7_copyOf_9075b_14 : decode cJ7_copyOf_9075b 14 = .ok (.iload_n 1, 1) := by decide +kernel
theorem dJ7_copyOf_9075b_15 : decode cJ7_copyOf_9075b 15 = .ok (.newarray .byte, 2) := by decide +kernel
theorem dJ7_copyOf_9075b_17 : decode cJ7_copyOf_9075b 17 = .ok (.astore_n 2, 1) := by decide +kernel
theorem dJ7_copyOf_9075b_18 : decode cJ7_copyOf_9075b 18 = .ok (.aload_n 0, 1) := by decide +kernel
theorem dJ7_copyOf_9075b_19 : decode cJ7_copyOf_9075b 19 = .ok (.iconst 0, 1) := by decide +kernel
theorem dJ7_copyOf_9075b_20 : decode cJ7_copyOf_9075b 20 = .ok (.aload_n 2, 1) := by decide +kernel
theorem dJ7_copyOf_9075b_21 : decode cJ7_copyOf_9075b 21 = .ok (.iconst 0, 1) := by decide +kernel
theorem dJ7_copyOf_9075b_22 : decode cJ7_copyOf_9075b 22 = .ok (.aload_n 0, 1) := by decide +kernel
theorem dJ7_copyOf_9075b_23 : decode cJ7_copyOf_9075b 23 = .ok (.arraylength, 1) := by decide +kernel
theorem dJ7_copyOf_9075b_24 : decode cJ7_copyOf_9075b 24 = .ok (.iload_n 1, 1) := by decide +kernel
theorem dJ7_copyOf_9075b_25 : decode cJ7_copyOf_9075b 25 = .ok (.invokestatic 304, 3) := by decide +kernel
theorem dJ7_copyOf_9075b_28 : decode cJ7_copyOf_9075b 28 = .ok (.invokestatic 150, 3) := by decide +kernel
theorem dJ7_copyOf_9075b_31 : decode cJ7_copyOf_9075b 31 = .ok (.aload_n 2, 1) := by decide +kernel
theorem dJ7_copyOf_9075b_32 : decode cJ7_copyOf_9075b 32 = .ok (.areturn, 1) := by decide +kernel
def w_Ar_copyOfB_0 (C : zC) (n0 : Nat) (Q : Nat → zS → Prop)  (a0 : Nat) (a1 : Int32) (κ : zS) : Prop :=
  (¬ a1 = (Int32.ofNat (zN κ a0)) →
    nsz a1 ∧
    ∀ κ1, κ1 = na κ 21 (a1).toNatClampNeg →
    ∀ _ : zW C n0 κ1,
    ∀ v2_4 : Nat, v2_4 = (zn κ) →
    cpo κ1 a0 v2_4 (0 : Int32) (0 : Int32) (if a1 < (Int32.ofNat (zN κ1 a0)) then a1 else (Int32.ofNat (zN κ1 a0))) ∧
    ∀ κ6, κ6 = uc κ1 a0 v2_4 ((0 : Int32)).toNatClampNeg ((0 : Int32)).toNatClampNeg ((if a1 < (Int32.ofNat (zN κ1 a0)) then a1 else (Int32.ofNat (zN κ1 a0)))).toNatClampNeg →
    ∀ _ : zW C n0 κ6,
    Q v2_4 κ6) ∧
  (a1 = (Int32.ofNat (zN κ a0)) →
    False)
theorem t_Ar_copyOfB_0 {C : zC} {n0 : Nat} {Q : Nat → zS → Prop}   {a0 : Nat} {a1 : Int32} {κ : zS} (W : zW C n0 κ) (Ta0 : zT κ a0 = 21) (F : w_Ar_copyOfB_0 C n0 Q  a0 a1 κ) : zG C n0 1 mAr_copyOfB 0 [some (.ref a0), some (.int a1), none] [] κ (oR 21 Q noX) := by
  unfold w_Ar_copyOfB_0 at F
  refine y_iln dJ7_copyOf_9075b_0 rfl ?_
  refine y_aln dJ7_copyOf_9075b_1 rfl ?_
  refine y_alen (t := 1) dJ7_copyOf_9075b_2 Ta0 (by decide) ?_
  refine y_iin (a1 = (Int32.ofNat (zN κ a0))) dJ7_copyOf_9075b_3 (t := 14) rfl rfl (fun c9 => ?_) (fun c9 => ?_)
  · replace F := F.1 c9
    refine y_iln dJ7_copyOf_9075b_14 rfl ?_
    have b2 := F.1
    refine y_newa (t := 1) W dJ7_copyOf_9075b_15 (by decide) b2 (fun κ1 eκ1 => ?_)
    replace F := F.2 κ1 eκ1
    have Wκ1 : zW C n0 κ1 := zW_na W eκ1 (by decide) (by decide) b2.2
    have Mκ1 : zM (zn κ) κ κ1 := zM_na (W.lo (Nat.le_trans W.1.2.1 W.1.2.2) (Nat.le_refl _)) eκ1
    replace F := F Wκ1
    have g3 : zT κ1 (zn κ) = 21 := by rw [eκ1]; exact if_pos rfl
    refine y_asnb dJ7_copyOf_9075b_17 (Nat.le_of_ble_eq_true rfl) (fun v2_4 ev2_4 => ?_)
    replace F := F v2_4 ev2_4
    have Tv2_4 : zT κ1 v2_4 = 21 := by rw [ev2_4]; exact g3
    show zG _ _ _ _ _ [some (.ref a0), some (.int a1), some (.ref v2_4)] _ _ _
    refine y_aln dJ7_copyOf_9075b_18 rfl ?_
    refine y_ic dJ7_copyOf_9075b_19 zi_0 ?_
    refine y_aln dJ7_copyOf_9075b_20 rfl ?_
    refine y_ic dJ7_copyOf_9075b_21 zi_0 ?_
    refine y_aln dJ7_copyOf_9075b_22 rfl ?_
    have h5 := (ztm W Mκ1 Ta0)
    refine y_alen (t := 1) dJ7_copyOf_9075b_23 h5 (by decide) ?_
    refine y_iln dJ7_copyOf_9075b_24 rfl ?_
    refine y_min dJ7_copyOf_9075b_25 rfl zbi_J7_304 (Nat.le_of_ble_eq_true rfl) (Nat.le_of_ble_eq_true rfl) ?_
    refine y_cpy (t := 1) Wκ1 dJ7_copyOf_9075b_28 rfl zbi_J7_150 h5 Tv2_4 (by decide) (Nat.le_of_ble_eq_true rfl) (Nat.le_of_ble_eq_true rfl) F.1 (fun κ6 eκ6 => ?_)
    replace F := F.2 κ6 eκ6
    have Wκ6 : zW C n0 κ6 := zW_uc Wκ1 eκ6 (h5.trans Tv2_4.symm)
    have Mκ6 : zM (zn κ1) κ1 κ6 := by rw [eκ6]; exact zM.of rfl rfl rfl
    replace F := F Wκ6
    refine y_aln dJ7_copyOf_9075b_31 rfl ?_
    have h7 := (ztm Wκ1 Mκ6 Tv2_4)
    exact y_ra Wκ6 dJ7_copyOf_9075b_32 rfl h7 F
  · replace F := F.2 c9
    refine y_aln dJ7_copyOf_9075b_6 rfl ?_
    exact F.elim

theorem Ar_copyOfB_run {C : zC} {n0 : Nat} {Q : Nat → zS → Prop} {a0 : Nat} {a1 : Int32} {κ : zS} (W : zW C n0 κ) (Ta0 : zT κ a0 = 21) (F : w_Ar_copyOfB_0 C (zn κ) Q a0 a1 κ) : zRun C 1 mAr_copyOfB [.ref a0, .int a1] κ (oR 21 Q noX) := z_run (m_ent _ 1) (t_Ar_copyOfB_0 (W.lo (Nat.le_trans W.1.2.1 W.1.2.2) (Nat.le_refl _)) Ta0 F)

theorem dX10_widen_0 : decode cX10_widen 0 = .ok (.iload_n 1, 1) := by decide +kernel
theorem dX10_widen_1 : decode cX10_widen 1 = .ok (.aload_n 0, 1) := by decide +kernel
theorem dX10_widen_2 : decode cX10_widen 2 = .ok (.getfield 9, 3) := by decide +kernel
theorem dX10_widen_5 : decode cX10_widen 5 = .ok (.arraylength, 1) := by decide +kernel
theorem dX10_widen_6 : decode cX10_widen 6 = .ok (.if_icmp .le 17, 3) := by decide +kernel
theorem dX10_widen_9 : decode cX10_widen 9 = .ok (.aload_n 0, 1) := by decide +kernel
theorem dX10_widen_10 : decode cX10_widen 10 = .ok (.aload_n 0, 1) := by decide +kernel
theorem dX10_widen_11 : decode cX10_widen 11 = .ok (.getfield 9, 3) := by decide +kernel
theorem dX10_widen_14 : decode cX10_widen 14 = .ok (.iload_n 1, 1) := by decide +kernel
theorem dX10_widen_15 : decode cX10_widen 15 = .ok (.iconst 2, 1) := by decide +kernel
theorem dX10_widen_16 : decode cX10_widen 16 = .ok (.imul, 1) := by decide +kernel
theorem dX10_widen_17 : decode cX10_widen 17 = .ok (.invokestatic 25, 3) := by decide +kernel
theorem dX10_widen_20 : decode cX10_widen 20 = .ok (.putfield 9, 3) := by decide +kernel
theorem dX10_widen_23 : decode cX10_widen 23 = .ok (.return_, 1) := by decide +kernel
def w_Ta_widen_0 (C : zC) (n0 : Nat) (Q : zS → Prop)  (a0 : Nat) (a1 : Int32) (κ : zS) : Prop :=
  (a1 ≤ (Int32.ofNat (zN κ (zR κ taBytes a0))) →
    Q κ) ∧
  (¬ a1 ≤ (Int32.ofNat (zN κ (zR κ taBytes a0))) →
    ∀ _ : zT κ (zR κ taBytes a0) = 21,
    zRun C 1 mAr_copyOfB [.ref (zR κ taBytes a0), .int (a1 * (2 : Int32))] κ (oR 21 (fun r2 κ1 =>
      ∀ _ : zW C n0 κ1,
      ∀ _ : zM (zn κ) κ κ1,
      ∀ _ : zT κ1 r2 = 21,
      zO κ1 r2 = (0, 0) ∧
      ∀ κ4, κ4 = uo κ1 taBytes a0 r2 →
      ∀ _ : zW C n0 κ4,
      Q κ4) noX))
theorem t_Ta_widen_0 {C : zC} {n0 : Nat} {Q : zS → Prop}   {a0 : Nat} {a1 : Int32} {κ : zS} (W : zW C n0 κ) (Ta0 : zT κ a0 = 13) (F : w_Ta_widen_0 C n0 Q  a0 a1 κ) : zG C n0 2 mTa_widen 0 [some (.ref a0), some (.int a1)] [] κ (oV Q noX) := by
  unfold w_Ta_widen_0 at F
  refine y_iln dX10_widen_0 rfl ?_
  refine y_aln dX10_widen_1 rfl ?_
  refine gf_X10_9 W dX10_widen_2 rfl Ta0 ?_
  refine y_alen (t := 1) dX10_widen_5 (ty_taBytes W Ta0) (by decide) ?_
  refine y_ii (a1 ≤ (Int32.ofNat (zN κ (zR κ taBytes a0)))) dX10_widen_6 (t := 23) rfl rfl (fun c9 => ?_) (fun c9 => ?_)
  · replace F := F.1 c9
    exact y_rv W dX10_widen_23 rfl F
  · replace F := F.2 c9
    refine y_aln dX10_widen_9 rfl ?_
    refine y_aln dX10_widen_10 rfl ?_
    refine gf_X10_9 W dX10_widen_11 rfl Ta0 ?_
    refine y_iln dX10_widen_14 rfl ?_
    refine y_ic dX10_widen_15 zi_2 ?_
    refine y_imul dX10_widen_16 ?_
    replace F := F (ty_taBytes W Ta0)
    refine k_X10_25 W dX10_widen_17 rfl (Nat.le_of_ble_eq_true rfl) (Nat.le_of_ble_eq_true rfl)  F (fun r2 κ1 Wκ1 Mκ1 g3 F => ?_) (fun _ _ h9 => False.elim h9)
    replace F := F Wκ1 Mκ1 g3
    have b5 := F.1
    replace F := F.2
    have h6 := (ztm W Mκ1 Ta0)
    refine pf_X10_9 Wκ1 dX10_widen_20 rfl (Or.inl h6) g3 (fun κ4 eκ4 => ?_)
    replace F := F κ4 eκ4
    have Wκ4 : zW C n0 κ4 := zW_uo Wκ1 eκ4 (fun t ht => by cases ht; exact g3) b5
    have Mκ4 : zM (zn κ1) κ1 κ4 := by rw [eκ4]; exact zM.of rfl rfl rfl
    replace F := F Wκ4
    exact y_rv Wκ4 dX10_widen_23 rfl F

theorem Ta_widen_run {C : zC} {n0 : Nat} {Q : zS → Prop} {a0 : Nat} {a1 : Int32} {κ : zS} (W : zW C n0 κ) (Ta0 : zT κ a0 = 13) (F : w_Ta_widen_0 C (zn κ) Q a0 a1 κ) : zRun C 2 mTa_widen [.ref a0, .int a1] κ (oV Q noX) := z_run (m_ent _ 0) (t_Ta_widen_0 (W.lo (Nat.le_trans W.1.2.1 W.1.2.2) (Nat.le_refl _)) Ta0 F)

theorem dX10_addWord_0 : decode cX10_addWord 0 = .ok (.bipush 24, 2) := by decide +kernel
theorem dX10_addWord_2 : decode cX10_addWord 2 = .ok (.istore_n 2, 1) := by decide +kernel
theorem dX10_addWord_3 : decode cX10_addWord 3 = .ok (.iload_n 2, 1) := by decide +kernel
theorem dX10_addWord_4 : decode cX10_addWord 4 = .ok (.ifCond .lt 44, 3) := by decide +kernel
theorem dX10_addWord_7 : decode cX10_addWord 7 = .ok (.aload_n 0, 1) := by decide +kernel
theorem dX10_addWord_8 : decode cX10_addWord 8 = .ok (.getfield 31, 3) := by decide +kernel
theorem dX10_addWord_11 : decode cX10_addWord 11 = .ok (.aload_n 0, 1) := by decide +kernel
theorem dX10_addWord_12 : decode cX10_addWord 12 = .ok (.getfield 9, 3) := by decide +kernel
theorem dX10_addWord_15 : decode cX10_addWord 15 = .ok (.arraylength, 1) := by decide +kernel
theorem dX10_addWord_16 : decode cX10_addWord 16 = .ok (.if_icmp .ge 32, 3) := by decide +kernel
theorem dX10_addWord_19 : decode cX10_addWord 19 = .ok (.aload_n 0, 1) := by decide +kernel
theorem dX10_addWord_20 : decode cX10_addWord 20 = .ok (.getfield 9, 3) := by decide +kernel
theorem dX10_addWord_23 : decode cX10_addWord 23 = .ok (.aload_n 0, 1) := by decide +kernel
theorem dX10_addWord_24 : decode cX10_addWord 24 = .ok (.getfield 31, 3) := by decide +kernel
theorem dX10_addWord_27 : decode cX10_addWord 27 = .ok (.iload_n 1, 1) := by decide +kernel
theorem dX10_addWord_28 : decode cX10_addWord 28 = .ok (.iload_n 2, 1) := by decide +kernel
theorem dX10_addWord_29 : decode cX10_addWord 29 = .ok (.ishr, 1) := by decide +kernel
theorem dX10_addWord_30 : decode cX10_addWord 30 = .ok (.i2b, 1) := by decide +kernel
theorem dX10_addWord_31 : decode cX10_addWord 31 = .ok (.bastore, 1) := by decide +kernel
theorem dX10_addWord_32 : decode cX10_addWord 32 = .ok (.aload_n 0, 1) := by decide +kernel
theorem dX10_addWord_33 : decode cX10_addWord 33 = .ok (.dup, 1) := by decide +kernel
theorem dX10_addWord_34 : decode cX10_addWord 34 = .ok (.getfield 31, 3) := by decide +kernel
theorem dX10_addWord_37 : decode cX10_addWord 37 = .ok (.iconst 1, 1) := by decide +kernel
theorem dX10_addWord_38 : decode cX10_addWord 38 = .ok (.iadd, 1) := by decide +kernel
theorem dX10_addWord_39 : decode cX10_addWord 39 = .ok (.putfield 31, 3) := by decide +kernel
theorem dX10_addWord_42 : decode cX10_addWord 42 = .ok (.iinc 2 (-8), 3) := by decide +kernel
theorem dX10_addWord_45 : decode cX10_addWord 45 = .ok (.goto (-42), 3) := by decide +kernel
theorem dX10_addWord_48 : decode cX10_addWord 48 = .ok (.return_, 1) := by decide +kernel
def w_Ta_addWord_3 (C : zC) (n0 : Nat) (Q : zS → Prop)  (a0 : Nat) (a1 : Int32) (a2 : Int32) (κ : zS) : Prop :=
  ∃ I : Nat → Nat → Int32 → Int32 → zS → Prop, (∃ n, I n a0 a1 a2 κ) ∧ ∀ n a0 a1 a2 κ, zW C n0 κ → zT κ a0 = 13 → I n a0 a1 a2 κ →
    (a2 < (0 : Int32) →
      Q κ) ∧
    (¬ a2 < (0 : Int32) →
      ((Int32.ofNat (zN κ (zR κ taBytes a0))) ≤ (zI κ taLength a0) →
        Q κ) ∧
      (¬ (Int32.ofNat (zN κ (zR κ taBytes a0))) ≤ (zI κ taLength a0) →
        inb (zI κ taLength a0) (zN κ (zR κ taBytes a0)) ∧
        ∀ κ1, κ1 = ua κ (zR κ taBytes a0) ((zI κ taLength a0)).toNatClampNeg (vp_nar .byte (Int8.toInt32 (Int32.toInt8 (a1 >>> (a2 &&& 31))))) →
        ∀ _ : zW C n0 κ1,
        ∀ κ3, κ3 = ui κ1 taLength a0 ((zI κ1 taLength a0) + (1 : Int32)) →
        ∀ _ : zW C n0 κ3,
        ∀ v2_4 : Int32, v2_4 = a2 + (-8 : Int32) →
        ∃ k < n, I k a0 a1 v2_4 κ3))
theorem t_Ta_addWord_3 {C : zC} {n0 : Nat} {Q : zS → Prop}   {a0 : Nat} {a1 : Int32} {a2 : Int32} {κ : zS} (W : zW C n0 κ) (Ta0 : zT κ a0 = 13) (F : w_Ta_addWord_3 C n0 Q  a0 a1 a2 κ) : zG C n0 0 mTa_addWord 3 [some (.ref a0), some (.int a1), some (.int a2)] [] κ (oV Q noX) := by
  obtain ⟨I, ⟨m0, hI0⟩, F0⟩ := F
  have key : ∀ n a0 a1 a2 κ, zW C n0 κ → zT κ a0 = 13 → I n a0 a1 a2 κ → zG C n0 0 mTa_addWord 3 [some (.ref a0), some (.int a1), some (.int a2)] [] κ (oV Q noX) := by
    intro n
    induction n using Nat.strongRecOn with
    | _ n ih =>
      intro a0 a1 a2 κ W Ta0 hI
      have F := F0 n a0 a1 a2 κ W Ta0 hI
      clear hI hI0
      refine y_iln dX10_addWord_3 rfl ?_
      refine y_i (a2 < (0 : Int32)) dX10_addWord_4 (t := 48) rfl rfl (fun c9 => ?_) (fun c9 => ?_)
      · replace F := F.1 c9
        exact y_rv W dX10_addWord_48 rfl F
      · replace F := F.2 c9
        refine y_aln dX10_addWord_7 rfl ?_
        refine gf_X10_31 dX10_addWord_8 rfl (Or.inl Ta0) ?_
        refine y_aln dX10_addWord_11 rfl ?_
        refine gf_X10_9 W dX10_addWord_12 rfl Ta0 ?_
        refine y_alen (t := 1) dX10_addWord_15 (ty_taBytes W Ta0) (by decide) ?_
        refine y_ii ((Int32.ofNat (zN κ (zR κ taBytes a0))) ≤ (zI κ taLength a0)) dX10_addWord_16 (t := 48) rfl rfl (fun c9 => ?_) (fun c9 => ?_)
        · replace F := F.1 c9
          exact y_rv W dX10_addWord_48 rfl F
        · replace F := F.2 c9
          refine y_aln dX10_addWord_19 rfl ?_
          refine gf_X10_9 W dX10_addWord_20 rfl Ta0 ?_
          refine y_aln dX10_addWord_23 rfl ?_
          refine gf_X10_31 dX10_addWord_24 rfl (Or.inl Ta0) ?_
          refine y_iln dX10_addWord_27 rfl ?_
          refine y_iln dX10_addWord_28 rfl ?_
          refine y_ishr dX10_addWord_29 ?_
          refine y_i2b dX10_addWord_30 ?_
          refine y_bst W dX10_addWord_31 (ty_taBytes W Ta0) F.1 (fun κ1 eκ1 => ?_)
          replace F := F.2 κ1 eκ1
          have Wκ1 : zW C n0 κ1 := zW_ua W eκ1 (fun h => absurd (h.symm.trans (ty_taBytes W Ta0)) (by decide)) (fun _ => by_nr)
          have Mκ1 : zM (zn κ) κ κ1 := by rw [eκ1]; exact zM.of rfl rfl rfl
          replace F := F Wκ1
          refine y_aln dX10_addWord_32 rfl ?_
          refine y_dup dX10_addWord_33 rfl ?_
          have h2 := (ztm W Mκ1 Ta0)
          refine gf_X10_31 dX10_addWord_34 rfl (Or.inl h2) ?_
          refine y_ic dX10_addWord_37 zi_1 ?_
          refine y_iadd dX10_addWord_38 ?_
          refine pf_X10_31 Wκ1 dX10_addWord_39 rfl (Or.inl h2) (fun κ3 eκ3 => ?_)
          replace F := F κ3 eκ3
          have Wκ3 : zW C n0 κ3 := zW_ui Wκ1 eκ3 (fun h => absurd h (by decide))
          have Mκ3 : zM (zn κ1) κ1 κ3 := by rw [eκ3]; exact zM.of rfl rfl rfl
          replace F := F Wκ3
          refine y_incb dX10_addWord_42 zi_m8 rfl (Nat.le_of_ble_eq_true rfl) (fun v2_4 ev2_4 => ?_)
          replace F := F v2_4 ev2_4
          show zG _ _ _ _ _ [some (.ref a0), some (.int a1), some (.int v2_4)] _ _ _
          refine y_goto dX10_addWord_45 (t := 3) rfl ?_
          have h5 := (ztm Wκ1 Mκ3 h2)
          obtain ⟨k, hk, hI⟩ := F
          exact y_k (ih k hk _ _ _ _ Wκ3 h5 hI) ⟨rfl, rfl, rfl, trivial⟩
  exact key m0 a0 a1 a2 κ W Ta0 hI0

def w_Ta_addWord_0 (C : zC) (n0 : Nat) (Q : zS → Prop)  (a0 : Nat) (a1 : Int32) (κ : zS) : Prop :=
  w_Ta_addWord_3 C n0 Q  a0 a1 (24 : Int32) κ
theorem t_Ta_addWord_0 {C : zC} {n0 : Nat} {Q : zS → Prop}   {a0 : Nat} {a1 : Int32} {κ : zS} (W : zW C n0 κ) (Ta0 : zT κ a0 = 13) (F : w_Ta_addWord_0 C n0 Q  a0 a1 κ) : zG C n0 0 mTa_addWord 0 [some (.ref a0), some (.int a1), none] [] κ (oV Q noX) := by
  unfold w_Ta_addWord_0 at F
  refine y_bi1 dX10_addWord_0 zb_24 ?_
  refine y_isn dX10_addWord_2 (Nat.le_of_ble_eq_true rfl) rfl ?_
  show zG _ _ _ _ _ [some (.ref a0), some (.int a1), some (.int (24 : Int32))] _ _ _
  exact y_k (t_Ta_addWord_3  W Ta0 F) ⟨rfl, rfl, rfl, trivial⟩

theorem Ta_addWord_run {C : zC} {n0 : Nat} {Q : zS → Prop} {a0 : Nat} {a1 : Int32} {κ : zS} (W : zW C n0 κ) (Ta0 : zT κ a0 = 13) (F : w_Ta_addWord_0 C (zn κ) Q a0 a1 κ) : zRun C 0 mTa_addWord [.ref a0, .int a1] κ (oV Q noX) := z_run (m_ent _ 1) (t_Ta_addWord_0 (W.lo (Nat.le_trans W.1.2.1 W.1.2.2) (Nat.le_refl _)) Ta0 F)

theorem dX12_init_0 : decode cX12_init 0 = .ok (.aload_n 0, 1) := by decide +kernel
theorem dX12_init_1 : decode cX12_init 1 = .ok (.invokespecial 3, 3) := by decide +kernel
theorem dX12_init_4 : decode cX12_init 4 = .ok (.aload_n 0, 1) := by decide +kernel
theorem dX12_init_5 : decode cX12_init 5 = .ok (.new 9, 3) := by decide +kernel
theorem dX12_init_8 : decode cX12_init 8 = .ok (.dup, 1) := by decide +kernel
theorem dX12_init_9 : decode cX12_init 9 = .ok (.invokespecial 11, 3) := by decide +kernel
theorem dX12_init_12 : decode cX12_init 12 = .ok (.putfield 12, 3) := by decide +kernel
theorem dX12_init_15 : decode cX12_init 15 = .ok (.aload_n 0, 1) := by decide +kernel
theorem dX12_init_16 : decode cX12_init 16 = .ok (.new 16, 3) := by decide +kernel
theorem dX12_init_19 : decode cX12_init 19 = .ok (.dup, 1) := by decide +kernel
theorem dX12_init_20 : decode cX12_init 20 = .ok (.invokespecial 18, 3) := by decide +kernel
theorem dX12_init_23 : decode cX12_init 23 = .ok (.putfield 19, 3) := by decide +kernel
theorem dX12_init_26 : decode cX12_init 26 = .ok (.aload_n 0, 1) := by decide +kernel
theorem dX12_init_27 : decode cX12_init 27 = .ok (.new 16, 3) := by decide +kernel
theorem dX12_init_30 : decode cX12_init 30 = .ok (.dup, 1) := by decide +kernel
theorem dX12_init_31 : decode cX12_init 31 = .ok (.invokespecial 18, 3) := by decide +kernel
theorem dX12_init_34 : decode cX12_init 34 = .ok (.putfield 23, 3) := by decide +kernel
theorem dX12_init_37 : decode cX12_init 37 = .ok (.aload_n 0, 1) := by decide +kernel
theorem dX12_init_38 : decode cX12_init 38 = .ok (.new 26, 3) := by decide +kernel
theorem dX12_init_41 : decode cX12_init 41 = .ok (.dup, 1) := by decide +kernel
theorem dX12_init_42 : decode cX12_init 42 = .ok (.aload_n 0, 1) := by decide +kernel
theorem dX12_init_43 : decode cX12_init 43 = .ok (.getfield 12, 3) := by decide +kernel
theorem dX12_init_46 : decode cX12_init 46 = .ok (.aload_n 0, 1) := by decide +kernel
theorem dX12_init_47 : decode cX12_init 47 = .ok (.getfield 23, 3) := by decide +kernel
theorem dX12_init_50 : decode cX12_init 50 = .ok (.invokespecial 28, 3) := by decide +kernel
theorem dX12_init_53 : decode cX12_init 53 = .ok (.putfield 31, 3) := by decide +kernel
theorem dX12_init_56 : decode cX12_init 56 = .ok (.aload_n 0, 1) := by decide +kernel
theorem dX12_init_57 : decode cX12_init 57 = .ok (.new 35, 3) := by decide +kernel
theorem dX12_init_60 : decode cX12_init 60 = .ok (.dup, 1) := by decide +kernel
theorem dX12_init_61 : decode cX12_init 61 = .ok (.aload_n 0, 1) := by decide +kernel
theorem dX12_init_62 : decode cX12_init 62 = .ok (.getfield 19, 3) := by decide +kernel
theorem dX12_init_65 : decode cX12_init 65 = .ok (.invokespecial 37, 3) := by decide +kernel
theorem dX12_init_68 : decode cX12_init 68 = .ok (.putfield 40, 3) := by decide +kernel
theorem dX12_init_71 : decode cX12_init 71 = .ok (.aload_n 0, 1) := by decide +kernel
theorem dX12_init_72 : decode cX12_init 72 = .ok (.new 44, 3) := by decide +kernel
theorem dX12_init_75 : decode cX12_init 75 = .ok (.dup, 1) := by decide +kernel
theorem dX12_init_76 : decode cX12_init 76 = .ok (.aload_n 0, 1) := by decide +kernel
theorem dX12_init_77 : decode cX12_init 77 = .ok (.getfield 40, 3) := by decide +kernel
theorem dX12_init_80 : decode cX12_init 80 = .ok (.aload_n 0, 1) := by decide +kernel
theorem dX12_init_81 : decode cX12_init 81 = .ok (.getfield 19, 3) := by decide +kernel
theorem dX12_init_84 : decode cX12_init 84 = .ok (.invokespecial 46, 3) := by decide +kernel
theorem dX12_init_87 : decode cX12_init 87 = .ok (.putfield 49, 3) := by decide +kernel
theorem dX12_init_90 : decode cX12_init 90 = .ok (.new 53, 3) := by decide +kernel
theorem dX12_init_93 : decode cX12_init 93 = .ok (.dup, 1) := by decide +kernel
theorem dX12_init_94 : decode cX12_init 94 = .ok (.invokespecial 55, 3) := by decide +kernel
theorem dX12_init_97 : decode cX12_init 97 = .ok (.astore_n 1, 1) := by decide +kernel
theorem dX12_init_98 : decode cX12_init 98 = .ok (.aload_n 0, 1) := by decide +kernel
theorem dX12_init_99 : decode cX12_init 99 = .ok (.new 56, 3) := by decide +kernel
theorem dX12_init_102 : decode cX12_init 102 = .ok (.dup, 1) := by decide +kernel
theorem dX12_init_103 : decode cX12_init 103 = .ok (.aload_n 0, 1) := by decide +kernel
theorem dX12_init_104 : decode cX12_init 104 = .ok (.getfield 49, 3) := by decide +kernel
theorem dX12_init_107 : decode cX12_init 107 = .ok (.aload_n 1, 1) := by decide +kernel
theorem dX12_init_108 : decode cX12_init 108 = .ok (.invokespecial 58, 3) := by decide +kernel
theorem dX12_init_111 : decode cX12_init 111 = .ok (.putfield 61, 3) := by decide +kernel
theorem dX12_init_114 : decode cX12_init 114 = .ok (.aload_n 0, 1) := by decide +kernel
theorem dX12_init_115 : decode cX12_init 115 = .ok (.new 65, 3) := by decide +kernel
theorem dX12_init_118 : decode cX12_init 118 = .ok (.dup, 1) := by decide +kernel
theorem dX12_init_119 : decode cX12_init 119 = .ok (.aload_n 0, 1) := by decide +kernel
theorem dX12_init_120 : decode cX12_init 120 = .ok (.getfield 49, 3) := by decide +kernel
theorem dX12_init_123 : decode cX12_init 123 = .ok (.aload_n 0, 1) := by decide +kernel
theorem dX12_init_124 : decode cX12_init 124 = .ok (.getfield 61, 3) := by decide +kernel
theorem dX12_init_127 : decode cX12_init 127 = .ok (.aload_n 1, 1) := by decide +kernel
theorem dX12_init_128 : decode cX12_init 128 = .ok (.invokespecial 67, 3) := by decide +kernel
theorem dX12_init_131 : decode cX12_init 131 = .ok (.putfield 70, 3) := by decide +kernel
theorem dX12_init_134 : decode cX12_init 134 = .ok (.aload_n 0, 1) := by decide +kernel
theorem dX12_init_135 : decode cX12_init 135 = .ok (.new 74, 3) := by decide +kernel
theorem dX12_init_138 : decode cX12_init 138 = .ok (.dup, 1) := by decide +kernel
theorem dX12_init_139 : decode cX12_init 139 = .ok (.iconst 2, 1) := by decide +kernel
theorem dX12_init_140 : decode cX12_init 140 = .ok (.invokespecial 76, 3) := by decide +kernel
theorem dX12_init_143 : decode cX12_init 143 = .ok (.putfield 79, 3) := by decide +kernel
theorem dX12_init_146 : decode cX12_init 146 = .ok (.aload_n 0, 1) := by decide +kernel
theorem dX12_init_147 : decode cX12_init 147 = .ok (.sipush 200, 3) := by decide +kernel
theorem dX12_init_150 : decode cX12_init 150 = .ok (.newarray .int, 2) := by decide +kernel
theorem dX12_init_152 : decode cX12_init 152 = .ok (.putfield 83, 3) := by decide +kernel
theorem dX12_init_155 : decode cX12_init 155 = .ok (.aload_n 0, 1) := by decide +kernel
theorem dX12_init_156 : decode cX12_init 156 = .ok (.iconst 5, 1) := by decide +kernel
theorem dX12_init_157 : decode cX12_init 157 = .ok (.newarray .long, 2) := by decide +kernel
theorem dX12_init_159 : decode cX12_init 159 = .ok (.putfield 87, 3) := by decide +kernel
theorem dX12_init_162 : decode cX12_init 162 = .ok (.aload_n 0, 1) := by decide +kernel
theorem dX12_init_163 : decode cX12_init 163 = .ok (.bipush 34, 2) := by decide +kernel
theorem dX12_init_165 : decode cX12_init 165 = .ok (.newarray .int, 2) := by decide +kernel
theorem dX12_init_167 : decode cX12_init 167 = .ok (.putfield 91, 3) := by decide +kernel
theorem dX12_init_170 : decode cX12_init 170 = .ok (.aload_n 0, 1) := by decide +kernel
theorem dX12_init_171 : decode cX12_init 171 = .ok (.bipush 16, 2) := by decide +kernel
theorem dX12_init_173 : decode cX12_init 173 = .ok (.newarray .int, 2) := by decide +kernel
theorem dX12_init_175 : decode cX12_init 175 = .ok (.putfield 94, 3) := by decide +kernel
theorem dX12_init_178 : decode cX12_init 178 = .ok (.aload_n 0, 1) := by decide +kernel
theorem dX12_init_179 : decode cX12_init 179 = .ok (.bipush 16, 2) := by decide +kernel
theorem dX12_init_181 : decode cX12_init 181 = .ok (.newarray .int, 2) := by decide +kernel
theorem dX12_init_183 : decode cX12_init 183 = .ok (.putfield 97, 3) := by decide +kernel
theorem dX12_init_186 : decode cX12_init 186 = .ok (.return_, 1) := by decide +kernel
def w_Ch_init_0 (C : zC) (n0 : Nat) (Q : zS → Prop)  (a0 : Nat) (κ : zS) : Prop :=
  ∀ κ1, κ1 = noo κ 13 →
  ∀ _ : zW C n0 κ1,
  ∀ _ : zT κ1 (zn κ) = 53,
  zRun C 1 mTa_init [.ref (zn κ)] κ1 (oV (fun κ3 =>
    ∀ _ : zW C n0 κ3,
    ∀ _ : zM (zn κ1) κ1 κ3,
    zOk κ3 (zn κ) 13 ∧
    ∀ κ6, κ6 = nff κ3 (zn κ) →
    ∀ _ : zW C n0 κ6,
    ∀ κ8, κ8 = ur κ6 chTape a0 (zn κ) →
    ∀ _ : zW C n0 κ8,
    ∀ κ10, κ10 = noo κ8 5 →
    ∀ _ : zW C n0 κ10,
    ∀ _ : zT κ10 (zn κ8) = 45,
    zRun C 1 mCo_init [.ref (zn κ8)] κ10 (oV (fun κ12 =>
      ∀ _ : zW C n0 κ12,
      ∀ _ : zM (zn κ10) κ10 κ12,
      zOk κ12 (zn κ8) 5 ∧
      ∀ κ15, κ15 = nff κ12 (zn κ8) →
      ∀ _ : zW C n0 κ15,
      ∀ κ17, κ17 = ur κ15 chCode a0 (zn κ8) →
      ∀ _ : zW C n0 κ17,
      ∀ κ19, κ19 = noo κ17 5 →
      ∀ _ : zW C n0 κ19,
      ∀ _ : zT κ19 (zn κ17) = 45,
      zRun C 1 mCo_init [.ref (zn κ17)] κ19 (oV (fun κ21 =>
        ∀ _ : zW C n0 κ21,
        ∀ _ : zM (zn κ19) κ19 κ21,
        zOk κ21 (zn κ17) 5 ∧
        ∀ κ24, κ24 = nff κ21 (zn κ17) →
        ∀ _ : zW C n0 κ24,
        ∀ κ26, κ26 = ur κ24 chSpare a0 (zn κ17) →
        ∀ _ : zW C n0 κ26,
        ∀ κ28, κ28 = noo κ26 10 →
        ∀ _ : zW C n0 κ28,
        zT κ28 (zR κ28 chTape a0) = 13 ∧
        zT κ28 (zR κ28 chSpare a0) = 5 ∧
        ∀ _ : zT κ28 (zn κ26) = 50,
        ∀ _ : zT κ28 (zR κ28 chTape a0) = 13,
        ∀ _ : zT κ28 (zR κ28 chSpare a0) = 5,
        zRun C 1 mPa_init [.ref (zn κ26), .ref (zR κ28 chTape a0), .ref (zR κ28 chSpare a0)] κ28 (oV (fun κ33 =>
          ∀ _ : zW C n0 κ33,
          ∀ _ : zM (zn κ28) κ28 κ33,
          zOk κ33 (zn κ26) 10 ∧
          ∀ κ36, κ36 = nff κ33 (zn κ26) →
          ∀ _ : zW C n0 κ36,
          ∀ κ38, κ38 = ur κ36 chParser a0 (zn κ26) →
          ∀ _ : zW C n0 κ38,
          ∀ κ40, κ40 = noo κ38 7 →
          ∀ _ : zW C n0 κ40,
          zT κ40 (zR κ40 chCode a0) = 5 ∧
          ∀ _ : zT κ40 (zn κ38) = 47,
          ∀ _ : zT κ40 (zR κ40 chCode a0) = 5,
          zRun C 1 mMa_init [.ref (zn κ38), .ref (zR κ40 chCode a0)] κ40 (oV (fun κ44 =>
            ∀ _ : zW C n0 κ44,
            ∀ _ : zM (zn κ40) κ40 κ44,
            zOk κ44 (zn κ38) 7 ∧
            ∀ κ47, κ47 = nff κ44 (zn κ38) →
            ∀ _ : zW C n0 κ47,
            ∀ κ49, κ49 = ur κ47 chMachine a0 (zn κ38) →
            ∀ _ : zW C n0 κ49,
            ∀ κ51, κ51 = noo κ49 3 →
            ∀ _ : zW C n0 κ51,
            zT κ51 (zR κ51 chMachine a0) = 7 ∧
            zT κ51 (zR κ51 chCode a0) = 5 ∧
            ∀ _ : zT κ51 (zn κ49) = 43,
            ∀ _ : zT κ51 (zR κ51 chMachine a0) = 7,
            ∀ _ : zT κ51 (zR κ51 chCode a0) = 5,
            zRun C 2 mAt_init [.ref (zn κ49), .ref (zR κ51 chMachine a0), .ref (zR κ51 chCode a0)] κ51 (oV (fun κ56 =>
              ∀ _ : zW C n0 κ56,
              ∀ _ : zM (zn κ51) κ51 κ56,
              zOk κ56 (zn κ49) 3 ∧
              ∀ κ59, κ59 = nff κ56 (zn κ49) →
              ∀ _ : zW C n0 κ59,
              ∀ κ61, κ61 = ur κ59 chAtlas a0 (zn κ49) →
              ∀ _ : zW C n0 κ61,
              ∀ κ63, κ63 = noo κ61 4 →
              ∀ _ : zW C n0 κ63,
              ∀ _ : zT κ63 (zn κ61) = 44,
              zRun C 2 mCa_init [.ref (zn κ61)] κ63 (oV (fun κ65 =>
                ∀ _ : zW C n0 κ65,
                ∀ _ : zM (zn κ63) κ63 κ65,
                zOk κ65 (zn κ61) 4 ∧
                ∀ κ68, κ68 = nff κ65 (zn κ61) →
                ∀ _ : zW C n0 κ68,
                ∀ v1_70 : Nat, v1_70 = (zn κ61) →
                ∀ κ71, κ71 = noo κ68 12 →
                ∀ _ : zW C n0 κ71,
                zT κ71 (zR κ71 chAtlas a0) = 3 ∧
                ∀ _ : zT κ71 (zn κ68) = 52,
                ∀ _ : zT κ71 (zR κ71 chAtlas a0) = 3,
                ∀ _ : zT κ71 v1_70 = 4,
                zRun C 3 mSo_init [.ref (zn κ68), .ref (zR κ71 chAtlas a0), .ref v1_70] κ71 (oV (fun κ75 =>
                  ∀ _ : zW C n0 κ75,
                  ∀ _ : zM (zn κ71) κ71 κ75,
                  zOk κ75 (zn κ68) 12 ∧
                  ∀ κ79, κ79 = nff κ75 (zn κ68) →
                  ∀ _ : zW C n0 κ79,
                  ∀ κ81, κ81 = ur κ79 chSolver a0 (zn κ68) →
                  ∀ _ : zW C n0 κ81,
                  ∀ κ83, κ83 = noo κ81 9 →
                  ∀ _ : zW C n0 κ83,
                  zT κ83 (zR κ83 chAtlas a0) = 3 ∧
                  zT κ83 (zR κ83 chSolver a0) = 12 ∧
                  ∀ _ : zT κ83 (zn κ81) = 49,
                  ∀ _ : zT κ83 (zR κ83 chAtlas a0) = 3,
                  ∀ _ : zT κ83 (zR κ83 chSolver a0) = 12,
                  ∀ _ : zT κ83 v1_70 = 4,
                  zRun C 2 mOd_init [.ref (zn κ81), .ref (zR κ83 chAtlas a0), .ref (zR κ83 chSolver a0), .ref v1_70] κ83 (oV (fun κ88 =>
                    ∀ _ : zW C n0 κ88,
                    ∀ _ : zM (zn κ83) κ83 κ88,
                    zOk κ88 (zn κ81) 9 ∧
                    ∀ κ92, κ92 = nff κ88 (zn κ81) →
                    ∀ _ : zW C n0 κ92,
                    ∀ κ94, κ94 = ur κ92 chOdds a0 (zn κ81) →
                    ∀ _ : zW C n0 κ94,
                    ∀ κ96, κ96 = noo κ94 11 →
                    ∀ _ : zW C n0 κ96,
                    ∀ _ : zT κ96 (zn κ94) = 51,
                    zRun C 2 mRa_init [.ref (zn κ94), .int (2 : Int32)] κ96 (oV (fun κ98 =>
                      ∀ _ : zW C n0 κ98,
                      ∀ _ : zM (zn κ96) κ96 κ98,
                      zOk κ98 (zn κ94) 11 ∧
                      ∀ κ101, κ101 = nff κ98 (zn κ94) →
                      ∀ _ : zW C n0 κ101,
                      ∀ κ103, κ103 = ur κ101 chShown a0 (zn κ94) →
                      ∀ _ : zW C n0 κ103,
                      nsz (200 : Int32) ∧
                      ∀ κ105, κ105 = na κ103 20 ((200 : Int32)).toNatClampNeg →
                      ∀ _ : zW C n0 κ105,
                      zO κ105 (zn κ103) = (0, 0) ∧
                      ∀ κ108, κ108 = uo κ105 chTold a0 (zn κ103) →
                      ∀ _ : zW C n0 κ108,
                      nsz (5 : Int32) ∧
                      ∀ κ111, κ111 = na κ108 22 ((5 : Int32)).toNatClampNeg →
                      ∀ _ : zW C n0 κ111,
                      zO κ111 (zn κ108) = (0, 0) ∧
                      ∀ κ114, κ114 = uo κ111 chRecord a0 (zn κ108) →
                      ∀ _ : zW C n0 κ114,
                      nsz (34 : Int32) ∧
                      ∀ κ117, κ117 = na κ114 20 ((34 : Int32)).toNatClampNeg →
                      ∀ _ : zW C n0 κ117,
                      zO κ117 (zn κ114) = (0, 0) ∧
                      ∀ κ120, κ120 = uo κ117 chLastShared a0 (zn κ114) →
                      ∀ _ : zW C n0 κ120,
                      nsz (16 : Int32) ∧
                      ∀ κ123, κ123 = na κ120 20 ((16 : Int32)).toNatClampNeg →
                      ∀ _ : zW C n0 κ123,
                      zO κ123 (zn κ120) = (0, 0) ∧
                      ∀ κ126, κ126 = uo κ123 chDrawnWeights a0 (zn κ120) →
                      ∀ _ : zW C n0 κ126,
                      nsz (16 : Int32) ∧
                      ∀ κ129, κ129 = na κ126 20 ((16 : Int32)).toNatClampNeg →
                      ∀ _ : zW C n0 κ129,
                      zO κ129 (zn κ126) = (0, 0) ∧
                      ∀ κ132, κ132 = uo κ129 chDrawnTotals a0 (zn κ126) →
                      ∀ _ : zW C n0 κ132,
                      Q κ132) noX)) noX)) noX)) noX)) noX)) noX)) noX)) noX)) noX)) noX)
theorem t_Ch_init_0 {C : zC} {n0 : Nat} {Q : zS → Prop}   {a0 : Nat} {κ : zS} (W : zW C n0 κ) (Ta0 : zT κ a0 = 55) (F : w_Ch_init_0 C n0 Q  a0 κ) : zG C n0 4 mCh_init 0 [some (.ref a0), none] [] κ (oV Q noX) := by
  unfold w_Ch_init_0 at F
  refine y_aln dX12_init_0 rfl ?_
  refine y_oinit dX12_init_1 rfl zbi_X12_3 (Nat.le_of_ble_eq_true rfl) (Nat.le_of_ble_eq_true rfl) ?_
  refine y_aln dX12_init_4 rfl ?_
  refine y_newo W dX12_init_5 rfl znw_X12_9 znx_X12_9 (by decide) (fun κ1 eκ1 => ?_)
  replace F := F κ1 eκ1
  have Wκ1 : zW C n0 κ1 := zW_no W eκ1
  have Mκ1 : zM (zn κ) κ κ1 := zM_no (W.lo (Nat.le_trans W.1.2.1 W.1.2.2) (Nat.le_refl _)) eκ1
  replace F := F Wκ1
  have g2 : zT κ1 (zn κ) = 53 := by rw [eκ1]; exact if_pos rfl
  refine y_dup dX12_init_8 rfl ?_
  replace F := F g2
  refine k_X12_11 Wκ1 dX12_init_9 rfl (Nat.le_of_ble_eq_true rfl) (Nat.le_of_ble_eq_true rfl)  F (fun  κ3 Wκ3 Mκ3 F => ?_) (fun _ _ h9 => False.elim h9)
  replace F := F Wκ3 Mκ3
  have h7 := (ztm Wκ1 Mκ3 g2)
  have Rκ6 := h7
  refine y_flip (ci := 13) Rκ6 (by decide) (Nat.le_trans W.1.2.2 (Nat.le_refl _)) (fun κ6 eκ6 => ?_)
  have Wκ6 : zW C n0 κ6 := zW_nf Wκ3 eκ6 Rκ6 (by decide) (by decide) F.1
  replace F := F.2 κ6 eκ6 Wκ6
  have Gκ6 : zT κ6 (zn κ) = 13 := zth eκ6 Rκ6 (by decide)
  have h9 := (ztg eκ6 (W.nw Ta0) (ztm Wκ1 Mκ3 (ztm W Mκ1 Ta0)))
  refine pf_X12_12 Wκ6 dX12_init_12 rfl rfl (Or.inr h9) Gκ6 (fun κ8 eκ8 => ?_)
  replace F := F κ8 eκ8
  have Wκ8 : zW C n0 κ8 := zW_ur Wκ6 eκ8 (fun t ht => by cases ht; exact ⟨by decide, Gκ6⟩)
  have Mκ8 : zM (zn κ6) κ6 κ8 := by rw [eκ8]; exact zM.of rfl rfl rfl
  replace F := F Wκ8
  refine y_aln dX12_init_15 rfl ?_
  refine y_newo Wκ8 dX12_init_16 rfl znw_X12_16 znx_X12_16 (by decide) (fun κ10 eκ10 => ?_)
  replace F := F κ10 eκ10
  have Wκ10 : zW C n0 κ10 := zW_no Wκ8 eκ10
  have Mκ10 : zM (zn κ8) κ8 κ10 := zM_no (Wκ8.lo (Nat.le_trans Wκ8.1.2.1 Wκ8.1.2.2) (Nat.le_refl _)) eκ10
  replace F := F Wκ10
  have g11 : zT κ10 (zn κ8) = 45 := by rw [eκ10]; exact if_pos rfl
  refine y_dup dX12_init_19 rfl ?_
  replace F := F g11
  refine k_X12_18 Wκ10 dX12_init_20 rfl (Nat.le_of_ble_eq_true rfl) (Nat.le_of_ble_eq_true rfl)  F (fun  κ12 Wκ12 Mκ12 F => ?_) (fun _ _ h9 => False.elim h9)
  replace F := F Wκ12 Mκ12
  have h16 := (ztm Wκ10 Mκ12 g11)
  have Rκ15 := h16
  refine y_flip (ci := 5) Rκ15 (by decide) (Nat.le_trans Wκ8.1.2.2 (Nat.le_refl _)) (fun κ15 eκ15 => ?_)
  have Wκ15 : zW C n0 κ15 := zW_nf Wκ12 eκ15 Rκ15 (by decide) (by decide) F.1
  replace F := F.2 κ15 eκ15 Wκ15
  have Gκ15 : zT κ15 (zn κ8) = 5 := zth eκ15 Rκ15 (by decide)
  have h18 := (ztg eκ15 (Wκ8.nw (ztm Wκ6 Mκ8 h9)) (ztm Wκ10 Mκ12 (ztm Wκ8 Mκ10 (ztm Wκ6 Mκ8 h9))))
  refine pf_X12_19 Wκ15 dX12_init_23 rfl (Or.inr h18) Gκ15 (fun κ17 eκ17 => ?_)
  replace F := F κ17 eκ17
  have Wκ17 : zW C n0 κ17 := zW_ur Wκ15 eκ17 (fun t ht => by cases ht; exact ⟨by decide, Gκ15⟩)
  have Mκ17 : zM (zn κ15) κ15 κ17 := by rw [eκ17]; exact zM.of rfl rfl rfl
  replace F := F Wκ17
  refine y_aln dX12_init_26 rfl ?_
  refine y_newo Wκ17 dX12_init_27 rfl znw_X12_16 znx_X12_16 (by decide) (fun κ19 eκ19 => ?_)
  replace F := F κ19 eκ19
  have Wκ19 : zW C n0 κ19 := zW_no Wκ17 eκ19
  have Mκ19 : zM (zn κ17) κ17 κ19 := zM_no (Wκ17.lo (Nat.le_trans Wκ17.1.2.1 Wκ17.1.2.2) (Nat.le_refl _)) eκ19
  replace F := F Wκ19
  have g20 : zT κ19 (zn κ17) = 45 := by rw [eκ19]; exact if_pos rfl
  refine y_dup dX12_init_30 rfl ?_
  replace F := F g20
  refine k_X12_18 Wκ19 dX12_init_31 rfl (Nat.le_of_ble_eq_true rfl) (Nat.le_of_ble_eq_true rfl)  F (fun  κ21 Wκ21 Mκ21 F => ?_) (fun _ _ h9 => False.elim h9)
  replace F := F Wκ21 Mκ21
  have h25 := (ztm Wκ19 Mκ21 g20)
  have Rκ24 := h25
  refine y_flip (ci := 5) Rκ24 (by decide) (Nat.le_trans Wκ17.1.2.2 (Nat.le_refl _)) (fun κ24 eκ24 => ?_)
  have Wκ24 : zW C n0 κ24 := zW_nf Wκ21 eκ24 Rκ24 (by decide) (by decide) F.1
  replace F := F.2 κ24 eκ24 Wκ24
  have Gκ24 : zT κ24 (zn κ17) = 5 := zth eκ24 Rκ24 (by decide)
  have h27 := (ztg eκ24 (Wκ17.nw (ztm Wκ15 Mκ17 h18)) (ztm Wκ19 Mκ21 (ztm Wκ17 Mκ19 (ztm Wκ15 Mκ17 h18))))
  refine pf_X12_23 Wκ24 dX12_init_34 rfl (Or.inr h27) Gκ24 (fun κ26 eκ26 => ?_)
  replace F := F κ26 eκ26
  have Wκ26 : zW C n0 κ26 := zW_ur Wκ24 eκ26 (fun t ht => by cases ht; exact ⟨by decide, Gκ24⟩)
  have Mκ26 : zM (zn κ24) κ24 κ26 := by rw [eκ26]; exact zM.of rfl rfl rfl
  replace F := F Wκ26
  refine y_aln dX12_init_37 rfl ?_
  refine y_newo Wκ26 dX12_init_38 rfl znw_X12_26 znx_X12_26 (by decide) (fun κ28 eκ28 => ?_)
  replace F := F κ28 eκ28
  have Wκ28 : zW C n0 κ28 := zW_no Wκ26 eκ28
  have Mκ28 : zM (zn κ26) κ26 κ28 := zM_no (Wκ26.lo (Nat.le_trans Wκ26.1.2.1 Wκ26.1.2.2) (Nat.le_refl _)) eκ28
  replace F := F Wκ28
  have g29 : zT κ28 (zn κ26) = 50 := by rw [eκ28]; exact if_pos rfl
  refine y_dup dX12_init_41 rfl ?_
  refine y_aln dX12_init_42 rfl ?_
  have h30 := (ztm Wκ26 Mκ28 (ztm Wκ24 Mκ26 h27))
  refine gn_X12_12 Wκ28 dX12_init_43 rfl (Or.inr h30) F.1 ?_
  have g31 := F.1
  replace F := F.2
  refine y_aln dX12_init_46 rfl ?_
  refine gn_X12_23 Wκ28 dX12_init_47 rfl (Or.inr h30) F.1 ?_
  have g32 := F.1
  replace F := F.2
  replace F := F g29
  replace F := F g31
  replace F := F g32
  refine k_X12_28 Wκ28 dX12_init_50 rfl (Nat.le_of_ble_eq_true rfl) (Nat.le_of_ble_eq_true rfl)  F (fun  κ33 Wκ33 Mκ33 F => ?_) (fun _ _ h9 => False.elim h9)
  replace F := F Wκ33 Mκ33
  have h37 := (ztm Wκ28 Mκ33 g29)
  have Rκ36 := h37
  refine y_flip (ci := 10) Rκ36 (by decide) (Nat.le_trans Wκ26.1.2.2 (Nat.le_refl _)) (fun κ36 eκ36 => ?_)
  have Wκ36 : zW C n0 κ36 := zW_nf Wκ33 eκ36 Rκ36 (by decide) (by decide) F.1
  replace F := F.2 κ36 eκ36 Wκ36
  have Gκ36 : zT κ36 (zn κ26) = 10 := zth eκ36 Rκ36 (by decide)
  have h39 := (ztg eκ36 (Wκ26.nw (ztm Wκ24 Mκ26 h27)) (ztm Wκ28 Mκ33 h30))
  refine pf_X12_31 Wκ36 dX12_init_53 rfl rfl (Or.inr h39) Gκ36 (fun κ38 eκ38 => ?_)
  replace F := F κ38 eκ38
  have Wκ38 : zW C n0 κ38 := zW_ur Wκ36 eκ38 (fun t ht => by cases ht; exact ⟨by decide, Gκ36⟩)
  have Mκ38 : zM (zn κ36) κ36 κ38 := by rw [eκ38]; exact zM.of rfl rfl rfl
  replace F := F Wκ38
  refine y_aln dX12_init_56 rfl ?_
  refine y_newo Wκ38 dX12_init_57 rfl znw_X12_35 znx_X12_35 (by decide) (fun κ40 eκ40 => ?_)
  replace F := F κ40 eκ40
  have Wκ40 : zW C n0 κ40 := zW_no Wκ38 eκ40
  have Mκ40 : zM (zn κ38) κ38 κ40 := zM_no (Wκ38.lo (Nat.le_trans Wκ38.1.2.1 Wκ38.1.2.2) (Nat.le_refl _)) eκ40
  replace F := F Wκ40
  have g41 : zT κ40 (zn κ38) = 47 := by rw [eκ40]; exact if_pos rfl
  refine y_dup dX12_init_60 rfl ?_
  refine y_aln dX12_init_61 rfl ?_
  have h42 := (ztm Wκ38 Mκ40 (ztm Wκ36 Mκ38 h39))
  refine gn_X12_19 Wκ40 dX12_init_62 rfl (Or.inr h42) F.1 ?_
  have g43 := F.1
  replace F := F.2
  replace F := F g41
  replace F := F g43
  refine k_X12_37 Wκ40 dX12_init_65 rfl (Nat.le_of_ble_eq_true rfl) (Nat.le_of_ble_eq_true rfl)  F (fun  κ44 Wκ44 Mκ44 F => ?_) (fun _ _ h9 => False.elim h9)
  replace F := F Wκ44 Mκ44
  have h48 := (ztm Wκ40 Mκ44 g41)
  have Rκ47 := h48
  refine y_flip (ci := 7) Rκ47 (by decide) (Nat.le_trans Wκ38.1.2.2 (Nat.le_refl _)) (fun κ47 eκ47 => ?_)
  have Wκ47 : zW C n0 κ47 := zW_nf Wκ44 eκ47 Rκ47 (by decide) (by decide) F.1
  replace F := F.2 κ47 eκ47 Wκ47
  have Gκ47 : zT κ47 (zn κ38) = 7 := zth eκ47 Rκ47 (by decide)
  have h50 := (ztg eκ47 (Wκ38.nw (ztm Wκ36 Mκ38 h39)) (ztm Wκ40 Mκ44 h42))
  refine pf_X12_40 Wκ47 dX12_init_68 rfl rfl (Or.inr h50) Gκ47 (fun κ49 eκ49 => ?_)
  replace F := F κ49 eκ49
  have Wκ49 : zW C n0 κ49 := zW_ur Wκ47 eκ49 (fun t ht => by cases ht; exact ⟨by decide, Gκ47⟩)
  have Mκ49 : zM (zn κ47) κ47 κ49 := by rw [eκ49]; exact zM.of rfl rfl rfl
  replace F := F Wκ49
  refine y_aln dX12_init_71 rfl ?_
  refine y_newo Wκ49 dX12_init_72 rfl znw_X12_44 znx_X12_44 (by decide) (fun κ51 eκ51 => ?_)
  replace F := F κ51 eκ51
  have Wκ51 : zW C n0 κ51 := zW_no Wκ49 eκ51
  have Mκ51 : zM (zn κ49) κ49 κ51 := zM_no (Wκ49.lo (Nat.le_trans Wκ49.1.2.1 Wκ49.1.2.2) (Nat.le_refl _)) eκ51
  replace F := F Wκ51
  have g52 : zT κ51 (zn κ49) = 43 := by rw [eκ51]; exact if_pos rfl
  refine y_dup dX12_init_75 rfl ?_
  refine y_aln dX12_init_76 rfl ?_
  have h53 := (ztm Wκ49 Mκ51 (ztm Wκ47 Mκ49 h50))
  refine gn_X12_40 Wκ51 dX12_init_77 rfl (Or.inr h53) F.1 ?_
  have g54 := F.1
  replace F := F.2
  refine y_aln dX12_init_80 rfl ?_
  refine gn_X12_19 Wκ51 dX12_init_81 rfl (Or.inr h53) F.1 ?_
  have g55 := F.1
  replace F := F.2
  replace F := F g52
  replace F := F g54
  replace F := F g55
  refine k_X12_46 Wκ51 dX12_init_84 rfl (Nat.le_of_ble_eq_true rfl) (Nat.le_of_ble_eq_true rfl)  F (fun  κ56 Wκ56 Mκ56 F => ?_) (fun _ _ h9 => False.elim h9)
  replace F := F Wκ56 Mκ56
  have h60 := (ztm Wκ51 Mκ56 g52)
  have Rκ59 := h60
  refine y_flip (ci := 3) Rκ59 (by decide) (Nat.le_trans Wκ49.1.2.2 (Nat.le_refl _)) (fun κ59 eκ59 => ?_)
  have Wκ59 : zW C n0 κ59 := zW_nf Wκ56 eκ59 Rκ59 (by decide) (by decide) F.1
  replace F := F.2 κ59 eκ59 Wκ59
  have Gκ59 : zT κ59 (zn κ49) = 3 := zth eκ59 Rκ59 (by decide)
  have h62 := (ztg eκ59 (Wκ49.nw (ztm Wκ47 Mκ49 h50)) (ztm Wκ51 Mκ56 h53))
  refine pf_X12_49 Wκ59 dX12_init_87 rfl rfl (Or.inr h62) Gκ59 (fun κ61 eκ61 => ?_)
  replace F := F κ61 eκ61
  have Wκ61 : zW C n0 κ61 := zW_ur Wκ59 eκ61 (fun t ht => by cases ht; exact ⟨by decide, Gκ59⟩)
  have Mκ61 : zM (zn κ59) κ59 κ61 := by rw [eκ61]; exact zM.of rfl rfl rfl
  replace F := F Wκ61
  refine y_newo Wκ61 dX12_init_90 rfl znw_X12_53 znx_X12_53 (by decide) (fun κ63 eκ63 => ?_)
  replace F := F κ63 eκ63
  have Wκ63 : zW C n0 κ63 := zW_no Wκ61 eκ63
  have Mκ63 : zM (zn κ61) κ61 κ63 := zM_no (Wκ61.lo (Nat.le_trans Wκ61.1.2.1 Wκ61.1.2.2) (Nat.le_refl _)) eκ63
  replace F := F Wκ63
  have g64 : zT κ63 (zn κ61) = 44 := by rw [eκ63]; exact if_pos rfl
  refine y_dup dX12_init_93 rfl ?_
  replace F := F g64
  refine k_X12_55 Wκ63 dX12_init_94 rfl (Nat.le_of_ble_eq_true rfl) (Nat.le_of_ble_eq_true rfl)  F (fun  κ65 Wκ65 Mκ65 F => ?_) (fun _ _ h9 => False.elim h9)
  replace F := F Wκ65 Mκ65
  have h69 := (ztm Wκ63 Mκ65 g64)
  have Rκ68 := h69
  refine y_flip (ci := 4) Rκ68 (by decide) (Nat.le_trans Wκ61.1.2.2 (Nat.le_refl _)) (fun κ68 eκ68 => ?_)
  have Wκ68 : zW C n0 κ68 := zW_nf Wκ65 eκ68 Rκ68 (by decide) (by decide) F.1
  replace F := F.2 κ68 eκ68 Wκ68
  have Gκ68 : zT κ68 (zn κ61) = 4 := zth eκ68 Rκ68 (by decide)
  refine y_asnb dX12_init_97 (Nat.le_of_ble_eq_true rfl) (fun v1_70 ev1_70 => ?_)
  replace F := F v1_70 ev1_70
  have Tv1_70 : zT κ68 v1_70 = 4 := by rw [ev1_70]; exact Gκ68
  show zG _ _ _ _ _ [some (.ref a0), some (.ref v1_70)] _ _ _
  refine y_aln dX12_init_98 rfl ?_
  refine y_newo Wκ68 dX12_init_99 rfl znw_X12_56 znx_X12_56 (by decide) (fun κ71 eκ71 => ?_)
  replace F := F κ71 eκ71
  have Wκ71 : zW C n0 κ71 := zW_no Wκ68 eκ71
  have Mκ71 : zM (zn κ68) κ68 κ71 := zM_no (Wκ68.lo (Nat.le_trans Wκ68.1.2.1 Wκ68.1.2.2) (Nat.le_refl _)) eκ71
  replace F := F Wκ71
  have g72 : zT κ71 (zn κ68) = 52 := by rw [eκ71]; exact if_pos rfl
  refine y_dup dX12_init_102 rfl ?_
  refine y_aln dX12_init_103 rfl ?_
  have h73 := (ztm Wκ68 Mκ71 (ztg eκ68 (Wκ61.nw (ztm Wκ59 Mκ61 h62)) (ztm Wκ63 Mκ65 (ztm Wκ61 Mκ63 (ztm Wκ59 Mκ61 h62)))))
  refine gn_X12_49 Wκ71 dX12_init_104 rfl (Or.inr h73) F.1 ?_
  have g74 := F.1
  replace F := F.2
  refine y_aln dX12_init_107 rfl ?_
  replace F := F g72
  replace F := F g74
  have h77 := (ztm Wκ68 Mκ71 Tv1_70)
  replace F := F h77
  refine k_X12_58 Wκ71 dX12_init_108 rfl (Nat.le_of_ble_eq_true rfl) (Nat.le_of_ble_eq_true rfl)  F (fun  κ75 Wκ75 Mκ75 F => ?_) (fun _ _ h9 => False.elim h9)
  replace F := F Wκ75 Mκ75
  have h80 := (ztm Wκ71 Mκ75 g72)
  have Rκ79 := h80
  refine y_flip (ci := 12) Rκ79 (by decide) (Nat.le_trans Wκ68.1.2.2 (Nat.le_refl _)) (fun κ79 eκ79 => ?_)
  have Wκ79 : zW C n0 κ79 := zW_nf Wκ75 eκ79 Rκ79 (by decide) (by decide) F.1
  replace F := F.2 κ79 eκ79 Wκ79
  have Gκ79 : zT κ79 (zn κ68) = 12 := zth eκ79 Rκ79 (by decide)
  have h82 := (ztg eκ79 (Wκ68.nw (ztg eκ68 (Wκ61.nw (ztm Wκ59 Mκ61 h62)) (ztm Wκ63 Mκ65 (ztm Wκ61 Mκ63 (ztm Wκ59 Mκ61 h62))))) (ztm Wκ71 Mκ75 h73))
  refine pf_X12_61 Wκ79 dX12_init_111 rfl rfl (Or.inr h82) Gκ79 (fun κ81 eκ81 => ?_)
  replace F := F κ81 eκ81
  have Wκ81 : zW C n0 κ81 := zW_ur Wκ79 eκ81 (fun t ht => by cases ht; exact ⟨by decide, Gκ79⟩)
  have Mκ81 : zM (zn κ79) κ79 κ81 := by rw [eκ81]; exact zM.of rfl rfl rfl
  replace F := F Wκ81
  refine y_aln dX12_init_114 rfl ?_
  refine y_newo Wκ81 dX12_init_115 rfl znw_X12_65 znx_X12_65 (by decide) (fun κ83 eκ83 => ?_)
  replace F := F κ83 eκ83
  have Wκ83 : zW C n0 κ83 := zW_no Wκ81 eκ83
  have Mκ83 : zM (zn κ81) κ81 κ83 := zM_no (Wκ81.lo (Nat.le_trans Wκ81.1.2.1 Wκ81.1.2.2) (Nat.le_refl _)) eκ83
  replace F := F Wκ83
  have g84 : zT κ83 (zn κ81) = 49 := by rw [eκ83]; exact if_pos rfl
  refine y_dup dX12_init_118 rfl ?_
  refine y_aln dX12_init_119 rfl ?_
  have h85 := (ztm Wκ81 Mκ83 (ztm Wκ79 Mκ81 h82))
  refine gn_X12_49 Wκ83 dX12_init_120 rfl (Or.inr h85) F.1 ?_
  have g86 := F.1
  replace F := F.2
  refine y_aln dX12_init_123 rfl ?_
  refine gn_X12_61 Wκ83 dX12_init_124 rfl (Or.inr h85) F.1 ?_
  have g87 := F.1
  replace F := F.2
  refine y_aln dX12_init_127 rfl ?_
  replace F := F g84
  replace F := F g86
  replace F := F g87
  have h90 := (ztm Wκ81 Mκ83 (ztm Wκ79 Mκ81 (ztf eκ79 Rκ79 (by decide) (ztm Wκ71 Mκ75 h77) (by decide))))
  replace F := F h90
  refine k_X12_67 Wκ83 dX12_init_128 rfl (Nat.le_of_ble_eq_true rfl) (Nat.le_of_ble_eq_true rfl)  F (fun  κ88 Wκ88 Mκ88 F => ?_) (fun _ _ h9 => False.elim h9)
  replace F := F Wκ88 Mκ88
  have h93 := (ztm Wκ83 Mκ88 g84)
  have Rκ92 := h93
  refine y_flip (ci := 9) Rκ92 (by decide) (Nat.le_trans Wκ81.1.2.2 (Nat.le_refl _)) (fun κ92 eκ92 => ?_)
  have Wκ92 : zW C n0 κ92 := zW_nf Wκ88 eκ92 Rκ92 (by decide) (by decide) F.1
  replace F := F.2 κ92 eκ92 Wκ92
  have Gκ92 : zT κ92 (zn κ81) = 9 := zth eκ92 Rκ92 (by decide)
  have h95 := (ztg eκ92 (Wκ81.nw (ztm Wκ79 Mκ81 h82)) (ztm Wκ83 Mκ88 h85))
  refine pf_X12_70 Wκ92 dX12_init_131 rfl rfl (Or.inr h95) Gκ92 (fun κ94 eκ94 => ?_)
  replace F := F κ94 eκ94
  have Wκ94 : zW C n0 κ94 := zW_ur Wκ92 eκ94 (fun t ht => by cases ht; exact ⟨by decide, Gκ92⟩)
  have Mκ94 : zM (zn κ92) κ92 κ94 := by rw [eκ94]; exact zM.of rfl rfl rfl
  replace F := F Wκ94
  refine y_aln dX12_init_134 rfl ?_
  refine y_newo Wκ94 dX12_init_135 rfl znw_X12_74 znx_X12_74 (by decide) (fun κ96 eκ96 => ?_)
  replace F := F κ96 eκ96
  have Wκ96 : zW C n0 κ96 := zW_no Wκ94 eκ96
  have Mκ96 : zM (zn κ94) κ94 κ96 := zM_no (Wκ94.lo (Nat.le_trans Wκ94.1.2.1 Wκ94.1.2.2) (Nat.le_refl _)) eκ96
  replace F := F Wκ96
  have g97 : zT κ96 (zn κ94) = 51 := by rw [eκ96]; exact if_pos rfl
  refine y_dup dX12_init_138 rfl ?_
  refine y_ic dX12_init_139 zi_2 ?_
  replace F := F g97
  refine k_X12_76 Wκ96 dX12_init_140 rfl (Nat.le_of_ble_eq_true rfl) (Nat.le_of_ble_eq_true rfl)  F (fun  κ98 Wκ98 Mκ98 F => ?_) (fun _ _ h9 => False.elim h9)
  replace F := F Wκ98 Mκ98
  have h102 := (ztm Wκ96 Mκ98 g97)
  have Rκ101 := h102
  refine y_flip (ci := 11) Rκ101 (by decide) (Nat.le_trans Wκ94.1.2.2 (Nat.le_refl _)) (fun κ101 eκ101 => ?_)
  have Wκ101 : zW C n0 κ101 := zW_nf Wκ98 eκ101 Rκ101 (by decide) (by decide) F.1
  replace F := F.2 κ101 eκ101 Wκ101
  have Gκ101 : zT κ101 (zn κ94) = 11 := zth eκ101 Rκ101 (by decide)
  have h104 := (ztg eκ101 (Wκ94.nw (ztm Wκ92 Mκ94 h95)) (ztm Wκ96 Mκ98 (ztm Wκ94 Mκ96 (ztm Wκ92 Mκ94 h95))))
  refine pf_X12_79 Wκ101 dX12_init_143 rfl rfl (Or.inr h104) Gκ101 (fun κ103 eκ103 => ?_)
  replace F := F κ103 eκ103
  have Wκ103 : zW C n0 κ103 := zW_ur Wκ101 eκ103 (fun t ht => by cases ht; exact ⟨by decide, Gκ101⟩)
  have Mκ103 : zM (zn κ101) κ101 κ103 := by rw [eκ103]; exact zM.of rfl rfl rfl
  replace F := F Wκ103
  refine y_aln dX12_init_146 rfl ?_
  refine y_si dX12_init_147 zs_200 ?_
  have b106 := F.1
  refine y_newa (t := 0) Wκ103 dX12_init_150 (by decide) b106 (fun κ105 eκ105 => ?_)
  replace F := F.2 κ105 eκ105
  have Wκ105 : zW C n0 κ105 := zW_na Wκ103 eκ105 (by decide) (by decide) b106.2
  have Mκ105 : zM (zn κ103) κ103 κ105 := zM_na (Wκ103.lo (Nat.le_trans Wκ103.1.2.1 Wκ103.1.2.2) (Nat.le_refl _)) eκ105
  replace F := F Wκ105
  have g107 : zT κ105 (zn κ103) = 20 := by rw [eκ105]; exact if_pos rfl
  have b109 := F.1
  replace F := F.2
  have h110 := (ztm Wκ103 Mκ105 (ztm Wκ101 Mκ103 h104))
  refine pf_X12_83 Wκ105 dX12_init_152 rfl rfl (Or.inr h110) g107 (fun κ108 eκ108 => ?_)
  replace F := F κ108 eκ108
  have Wκ108 : zW C n0 κ108 := zW_uo Wκ105 eκ108 (fun t ht => by cases ht; exact g107) b109
  have Mκ108 : zM (zn κ105) κ105 κ108 := by rw [eκ108]; exact zM.of rfl rfl rfl
  replace F := F Wκ108
  refine y_aln dX12_init_155 rfl ?_
  refine y_ic dX12_init_156 zi_5 ?_
  have b112 := F.1
  refine y_newa (t := 2) Wκ108 dX12_init_157 (by decide) b112 (fun κ111 eκ111 => ?_)
  replace F := F.2 κ111 eκ111
  have Wκ111 : zW C n0 κ111 := zW_na Wκ108 eκ111 (by decide) (by decide) b112.2
  have Mκ111 : zM (zn κ108) κ108 κ111 := zM_na (Wκ108.lo (Nat.le_trans Wκ108.1.2.1 Wκ108.1.2.2) (Nat.le_refl _)) eκ111
  replace F := F Wκ111
  have g113 : zT κ111 (zn κ108) = 22 := by rw [eκ111]; exact if_pos rfl
  have b115 := F.1
  replace F := F.2
  have h116 := (ztm Wκ108 Mκ111 (ztm Wκ105 Mκ108 h110))
  refine pf_X12_87 Wκ111 dX12_init_159 rfl rfl (Or.inr h116) g113 (fun κ114 eκ114 => ?_)
  replace F := F κ114 eκ114
  have Wκ114 : zW C n0 κ114 := zW_uo Wκ111 eκ114 (fun t ht => by cases ht; exact g113) b115
  have Mκ114 : zM (zn κ111) κ111 κ114 := by rw [eκ114]; exact zM.of rfl rfl rfl
  replace F := F Wκ114
  refine y_aln dX12_init_162 rfl ?_
  refine y_bi1 dX12_init_163 zb_34 ?_
  have b118 := F.1
  refine y_newa (t := 0) Wκ114 dX12_init_165 (by decide) b118 (fun κ117 eκ117 => ?_)
  replace F := F.2 κ117 eκ117
  have Wκ117 : zW C n0 κ117 := zW_na Wκ114 eκ117 (by decide) (by decide) b118.2
  have Mκ117 : zM (zn κ114) κ114 κ117 := zM_na (Wκ114.lo (Nat.le_trans Wκ114.1.2.1 Wκ114.1.2.2) (Nat.le_refl _)) eκ117
  replace F := F Wκ117
  have g119 : zT κ117 (zn κ114) = 20 := by rw [eκ117]; exact if_pos rfl
  have b121 := F.1
  replace F := F.2
  have h122 := (ztm Wκ114 Mκ117 (ztm Wκ111 Mκ114 h116))
  refine pf_X12_91 Wκ117 dX12_init_167 rfl rfl (Or.inr h122) g119 (fun κ120 eκ120 => ?_)
  replace F := F κ120 eκ120
  have Wκ120 : zW C n0 κ120 := zW_uo Wκ117 eκ120 (fun t ht => by cases ht; exact g119) b121
  have Mκ120 : zM (zn κ117) κ117 κ120 := by rw [eκ120]; exact zM.of rfl rfl rfl
  replace F := F Wκ120
  refine y_aln dX12_init_170 rfl ?_
  refine y_bi1 dX12_init_171 zb_16 ?_
  have b124 := F.1
  refine y_newa (t := 0) Wκ120 dX12_init_173 (by decide) b124 (fun κ123 eκ123 => ?_)
  replace F := F.2 κ123 eκ123
  have Wκ123 : zW C n0 κ123 := zW_na Wκ120 eκ123 (by decide) (by decide) b124.2
  have Mκ123 : zM (zn κ120) κ120 κ123 := zM_na (Wκ120.lo (Nat.le_trans Wκ120.1.2.1 Wκ120.1.2.2) (Nat.le_refl _)) eκ123
  replace F := F Wκ123
  have g125 : zT κ123 (zn κ120) = 20 := by rw [eκ123]; exact if_pos rfl
  have b127 := F.1
  replace F := F.2
  have h128 := (ztm Wκ120 Mκ123 (ztm Wκ117 Mκ120 h122))
  refine pf_X12_94 Wκ123 dX12_init_175 rfl (Or.inr h128) g125 (fun κ126 eκ126 => ?_)
  replace F := F κ126 eκ126
  have Wκ126 : zW C n0 κ126 := zW_uo Wκ123 eκ126 (fun t ht => by cases ht; exact g125) b127
  have Mκ126 : zM (zn κ123) κ123 κ126 := by rw [eκ126]; exact zM.of rfl rfl rfl
  replace F := F Wκ126
  refine y_aln dX12_init_178 rfl ?_
  refine y_bi1 dX12_init_179 zb_16 ?_
  have b130 := F.1
  refine y_newa (t := 0) Wκ126 dX12_init_181 (by decide) b130 (fun κ129 eκ129 => ?_)
  replace F := F.2 κ129 eκ129
  have Wκ129 : zW C n0 κ129 := zW_na Wκ126 eκ129 (by decide) (by decide) b130.2
  have Mκ129 : zM (zn κ126) κ126 κ129 := zM_na (Wκ126.lo (Nat.le_trans Wκ126.1.2.1 Wκ126.1.2.2) (Nat.le_refl _)) eκ129
  replace F := F Wκ129
  have g131 : zT κ129 (zn κ126) = 20 := by rw [eκ129]; exact if_pos rfl
  have b133 := F.1
  replace F := F.2
  have h134 := (ztm Wκ126 Mκ129 (ztm Wκ123 Mκ126 h128))
  refine pf_X12_97 Wκ129 dX12_init_183 rfl (Or.inr h134) g131 (fun κ132 eκ132 => ?_)
  replace F := F κ132 eκ132
  have Wκ132 : zW C n0 κ132 := zW_uo Wκ129 eκ132 (fun t ht => by cases ht; exact g131) b133
  have Mκ132 : zM (zn κ129) κ129 κ132 := by rw [eκ132]; exact zM.of rfl rfl rfl
  replace F := F Wκ132
  exact y_rv Wκ132 dX12_init_186 rfl F

theorem Ch_init_run {C : zC} {n0 : Nat} {Q : zS → Prop} {a0 : Nat} {κ : zS} (W : zW C n0 κ) (Ta0 : zT κ a0 = 55) (F : w_Ch_init_0 C (zn κ) Q a0 κ) : zRun C 4 mCh_init [.ref a0] κ (oV Q noX) := z_run (m_ent _ 1) (t_Ch_init_0 (W.lo (Nat.le_trans W.1.2.1 W.1.2.2) (Nat.le_refl _)) Ta0 F)

theorem dX12_feed_0 : decode cX12_feed 0 = .ok (.aload_n 0, 1) := by decide +kernel
theorem dX12_feed_1 : decode cX12_feed 1 = .ok (.getfield 12, 3) := by decide +kernel
theorem dX12_feed_4 : decode cX12_feed 4 = .ok (.getfield 100, 3) := by decide +kernel
theorem dX12_feed_7 : decode cX12_feed 7 = .ok (.bipush 20, 2) := by decide +kernel
theorem dX12_feed_9 : decode cX12_feed 9 = .ok (.iadd, 1) := by decide +kernel
theorem dX12_feed_10 : decode cX12_feed 10 = .ok (.ldc 104, 2) := by decide +kernel
theorem dX12_feed_12 : decode cX12_feed 12 = .ok (.if_icmp .le 13, 3) := by decide +kernel
theorem dX12_feed_15 : decode cX12_feed 15 = .ok (.new 105, 3) := by decide +kernel
theorem dX12_feed_18 : decode cX12_feed 18 = .ok (.dup, 1) := by decide +kernel
theorem dX12_feed_19 : decode cX12_feed 19 = .ok (.ldc 107, 2) := by decide +kernel
theorem dX12_feed_21 : decode cX12_feed 21 = .ok (.invokespecial 109, 3) := by decide +kernel
theorem dX12_feed_24 : decode cX12_feed 24 = .ok (.athrow, 1) := by decide +kernel
theorem dX12_feed_25 : decode cX12_feed 25 = .ok (.aload_n 0, 1) := by decide +kernel
theorem dX12_feed_26 : decode cX12_feed 26 = .ok (.getfield 12, 3) := by decide +kernel
theorem dX12_feed_29 : decode cX12_feed 29 = .ok (.aload_n 0, 1) := by decide +kernel
theorem dX12_feed_30 : decode cX12_feed 30 = .ok (.getfield 12, 3) := by decide +kernel
theorem dX12_feed_33 : decode cX12_feed 33 = .ok (.getfield 100, 3) := by decide +kernel
theorem dX12_feed_36 : decode cX12_feed 36 = .ok (.bipush 20, 2) := by decide +kernel
theorem dX12_feed_38 : decode cX12_feed 38 = .ok (.iadd, 1) := by decide +kernel
theorem dX12_feed_39 : decode cX12_feed 39 = .ok (.invokevirtual 112, 3) := by decide +kernel
theorem dX12_feed_42 : decode cX12_feed 42 = .ok (.aload_n 0, 1) := by decide +kernel
theorem dX12_feed_43 : decode cX12_feed 43 = .ok (.getfield 12, 3) := by decide +kernel
theorem dX12_feed_46 : decode cX12_feed 46 = .ok (.iload_n 1, 1) := by decide +kernel
theorem dX12_feed_47 : decode cX12_feed 47 = .ok (.invokevirtual 115, 3) := by decide +kernel
theorem dX12_feed_50 : decode cX12_feed 50 = .ok (.aload_n 0, 1) := by decide +kernel
theorem dX12_feed_51 : decode cX12_feed 51 = .ok (.getfield 12, 3) := by decide +kernel
theorem dX12_feed_54 : decode cX12_feed 54 = .ok (.iload_n 2, 1) := by decide +kernel
theorem dX12_feed_55 : decode cX12_feed 55 = .ok (.invokevirtual 115, 3) := by decide +kernel
theorem dX12_feed_58 : decode cX12_feed 58 = .ok (.aload_n 0, 1) := by decide +kernel
theorem dX12_feed_59 : decode cX12_feed 59 = .ok (.getfield 12, 3) := by decide +kernel
theorem dX12_feed_62 : decode cX12_feed 62 = .ok (.iload_n 3, 1) := by decide +kernel
theorem dX12_feed_63 : decode cX12_feed 63 = .ok (.invokevirtual 115, 3) := by decide +kernel
theorem dX12_feed_66 : decode cX12_feed 66 = .ok (.aload_n 0, 1) := by decide +kernel
theorem dX12_feed_67 : decode cX12_feed 67 = .ok (.getfield 12, 3) := by decide +kernel
theorem dX12_feed_70 : decode cX12_feed 70 = .ok (.iload 4, 2) := by decide +kernel
theorem dX12_feed_72 : decode cX12_feed 72 = .ok (.invokevirtual 115, 3) := by decide +kernel
theorem dX12_feed_75 : decode cX12_feed 75 = .ok (.aload_n 0, 1) := by decide +kernel
theorem dX12_feed_76 : decode cX12_feed 76 = .ok (.getfield 12, 3) := by decide +kernel
theorem dX12_feed_79 : decode cX12_feed 79 = .ok (.iload 5, 2) := by decide +kernel
theorem dX12_feed_81 : decode cX12_feed 81 = .ok (.invokevirtual 115, 3) := by decide +kernel
theorem dX12_feed_84 : decode cX12_feed 84 = .ok (.aload_n 0, 1) := by decide +kernel
theorem dX12_feed_85 : decode cX12_feed 85 = .ok (.getfield 12, 3) := by decide +kernel
theorem dX12_feed_88 : decode cX12_feed 88 = .ok (.getfield 100, 3) := by decide +kernel
theorem dX12_feed_91 : decode cX12_feed 91 = .ok (.ireturn, 1) := by decide +kernel
def w_Ch_feed_0 (C : zC) (n0 : Nat) (Q : Int32 → zS → Prop) (X : zXp)  (a0 : Nat) (a1 : Int32) (a2 : Int32) (a3 : Int32) (a4 : Int32) (a5 : Int32) (κ : zS) : Prop :=
  (((zI κ taLength (zR κ chTape a0)) + (20 : Int32)) ≤ (65536 : Int32) →
    ∀ _ : zT κ (zR κ chTape a0) = 13,
    zRun C 2 mTa_widen [.ref (zR κ chTape a0), .int ((zI κ taLength (zR κ chTape a0)) + (20 : Int32))] κ (oV (fun κ1 =>
      ∀ _ : zW C n0 κ1,
      ∀ _ : zM (zn κ) κ κ1,
      ∀ _ : zT κ1 (zR κ1 chTape a0) = 13,
      zRun C 0 mTa_addWord [.ref (zR κ1 chTape a0), .int a1] κ1 (oV (fun κ5 =>
        ∀ _ : zW C n0 κ5,
        ∀ _ : zM (zn κ1) κ1 κ5,
        ∀ _ : zT κ5 (zR κ5 chTape a0) = 13,
        zRun C 0 mTa_addWord [.ref (zR κ5 chTape a0), .int a2] κ5 (oV (fun κ9 =>
          ∀ _ : zW C n0 κ9,
          ∀ _ : zM (zn κ5) κ5 κ9,
          ∀ _ : zT κ9 (zR κ9 chTape a0) = 13,
          zRun C 0 mTa_addWord [.ref (zR κ9 chTape a0), .int a3] κ9 (oV (fun κ13 =>
            ∀ _ : zW C n0 κ13,
            ∀ _ : zM (zn κ9) κ9 κ13,
            ∀ _ : zT κ13 (zR κ13 chTape a0) = 13,
            zRun C 0 mTa_addWord [.ref (zR κ13 chTape a0), .int a4] κ13 (oV (fun κ17 =>
              ∀ _ : zW C n0 κ17,
              ∀ _ : zM (zn κ13) κ13 κ17,
              ∀ _ : zT κ17 (zR κ17 chTape a0) = 13,
              zRun C 0 mTa_addWord [.ref (zR κ17 chTape a0), .int a5] κ17 (oV (fun κ21 =>
                ∀ _ : zW C n0 κ21,
                ∀ _ : zM (zn κ17) κ17 κ21,
                Q (zI κ21 taLength (zR κ21 chTape a0)) κ21) noX)) noX)) noX)) noX)) noX)) noX)) ∧
  (¬ ((zI κ taLength (zR κ chTape a0)) + (20 : Int32)) ≤ (65536 : Int32) →
    ∀ κ25, κ25 = ut κ → X "java/lang/UnsupportedOperationException" κ25)
theorem t_Ch_feed_0 {C : zC} {n0 : Nat} {Q : Int32 → zS → Prop} {X : zXp}   {a0 : Nat} {a1 : Int32} {a2 : Int32} {a3 : Int32} {a4 : Int32} {a5 : Int32} {κ : zS} (W : zW C n0 κ) (Ta0 : zT κ a0 = 15) (F : w_Ch_feed_0 C n0 Q X  a0 a1 a2 a3 a4 a5 κ) : zG C n0 8 mCh_feed 0 [some (.ref a0), some (.int a1), some (.int a2), some (.int a3), some (.int a4), some (.int a5)] [] κ (oI Q X) := by
  unfold w_Ch_feed_0 at F
  refine y_aln dX12_feed_0 rfl ?_
  refine gf_X12_12 W dX12_feed_1 rfl Ta0 ?_
  refine gf_X12_100 dX12_feed_4 rfl (Or.inl (ty_chTape W Ta0)) ?_
  refine y_bi1 dX12_feed_7 zb_20 ?_
  refine y_iadd dX12_feed_9 ?_
  refine y_ldc dX12_feed_10 rfl zcn_X12_104 ?_
  refine y_ii (((zI κ taLength (zR κ chTape a0)) + (20 : Int32)) ≤ (65536 : Int32)) dX12_feed_12 (t := 25) rfl rfl (fun c9 => ?_) (fun c9 => ?_)
  · replace F := F.1 c9
    refine y_aln dX12_feed_25 rfl ?_
    refine gf_X12_12 W dX12_feed_26 rfl Ta0 ?_
    refine y_aln dX12_feed_29 rfl ?_
    refine gf_X12_12 W dX12_feed_30 rfl Ta0 ?_
    refine gf_X12_100 dX12_feed_33 rfl (Or.inl (ty_chTape W Ta0)) ?_
    refine y_bi1 dX12_feed_36 zb_20 ?_
    refine y_iadd dX12_feed_38 ?_
    replace F := F (ty_chTape W Ta0)
    refine k_X12_112 W dX12_feed_39 rfl (Nat.le_of_ble_eq_true rfl) (Nat.le_of_ble_eq_true rfl) (Or.inl (ty_chTape W Ta0)) F (fun  κ1 Wκ1 Mκ1 F => ?_) (fun _ _ h9 => False.elim h9)
    replace F := F Wκ1 Mκ1
    refine y_aln dX12_feed_42 rfl ?_
    have h4 := (ztm W Mκ1 Ta0)
    refine gf_X12_12 Wκ1 dX12_feed_43 rfl h4 ?_
    refine y_iln dX12_feed_46 rfl ?_
    replace F := F (ty_chTape Wκ1 h4)
    refine k_X12_115 Wκ1 dX12_feed_47 rfl (Nat.le_of_ble_eq_true rfl) (Nat.le_of_ble_eq_true rfl) (Or.inl (ty_chTape Wκ1 h4)) F (fun  κ5 Wκ5 Mκ5 F => ?_) (fun _ _ h9 => False.elim h9)
    replace F := F Wκ5 Mκ5
    refine y_aln dX12_feed_50 rfl ?_
    have h8 := (ztm Wκ1 Mκ5 h4)
    refine gf_X12_12 Wκ5 dX12_feed_51 rfl h8 ?_
    refine y_iln dX12_feed_54 rfl ?_
    replace F := F (ty_chTape Wκ5 h8)
    refine k_X12_115 Wκ5 dX12_feed_55 rfl (Nat.le_of_ble_eq_true rfl) (Nat.le_of_ble_eq_true rfl) (Or.inl (ty_chTape Wκ5 h8)) F (fun  κ9 Wκ9 Mκ9 F => ?_) (fun _ _ h9 => False.elim h9)
    replace F := F Wκ9 Mκ9
    refine y_aln dX12_feed_58 rfl ?_
    have h12 := (ztm Wκ5 Mκ9 h8)
    refine gf_X12_12 Wκ9 dX12_feed_59 rfl h12 ?_
    refine y_iln dX12_feed_62 rfl ?_
    replace F := F (ty_chTape Wκ9 h12)
    refine k_X12_115 Wκ9 dX12_feed_63 rfl (Nat.le_of_ble_eq_true rfl) (Nat.le_of_ble_eq_true rfl) (Or.inl (ty_chTape Wκ9 h12)) F (fun  κ13 Wκ13 Mκ13 F => ?_) (fun _ _ h9 => False.elim h9)
    replace F := F Wκ13 Mκ13
    refine y_aln dX12_feed_66 rfl ?_
    have h16 := (ztm Wκ9 Mκ13 h12)
    refine gf_X12_12 Wκ13 dX12_feed_67 rfl h16 ?_
    refine y_il dX12_feed_70 rfl ?_
    replace F := F (ty_chTape Wκ13 h16)
    refine k_X12_115 Wκ13 dX12_feed_72 rfl (Nat.le_of_ble_eq_true rfl) (Nat.le_of_ble_eq_true rfl) (Or.inl (ty_chTape Wκ13 h16)) F (fun  κ17 Wκ17 Mκ17 F => ?_) (fun _ _ h9 => False.elim h9)
    replace F := F Wκ17 Mκ17
    refine y_aln dX12_feed_75 rfl ?_
    have h20 := (ztm Wκ13 Mκ17 h16)
    refine gf_X12_12 Wκ17 dX12_feed_76 rfl h20 ?_
    refine y_il dX12_feed_79 rfl ?_
    replace F := F (ty_chTape Wκ17 h20)
    refine k_X12_115 Wκ17 dX12_feed_81 rfl (Nat.le_of_ble_eq_true rfl) (Nat.le_of_ble_eq_true rfl) (Or.inl (ty_chTape Wκ17 h20)) F (fun  κ21 Wκ21 Mκ21 F => ?_) (fun _ _ h9 => False.elim h9)
    replace F := F Wκ21 Mκ21
    refine y_aln dX12_feed_84 rfl ?_
    have h24 := (ztm Wκ17 Mκ21 h20)
    refine gf_X12_12 Wκ21 dX12_feed_85 rfl h24 ?_
    refine gf_X12_100 dX12_feed_88 rfl (Or.inl (ty_chTape Wκ21 h24)) ?_
    exact y_ri Wκ21 dX12_feed_91 rfl in_nar F
  · replace F := F.2 c9
    exact y_thr W (dxat_yes dX12_feed_15 dX12_feed_18 dX12_feed_19 dX12_feed_21 dX12_feed_24 rfl rfl rfl) (Nat.le_of_ble_eq_true rfl) (Nat.le_of_ble_eq_true rfl) (fun κ9 e9 => Or.inr ⟨_, rfl, F κ9 e9⟩)

theorem Ch_feed_run {C : zC} {n0 : Nat} {Q : Int32 → zS → Prop} {X : zXp} {a0 : Nat} {a1 : Int32} {a2 : Int32} {a3 : Int32} {a4 : Int32} {a5 : Int32} {κ : zS} (W : zW C n0 κ) (Ta0 : zT κ a0 = 15) (F : w_Ch_feed_0 C (zn κ) Q X a0 a1 a2 a3 a4 a5 κ) : zRun C 8 mCh_feed [.ref a0, .int a1, .int a2, .int a3, .int a4, .int a5] κ (oI Q X) := z_run (m_ent _ 0) (t_Ch_feed_0 (W.lo (Nat.le_trans W.1.2.1 W.1.2.2) (Nat.le_refl _)) Ta0 F)

theorem dX12_end_0 : decode cX12_end 0 = .ok (.iload_n 1, 1) := by decide +kernel
theorem dX12_end_1 : decode cX12_end 1 = .ok (.ifCond .lt 14, 3) := by decide +kernel
theorem dX12_end_4 : decode cX12_end 4 = .ok (.iload_n 1, 1) := by decide +kernel
theorem dX12_end_5 : decode cX12_end 5 = .ok (.aload_n 0, 1) := by decide +kernel
theorem dX12_end_6 : decode cX12_end 6 = .ok (.getfield 12, 3) := by decide +kernel
theorem dX12_end_9 : decode cX12_end 9 = .ok (.getfield 100, 3) := by decide +kernel
theorem dX12_end_12 : decode cX12_end 12 = .ok (.if_icmp .le 13, 3) := by decide +kernel
theorem dX12_end_15 : decode cX12_end 15 = .ok (.new 118, 3) := by decide +kernel
theorem dX12_end_18 : decode cX12_end 18 = .ok (.dup, 1) := by decide +kernel
theorem dX12_end_19 : decode cX12_end 19 = .ok (.ldc 120, 2) := by decide +kernel
theorem dX12_end_21 : decode cX12_end 21 = .ok (.invokespecial 122, 3) := by decide +kernel
theorem dX12_end_24 : decode cX12_end 24 = .ok (.athrow, 1) := by decide +kernel
theorem dX12_end_25 : decode cX12_end 25 = .ok (.aload_n 0, 1) := by decide +kernel
theorem dX12_end_26 : decode cX12_end 26 = .ok (.getfield 12, 3) := by decide +kernel
theorem dX12_end_29 : decode cX12_end 29 = .ok (.iload_n 1, 1) := by decide +kernel
theorem dX12_end_30 : decode cX12_end 30 = .ok (.putfield 100, 3) := by decide +kernel
theorem dX12_end_33 : decode cX12_end 33 = .ok (.return_, 1) := by decide +kernel
def w_Ch_end_0 (C : zC) (n0 : Nat) (Q : zS → Prop) (X : zXp)  (a0 : Nat) (a1 : Int32) (κ : zS) : Prop :=
  (a1 < (0 : Int32) →
    ∀ κ1, κ1 = ut κ → X "java/lang/IllegalArgumentException" κ1) ∧
  (¬ a1 < (0 : Int32) →
    (a1 ≤ (zI κ taLength (zR κ chTape a0)) →
      ∀ κ2, κ2 = ui κ taLength (zR κ chTape a0) a1 →
      ∀ _ : zW C n0 κ2,
      Q κ2) ∧
    (¬ a1 ≤ (zI κ taLength (zR κ chTape a0)) →
      ∀ κ3, κ3 = ut κ → X "java/lang/IllegalArgumentException" κ3))
theorem t_Ch_end_0 {C : zC} {n0 : Nat} {Q : zS → Prop} {X : zXp}   {a0 : Nat} {a1 : Int32} {κ : zS} (W : zW C n0 κ) (Ta0 : zT κ a0 = 15) (F : w_Ch_end_0 C n0 Q X  a0 a1 κ) : zG C n0 8 mCh_end 0 [some (.ref a0), some (.int a1)] [] κ (oV Q X) := by
  unfold w_Ch_end_0 at F
  refine y_iln dX12_end_0 rfl ?_
  refine y_i (a1 < (0 : Int32)) dX12_end_1 (t := 15) rfl rfl (fun c9 => ?_) (fun c9 => ?_)
  · replace F := F.1 c9
    exact y_thr W (dxat_yes dX12_end_15 dX12_end_18 dX12_end_19 dX12_end_21 dX12_end_24 rfl rfl rfl) (Nat.le_of_ble_eq_true rfl) (Nat.le_of_ble_eq_true rfl) (fun κ9 e9 => Or.inr ⟨_, rfl, F κ9 e9⟩)
  · replace F := F.2 c9
    refine y_iln dX12_end_4 rfl ?_
    refine y_aln dX12_end_5 rfl ?_
    refine gf_X12_12 W dX12_end_6 rfl Ta0 ?_
    refine gf_X12_100 dX12_end_9 rfl (Or.inl (ty_chTape W Ta0)) ?_
    refine y_ii (a1 ≤ (zI κ taLength (zR κ chTape a0))) dX12_end_12 (t := 25) rfl rfl (fun c9 => ?_) (fun c9 => ?_)
    · replace F := F.1 c9
      refine y_aln dX12_end_25 rfl ?_
      refine gf_X12_12 W dX12_end_26 rfl Ta0 ?_
      refine y_iln dX12_end_29 rfl ?_
      refine pf_X12_100 W dX12_end_30 rfl (Or.inl (ty_chTape W Ta0)) (fun κ2 eκ2 => ?_)
      replace F := F κ2 eκ2
      have Wκ2 : zW C n0 κ2 := zW_ui W eκ2 (fun h => absurd h (by decide))
      have Mκ2 : zM (zn κ) κ κ2 := by rw [eκ2]; exact zM.of rfl rfl rfl
      replace F := F Wκ2
      exact y_rv Wκ2 dX12_end_33 rfl F
    · replace F := F.2 c9
      exact y_thr W (dxat_yes dX12_end_15 dX12_end_18 dX12_end_19 dX12_end_21 dX12_end_24 rfl rfl rfl) (Nat.le_of_ble_eq_true rfl) (Nat.le_of_ble_eq_true rfl) (fun κ9 e9 => Or.inr ⟨_, rfl, F κ9 e9⟩)

theorem Ch_end_run {C : zC} {n0 : Nat} {Q : zS → Prop} {X : zXp} {a0 : Nat} {a1 : Int32} {κ : zS} (W : zW C n0 κ) (Ta0 : zT κ a0 = 15) (F : w_Ch_end_0 C (zn κ) Q X a0 a1 κ) : zRun C 8 mCh_end [.ref a0, .int a1] κ (oV Q X) := z_run (m_ent _ 0) (t_Ch_end_0 (W.lo (Nat.le_trans W.1.2.1 W.1.2.2) (Nat.le_refl _)) Ta0 F)

theorem dX12_fault_0 : decode cX12_fault 0 = .ok (.aload_n 0, 1) := by decide +kernel
theorem dX12_fault_1 : decode cX12_fault 1 = .ok (.getfield 131, 3) := by decide +kernel
theorem dX12_fault_4 : decode cX12_fault 4 = .ok (.ireturn, 1) := by decide +kernel
def w_Ch_fault_0 (C : zC) (n0 : Nat) (Q : Int32 → zS → Prop)  (a0 : Nat) (κ : zS) : Prop :=
  Q (zI κ chFaultCode a0) κ
theorem t_Ch_fault_0 {C : zC} {n0 : Nat} {Q : Int32 → zS → Prop}   {a0 : Nat} {κ : zS} (W : zW C n0 κ) (Ta0 : zT κ a0 = 15) (F : w_Ch_fault_0 C n0 Q  a0 κ) : zG C n0 0 mCh_fault 0 [some (.ref a0)] [] κ (oI Q noX) := by
  unfold w_Ch_fault_0 at F
  refine y_aln dX12_fault_0 rfl ?_
  refine gf_X12_131 dX12_fault_1 rfl (Or.inl Ta0) ?_
  exact y_ri W dX12_fault_4 rfl in_nar F

theorem Ch_fault_run {C : zC} {n0 : Nat} {Q : Int32 → zS → Prop} {a0 : Nat} {κ : zS} (W : zW C n0 κ) (Ta0 : zT κ a0 = 15) (F : w_Ch_fault_0 C (zn κ) Q a0 κ) : zRun C 0 mCh_fault [.ref a0] κ (oI Q noX) := z_run (m_ent _ 0) (t_Ch_fault_0 (W.lo (Nat.le_trans W.1.2.1 W.1.2.2) (Nat.le_refl _)) Ta0 F)

theorem dX12_count_0 : decode cX12_count 0 = .ok (.iload_n 1, 1) := by decide +kernel
theorem dX12_count_1 : decode cX12_count 1 = .ok (.ifCond .lt 9, 3) := by decide +kernel
theorem dX12_count_4 : decode cX12_count 4 = .ok (.iload_n 1, 1) := by decide +kernel
theorem dX12_count_5 : decode cX12_count 5 = .ok (.bipush 11, 2) := by decide +kernel
theorem dX12_count_7 : decode cX12_count 7 = .ok (.if_icmp .le 13, 3) := by decide +kernel
theorem dX12_count_10 : decode cX12_count 10 = .ok (.new 154, 3) := by decide +kernel
theorem dX12_count_13 : decode cX12_count 13 = .ok (.dup, 1) := by decide +kernel
theorem dX12_count_14 : decode cX12_count 14 = .ok (.ldc 156, 2) := by decide +kernel
theorem dX12_count_16 : decode cX12_count 16 = .ok (.invokespecial 158, 3) := by decide +kernel
theorem dX12_count_19 : decode cX12_count 19 = .ok (.athrow, 1) := by decide +kernel
theorem dX12_count_20 : decode cX12_count 20 = .ok (.iload_n 1, 1) := by decide +kernel
theorem dX12_count_21 : decode cX12_count 21 = .ok (.bipush 11, 2) := by decide +kernel
theorem dX12_count_23 : decode cX12_count 23 = .ok (.if_icmp .ne 11, 3) := by decide +kernel
theorem dX12_count_26 : decode cX12_count 26 = .ok (.aload_n 0, 1) := by decide +kernel
theorem dX12_count_27 : decode cX12_count 27 = .ok (.getfield 12, 3) := by decide +kernel
theorem dX12_count_30 : decode cX12_count 30 = .ok (.getfield 100, 3) := by decide +kernel
theorem dX12_count_33 : decode cX12_count 33 = .ok (.ireturn, 1) := by decide +kernel
theorem dX12_count_34 : decode cX12_count 34 = .ok (.iload_n 1, 1) := by decide +kernel
theorem dX12_count_35 : decode cX12_count 35 = .ok (.iconst 4, 1) := by decide +kernel
theorem dX12_count_36 : decode cX12_count 36 = .ok (.if_icmp .ge 23, 3) := by decide +kernel
theorem dX12_count_39 : decode cX12_count 39 = .ok (.aload_n 0, 1) := by decide +kernel
theorem dX12_count_40 : decode cX12_count 40 = .ok (.getfield 135, 3) := by decide +kernel
theorem dX12_count_43 : decode cX12_count 43 = .ok (.ifCond .eq 14, 3) := by decide +kernel
theorem dX12_count_46 : decode cX12_count 46 = .ok (.aload_n 0, 1) := by decide +kernel
theorem dX12_count_47 : decode cX12_count 47 = .ok (.getfield 19, 3) := by decide +kernel
theorem dX12_count_50 : decode cX12_count 50 = .ok (.iload_n 1, 1) := by decide +kernel
theorem dX12_count_51 : decode cX12_count 51 = .ok (.invokevirtual 159, 3) := by decide +kernel
theorem dX12_count_54 : decode cX12_count 54 = .ok (.goto 4, 3) := by decide +kernel
theorem dX12_count_57 : decode cX12_count 57 = .ok (.iconst 0, 1) := by decide +kernel
theorem dX12_count_58 : decode cX12_count 58 = .ok (.ireturn, 1) := by decide +kernel
theorem dX12_count_59 : decode cX12_count 59 = .ok (.aload_n 0, 1) := by decide +kernel
theorem dX12_count_60 : decode cX12_count 60 = .ok (.getfield 49, 3) := by decide +kernel
theorem dX12_count_63 : decode cX12_count 63 = .ok (.getfield 139, 3) := by decide +kernel
theorem dX12_count_66 : decode cX12_count 66 = .ok (.ifCond .eq 14, 3) := by decide +kernel
theorem dX12_count_69 : decode cX12_count 69 = .ok (.aload_n 0, 1) := by decide +kernel
theorem dX12_count_70 : decode cX12_count 70 = .ok (.getfield 49, 3) := by decide +kernel
theorem dX12_count_73 : decode cX12_count 73 = .ok (.iload_n 1, 1) := by decide +kernel
theorem dX12_count_74 : decode cX12_count 74 = .ok (.invokevirtual 163, 3) := by decide +kernel
theorem dX12_count_77 : decode cX12_count 77 = .ok (.goto 4, 3) := by decide +kernel
theorem dX12_count_80 : decode cX12_count 80 = .ok (.iconst 0, 1) := by decide +kernel
theorem dX12_count_81 : decode cX12_count 81 = .ok (.ireturn, 1) := by decide +kernel
def w_Ch_count_0 (C : zC) (n0 : Nat) (Q : Int32 → zS → Prop) (X : zXp)  (a0 : Nat) (a1 : Int32) (κ : zS) : Prop :=
  (a1 < (0 : Int32) →
    ∀ κ1, κ1 = ut κ → X "java/lang/IndexOutOfBoundsException" κ1) ∧
  (¬ a1 < (0 : Int32) →
    (a1 ≤ (11 : Int32) →
      (¬ a1 = (11 : Int32) →
        ((4 : Int32) ≤ a1 →
          ((zI κ atExplored (zR κ chAtlas a0)) = (0 : Int32) →
            Q (0 : Int32) κ) ∧
          (¬ (zI κ atExplored (zR κ chAtlas a0)) = (0 : Int32) →
            ∀ _ : zT κ (zR κ chAtlas a0) = 3,
            zRun C 1 mAt_howMany [.ref (zR κ chAtlas a0), .int a1] κ (oI (fun r3 κ2 =>
              ∀ _ : zW C n0 κ2,
              ∀ _ : zM (zn κ) κ κ2,
              Q r3 κ2) noX))) ∧
        (¬ (4 : Int32) ≤ a1 →
          ((zI κ chReady a0) = (0 : Int32) →
            Q (0 : Int32) κ) ∧
          (¬ (zI κ chReady a0) = (0 : Int32) →
            ∀ _ : zT κ (zR κ chCode a0) = 5,
            zRun C 0 mCo_howMany [.ref (zR κ chCode a0), .int a1] κ (oI (fun r6 κ5 =>
              ∀ _ : zW C n0 κ5,
              ∀ _ : zM (zn κ) κ κ5,
              Q r6 κ5) noX)))) ∧
      (a1 = (11 : Int32) →
        Q (zI κ taLength (zR κ chTape a0)) κ)) ∧
    (¬ a1 ≤ (11 : Int32) →
      ∀ κ8, κ8 = ut κ → X "java/lang/IndexOutOfBoundsException" κ8))
theorem t_Ch_count_0 {C : zC} {n0 : Nat} {Q : Int32 → zS → Prop} {X : zXp}   {a0 : Nat} {a1 : Int32} {κ : zS} (W : zW C n0 κ) (Ta0 : zT κ a0 = 15) (F : w_Ch_count_0 C n0 Q X  a0 a1 κ) : zG C n0 8 mCh_count 0 [some (.ref a0), some (.int a1)] [] κ (oI Q X) := by
  unfold w_Ch_count_0 at F
  refine y_iln dX12_count_0 rfl ?_
  refine y_i (a1 < (0 : Int32)) dX12_count_1 (t := 10) rfl rfl (fun c9 => ?_) (fun c9 => ?_)
  · replace F := F.1 c9
    exact y_thr W (dxat_yes dX12_count_10 dX12_count_13 dX12_count_14 dX12_count_16 dX12_count_19 rfl rfl rfl) (Nat.le_of_ble_eq_true rfl) (Nat.le_of_ble_eq_true rfl) (fun κ9 e9 => Or.inr ⟨_, rfl, F κ9 e9⟩)
  · replace F := F.2 c9
    refine y_iln dX12_count_4 rfl ?_
    refine y_bi1 dX12_count_5 zb_11 ?_
    refine y_ii (a1 ≤ (11 : Int32)) dX12_count_7 (t := 20) rfl rfl (fun c9 => ?_) (fun c9 => ?_)
    · replace F := F.1 c9
      refine y_iln dX12_count_20 rfl ?_
      refine y_bi1 dX12_count_21 zb_11 ?_
      refine y_iin (a1 = (11 : Int32)) dX12_count_23 (t := 34) rfl rfl (fun c9 => ?_) (fun c9 => ?_)
      · replace F := F.1 c9
        refine y_iln dX12_count_34 rfl ?_
        refine y_ic dX12_count_35 zi_4 ?_
        refine y_ii ((4 : Int32) ≤ a1) dX12_count_36 (t := 59) rfl rfl (fun c9 => ?_) (fun c9 => ?_)
        · replace F := F.1 c9
          refine y_aln dX12_count_59 rfl ?_
          refine gf_X12_49 W dX12_count_60 rfl Ta0 ?_
          refine gf_X12_139 dX12_count_63 rfl (Or.inl (ty_chAtlas W Ta0)) ?_
          refine y_i ((zI κ atExplored (zR κ chAtlas a0)) = (0 : Int32)) dX12_count_66 (t := 80) rfl rfl (fun c9 => ?_) (fun c9 => ?_)
          · replace F := F.1 c9
            refine y_ic dX12_count_80 zi_0 ?_
            exact y_ri W dX12_count_81 rfl in_nar F
          · replace F := F.2 c9
            refine y_aln dX12_count_69 rfl ?_
            refine gf_X12_49 W dX12_count_70 rfl Ta0 ?_
            refine y_iln dX12_count_73 rfl ?_
            replace F := F (ty_chAtlas W Ta0)
            refine k_X12_163 W dX12_count_74 rfl (Nat.le_of_ble_eq_true rfl) (Nat.le_of_ble_eq_true rfl) (Or.inl (ty_chAtlas W Ta0)) F (fun r3 κ2 Wκ2 Mκ2 F => ?_) (fun _ _ h9 => False.elim h9)
            replace F := F Wκ2 Mκ2
            refine y_goto dX12_count_77 (t := 81) rfl ?_
            exact y_ri Wκ2 dX12_count_81 rfl in_nar F
        · replace F := F.2 c9
          refine y_aln dX12_count_39 rfl ?_
          refine gf_X12_135 dX12_count_40 rfl (Or.inl Ta0) ?_
          refine y_i ((zI κ chReady a0) = (0 : Int32)) dX12_count_43 (t := 57) rfl rfl (fun c9 => ?_) (fun c9 => ?_)
          · replace F := F.1 c9
            refine y_ic dX12_count_57 zi_0 ?_
            exact y_ri W dX12_count_58 rfl in_nar F
          · replace F := F.2 c9
            refine y_aln dX12_count_46 rfl ?_
            refine gf_X12_19 W dX12_count_47 rfl Ta0 ?_
            refine y_iln dX12_count_50 rfl ?_
            replace F := F (ty_chCode W Ta0)
            refine k_X12_159 W dX12_count_51 rfl (Nat.le_of_ble_eq_true rfl) (Nat.le_of_ble_eq_true rfl) (Or.inl (ty_chCode W Ta0)) F (fun r6 κ5 Wκ5 Mκ5 F => ?_) (fun _ _ h9 => False.elim h9)
            replace F := F Wκ5 Mκ5
            refine y_goto dX12_count_54 (t := 58) rfl ?_
            exact y_ri Wκ5 dX12_count_58 rfl in_nar F
      · replace F := F.2 c9
        refine y_aln dX12_count_26 rfl ?_
        refine gf_X12_12 W dX12_count_27 rfl Ta0 ?_
        refine gf_X12_100 dX12_count_30 rfl (Or.inl (ty_chTape W Ta0)) ?_
        exact y_ri W dX12_count_33 rfl in_nar F
    · replace F := F.2 c9
      exact y_thr W (dxat_yes dX12_count_10 dX12_count_13 dX12_count_14 dX12_count_16 dX12_count_19 rfl rfl rfl) (Nat.le_of_ble_eq_true rfl) (Nat.le_of_ble_eq_true rfl) (fun κ9 e9 => Or.inr ⟨_, rfl, F κ9 e9⟩)

theorem Ch_count_run {C : zC} {n0 : Nat} {Q : Int32 → zS → Prop} {X : zXp} {a0 : Nat} {a1 : Int32} {κ : zS} (W : zW C n0 κ) (Ta0 : zT κ a0 = 15) (F : w_Ch_count_0 C (zn κ) Q X a0 a1 κ) : zRun C 8 mCh_count [.ref a0, .int a1] κ (oI Q X) := z_run (m_ent _ 0) (t_Ch_count_0 (W.lo (Nat.le_trans W.1.2.1 W.1.2.2) (Nat.le_refl _)) Ta0 F)

