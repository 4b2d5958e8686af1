/-! methods of the class: Ta_isMain, Pa_findCalled, Ta_addToken, Ta_isDigit, Ta_isLetter, Ta_wordOf, Ta_kindOf, Ta_sizeAt, Ta_skipBlanks, Ta_split -/
theorem dX10_isMain_0 : decode cX10_isMain 0 = .ok (.iload_n 1, 1) := by decide +kernel
theorem dX10_isMain_1 : decode cX10_isMain 1 = .ok (.ifCond .lt 42, 3) := by decide +kernel
theorem dX10_isMain_4 : decode cX10_isMain 4 = .ok (.iload_n 1, 1) := by decide +kernel
theorem dX10_isMain_5 : decode cX10_isMain 5 = .ok (.aload_n 0, 1) := by decide +kernel
theorem dX10_isMain_6 : decode cX10_isMain 6 = .ok (.getfield 35, 3) := by decide +kernel
theorem dX10_isMain_9 : decode cX10_isMain 9 = .ok (.if_icmp .ge 34, 3) := by decide +kernel
theorem dX10_isMain_12 : decode cX10_isMain 12 = .ok (.aload_n 0, 1) := by decide +kernel
theorem dX10_isMain_13 : decode cX10_isMain 13 = .ok (.getfield 22, 3) := by decide +kernel
theorem dX10_isMain_16 : decode cX10_isMain 16 = .ok (.iload_n 1, 1) := by decide +kernel
theorem dX10_isMain_17 : decode cX10_isMain 17 = .ok (.iaload, 1) := by decide +kernel
theorem dX10_isMain_18 : decode cX10_isMain 18 = .ok (.iconst 4, 1) := by decide +kernel
theorem dX10_isMain_19 : decode cX10_isMain 19 = .ok (.if_icmp .ne 24, 3) := by decide +kernel
theorem dX10_isMain_22 : decode cX10_isMain 22 = .ok (.aload_n 0, 1) := by decide +kernel
theorem dX10_isMain_23 : decode cX10_isMain 23 = .ok (.aload_n 0, 1) := by decide +kernel
theorem dX10_isMain_24 : decode cX10_isMain 24 = .ok (.getfield 19, 3) := by decide +kernel
theorem dX10_isMain_27 : decode cX10_isMain 27 = .ok (.iload_n 1, 1) := by decide +kernel
theorem dX10_isMain_28 : decode cX10_isMain 28 = .ok (.iaload, 1) := by decide +kernel
theorem dX10_isMain_29 : decode cX10_isMain 29 = .ok (.iconst 4, 1) := by decide +kernel
theorem dX10_isMain_30 : decode cX10_isMain 30 = .ok (.ldc 89, 2) := by decide +kernel
theorem dX10_isMain_32 : decode cX10_isMain 32 = .ok (.iconst 0, 1) := by decide +kernel
theorem dX10_isMain_33 : decode cX10_isMain 33 = .ok (.invokevirtual 85, 3) := by decide +kernel
theorem dX10_isMain_36 : decode cX10_isMain 36 = .ok (.ifCond .eq 7, 3) := by decide +kernel
theorem dX10_isMain_39 : decode cX10_isMain 39 = .ok (.iconst 1, 1) := by decide +kernel
theorem dX10_isMain_40 : decode cX10_isMain 40 = .ok (.goto 4, 3) := by decide +kernel
theorem dX10_isMain_43 : decode cX10_isMain 43 = .ok (.iconst 0, 1) := by decide +kernel
theorem dX10_isMain_44 : decode cX10_isMain 44 = .ok (.ireturn, 1) := by decide +kernel
def w_Ta_isMain_0 (C : zC) (n0 : Nat) (Q : Int32 → zS → Prop)  (a0 : Nat) (a1 : Int32) (κ : zS) : Prop :=
  (a1 < (0 : Int32) →
    Q (0 : Int32) κ) ∧
  (¬ a1 < (0 : Int32) →
    ((zI κ taTotal a0) ≤ a1 →
      Q (0 : Int32) κ) ∧
    (¬ (zI κ taTotal a0) ≤ a1 →
      inb a1 (zN κ (zR κ taLengths a0)) ∧
      (¬ (zA κ (zR κ taLengths a0) (a1).toNatClampNeg) = (4 : Int32) →
        Q (0 : Int32) κ) ∧
      ((zA κ (zR κ taLengths a0) (a1).toNatClampNeg) = (4 : Int32) →
        inb a1 (zN κ (zR κ taPlaces a0)) ∧
        ∀ _ : zT κ a0 = 13,
        ∀ _ : isTx C (C.1 3),
        zRun C 10 mTa_reads [.ref a0, .int (zA κ (zR κ taPlaces a0) (a1).toNatClampNeg), .int (4 : Int32), .ref (C.1 3), .int (0 : Int32)] κ (oI (fun r2 κ1 =>
          ∀ _ : zW C n0 κ1,
          ∀ _ : zM (zn κ) κ κ1,
          (r2 = (0 : Int32) →
            Q (0 : Int32) κ1) ∧
          (¬ r2 = (0 : Int32) →
            Q (1 : Int32) κ1)) noX))))
theorem t_Ta_isMain_0 {C : zC} {n0 : Nat} {Q : Int32 → zS → Prop}   {a0 : Nat} {a1 : Int32} {κ : zS} (W : zW C n0 κ) (Ta0 : zT κ a0 = 13) (F : w_Ta_isMain_0 C n0 Q  a0 a1 κ) : zG C n0 11 mTa_isMain 0 [some (.ref a0), some (.int a1)] [] κ (oI Q noX) := by
  unfold w_Ta_isMain_0 at F
  refine y_iln dX10_isMain_0 rfl ?_
  refine y_i (a1 < (0 : Int32)) dX10_isMain_1 (t := 43) rfl rfl (fun c9 => ?_) (fun c9 => ?_)
  · replace F := F.1 c9
    refine y_ic dX10_isMain_43 zi_0 ?_
    exact y_ri W dX10_isMain_44 rfl (nb_nar nb_0) F
  · replace F := F.2 c9
    refine y_iln dX10_isMain_4 rfl ?_
    refine y_aln dX10_isMain_5 rfl ?_
    refine gf_X10_35 dX10_isMain_6 rfl (Or.inl Ta0) ?_
    refine y_ii ((zI κ taTotal a0) ≤ a1) dX10_isMain_9 (t := 43) rfl rfl (fun c9 => ?_) (fun c9 => ?_)
    · replace F := F.1 c9
      refine y_ic dX10_isMain_43 zi_0 ?_
      exact y_ri W dX10_isMain_44 rfl (nb_nar nb_0) F
    · replace F := F.2 c9
      refine y_aln dX10_isMain_12 rfl ?_
      refine gf_X10_22 W dX10_isMain_13 rfl Ta0 ?_
      refine y_iln dX10_isMain_16 rfl ?_
      refine y_ald dX10_isMain_17 (ty_taLengths W Ta0) F.1 ?_
      replace F := F.2
      refine y_ic dX10_isMain_18 zi_4 ?_
      refine y_iin ((zA κ (zR κ taLengths a0) (a1).toNatClampNeg) = (4 : Int32)) dX10_isMain_19 (t := 43) rfl rfl (fun c9 => ?_) (fun c9 => ?_)
      · replace F := F.1 c9
        refine y_ic dX10_isMain_43 zi_0 ?_
        exact y_ri W dX10_isMain_44 rfl (nb_nar nb_0) F
      · replace F := F.2 c9
        refine y_aln dX10_isMain_22 rfl ?_
        refine y_aln dX10_isMain_23 rfl ?_
        refine gf_X10_19 W dX10_isMain_24 rfl Ta0 ?_
        refine y_iln dX10_isMain_27 rfl ?_
        refine y_ald dX10_isMain_28 (ty_taPlaces W Ta0) F.1 ?_
        replace F := F.2
        refine y_ic dX10_isMain_29 zi_4 ?_
        refine y_ldcs dX10_isMain_30 rfl zcs_X10_89 zsr_X10_89 ?_
        refine y_ic dX10_isMain_32 zi_0 ?_
        replace F := F Ta0
        replace F := F (W.1.1.2 3 (by decide))
        refine k_X10_85 W dX10_isMain_33 rfl (Nat.le_of_ble_eq_true rfl) (Nat.le_of_ble_eq_true rfl) (Or.inl Ta0) F (fun r2 κ1 Wκ1 Mκ1 F => ?_) (fun _ _ h9 => False.elim h9)
        replace F := F Wκ1 Mκ1
        refine y_i (r2 = (0 : Int32)) dX10_isMain_36 (t := 43) rfl rfl (fun c9 => ?_) (fun c9 => ?_)
        · replace F := F.1 c9
          refine y_ic dX10_isMain_43 zi_0 ?_
          exact y_ri Wκ1 dX10_isMain_44 rfl (nb_nar nb_0) F
        · replace F := F.2 c9
          refine y_ic dX10_isMain_39 zi_1 ?_
          refine y_goto dX10_isMain_40 (t := 44) rfl ?_
          exact y_ri Wκ1 dX10_isMain_44 rfl (nb_nar nb_1) F

theorem Ta_isMain_run {C : zC} {n0 : Nat} {Q : Int32 → zS → Prop} {a0 : Nat} {a1 : Int32} {κ : zS} (W : zW C n0 κ) (Ta0 : zT κ a0 = 13) (F : w_Ta_isMain_0 C (zn κ) Q a0 a1 κ) : zRun C 11 mTa_isMain [.ref a0, .int a1] κ (oI Q noX) := z_run (m_ent _ 0) (t_Ta_isMain_0 (W.lo (Nat.le_trans W.1.2.1 W.1.2.2) (Nat.le_refl _)) Ta0 F)

theorem dX7_findCalled_0 : decode cX7_findCalled 0 = .ok (.iconst 0, 1) := by decide +kernel
theorem dX7_findCalled_1 : decode cX7_findCalled 1 = .ok (.istore_n 1, 1) := by decide +kernel
theorem dX7_findCalled_2 : decode cX7_findCalled 2 = .ok (.iload_n 1, 1) := by decide +kernel
theorem dX7_findCalled_3 : decode cX7_findCalled 3 = .ok (.aload_n 0, 1) := by decide +kernel
theorem dX7_findCalled_4 : decode cX7_findCalled 4 = .ok (.getfield 15, 3) := by decide +kernel
theorem dX7_findCalled_7 : decode cX7_findCalled 7 = .ok (.getfield 197, 3) := by decide +kernel
theorem dX7_findCalled_10 : decode cX7_findCalled 10 = .ok (.if_icmp .ge 95, 3) := by decide +kernel
theorem dX7_findCalled_13 : decode cX7_findCalled 13 = .ok (.aload_n 0, 1) := by decide +kernel
theorem dX7_findCalled_14 : decode cX7_findCalled 14 = .ok (.getfield 15, 3) := by decide +kernel
theorem dX7_findCalled_17 : decode cX7_findCalled 17 = .ok (.iload_n 1, 1) := by decide +kernel
theorem dX7_findCalled_18 : decode cX7_findCalled 18 = .ok (.iconst 0, 1) := by decide +kernel
theorem dX7_findCalled_19 : decode cX7_findCalled 19 = .ok (.invokevirtual 194, 3) := by decide +kernel
theorem dX7_findCalled_22 : decode cX7_findCalled 22 = .ok (.iconst 5, 1) := by decide +kernel
theorem dX7_findCalled_23 : decode cX7_findCalled 23 = .ok (.if_icmp .ne 76, 3) := by decide +kernel
theorem dX7_findCalled_26 : decode cX7_findCalled 26 = .ok (.aload_n 0, 1) := by decide +kernel
theorem dX7_findCalled_27 : decode cX7_findCalled 27 = .ok (.getfield 15, 3) := by decide +kernel
theorem dX7_findCalled_30 : decode cX7_findCalled 30 = .ok (.iload_n 1, 1) := by decide +kernel
theorem dX7_findCalled_31 : decode cX7_findCalled 31 = .ok (.iconst 5, 1) := by decide +kernel
theorem dX7_findCalled_32 : decode cX7_findCalled 32 = .ok (.invokevirtual 194, 3) := by decide +kernel
theorem dX7_findCalled_35 : decode cX7_findCalled 35 = .ok (.istore_n 2, 1) := by decide +kernel
theorem dX7_findCalled_36 : decode cX7_findCalled 36 = .ok (.aload_n 0, 1) := by decide +kernel
theorem dX7_findCalled_37 : decode cX7_findCalled 37 = .ok (.getfield 9, 3) := by decide +kernel
theorem dX7_findCalled_40 : decode cX7_findCalled 40 = .ok (.aload_n 0, 1) := by decide +kernel
theorem dX7_findCalled_41 : decode cX7_findCalled 41 = .ok (.getfield 26, 3) := by decide +kernel
theorem dX7_findCalled_44 : decode cX7_findCalled 44 = .ok (.aload_n 0, 1) := by decide +kernel
theorem dX7_findCalled_45 : decode cX7_findCalled 45 = .ok (.getfield 15, 3) := by decide +kernel
theorem dX7_findCalled_48 : decode cX7_findCalled 48 = .ok (.getfield 140, 3) := by decide +kernel
theorem dX7_findCalled_51 : decode cX7_findCalled 51 = .ok (.iload_n 2, 1) := by decide +kernel
theorem dX7_findCalled_52 : decode cX7_findCalled 52 = .ok (.invokevirtual 133, 3) := by decide +kernel
theorem dX7_findCalled_55 : decode cX7_findCalled 55 = .ok (.istore_n 3, 1) := by decide +kernel
theorem dX7_findCalled_56 : decode cX7_findCalled 56 = .ok (.iload_n 3, 1) := by decide +kernel
theorem dX7_findCalled_57 : decode cX7_findCalled 57 = .ok (.iconst (-1), 1) := by decide +kernel
theorem dX7_findCalled_58 : decode cX7_findCalled 58 = .ok (.if_icmp .eq 24, 3) := by decide +kernel
theorem dX7_findCalled_61 : decode cX7_findCalled 61 = .ok (.aload_n 0, 1) := by decide +kernel
theorem dX7_findCalled_62 : decode cX7_findCalled 62 = .ok (.getfield 15, 3) := by decide +kernel
theorem dX7_findCalled_65 : decode cX7_findCalled 65 = .ok (.getfield 184, 3) := by decide +kernel
theorem dX7_findCalled_68 : decode cX7_findCalled 68 = .ok (.iload_n 3, 1) := by decide +kernel
theorem dX7_findCalled_69 : decode cX7_findCalled 69 = .ok (.iaload, 1) := by decide +kernel
theorem dX7_findCalled_70 : decode cX7_findCalled 70 = .ok (.aload_n 0, 1) := by decide +kernel
theorem dX7_findCalled_71 : decode cX7_findCalled 71 = .ok (.getfield 15, 3) := by decide +kernel
theorem dX7_findCalled_74 : decode cX7_findCalled 74 = .ok (.iload_n 1, 1) := by decide +kernel
theorem dX7_findCalled_75 : decode cX7_findCalled 75 = .ok (.iconst 4, 1) := by decide +kernel
theorem dX7_findCalled_76 : decode cX7_findCalled 76 = .ok (.invokevirtual 194, 3) := by decide +kernel
theorem dX7_findCalled_79 : decode cX7_findCalled 79 = .ok (.if_icmp .eq 10, 3) := by decide +kernel
theorem dX7_findCalled_82 : decode cX7_findCalled 82 = .ok (.aload_n 0, 1) := by decide +kernel
theorem dX7_findCalled_83 : decode cX7_findCalled 83 = .ok (.bipush 16, 2) := by decide +kernel
theorem dX7_findCalled_85 : decode cX7_findCalled 85 = .ok (.iload_n 2, 1) := by decide +kernel
theorem dX7_findCalled_86 : decode cX7_findCalled 86 = .ok (.invokevirtual 123, 3) := by decide +kernel
theorem dX7_findCalled_89 : decode cX7_findCalled 89 = .ok (.aload_n 0, 1) := by decide +kernel
theorem dX7_findCalled_90 : decode cX7_findCalled 90 = .ok (.getfield 15, 3) := by decide +kernel
theorem dX7_findCalled_93 : decode cX7_findCalled 93 = .ok (.iload_n 1, 1) := by decide +kernel
theorem dX7_findCalled_94 : decode cX7_findCalled 94 = .ok (.iconst 5, 1) := by decide +kernel
theorem dX7_findCalled_95 : decode cX7_findCalled 95 = .ok (.iload_n 3, 1) := by decide +kernel
theorem dX7_findCalled_96 : decode cX7_findCalled 96 = .ok (.invokevirtual 201, 3) := by decide +kernel
theorem dX7_findCalled_99 : decode cX7_findCalled 99 = .ok (.iinc 1 1, 3) := by decide +kernel
theorem dX7_findCalled_102 : decode cX7_findCalled 102 = .ok (.goto (-100), 3) := by decide +kernel
theorem dX7_findCalled_105 : decode cX7_findCalled 105 = .ok (.iconst 0, 1) := by decide +kernel
theorem dX7_findCalled_106 : decode cX7_findCalled 106 = .ok (.istore_n 1, 1) := by decide +kernel
theorem dX7_findCalled_107 : decode cX7_findCalled 107 = .ok (.iload_n 1, 1) := by decide +kernel
theorem dX7_findCalled_108 : decode cX7_findCalled 108 = .ok (.aload_n 0, 1) := by decide +kernel
theorem dX7_findCalled_109 : decode cX7_findCalled 109 = .ok (.getfield 15, 3) := by decide +kernel
theorem dX7_findCalled_112 : decode cX7_findCalled 112 = .ok (.getfield 140, 3) := by decide +kernel
theorem dX7_findCalled_115 : decode cX7_findCalled 115 = .ok (.if_icmp .ge 51, 3) := by decide +kernel
theorem dX7_findCalled_118 : decode cX7_findCalled 118 = .ok (.iload_n 1, 1) := by decide +kernel
theorem dX7_findCalled_119 : decode cX7_findCalled 119 = .ok (.bipush 10, 2) := by decide +kernel
theorem dX7_findCalled_121 : decode cX7_findCalled 121 = .ok (.if_icmp .ge 45, 3) := by decide +kernel
theorem dX7_findCalled_124 : decode cX7_findCalled 124 = .ok (.aload_n 0, 1) := by decide +kernel
theorem dX7_findCalled_125 : decode cX7_findCalled 125 = .ok (.getfield 9, 3) := by decide +kernel
theorem dX7_findCalled_128 : decode cX7_findCalled 128 = .ok (.aload_n 0, 1) := by decide +kernel
theorem dX7_findCalled_129 : decode cX7_findCalled 129 = .ok (.getfield 26, 3) := by decide +kernel
theorem dX7_findCalled_132 : decode cX7_findCalled 132 = .ok (.iload_n 1, 1) := by decide +kernel
theorem dX7_findCalled_133 : decode cX7_findCalled 133 = .ok (.iaload, 1) := by decide +kernel
theorem dX7_findCalled_134 : decode cX7_findCalled 134 = .ok (.invokevirtual 273, 3) := by decide +kernel
theorem dX7_findCalled_137 : decode cX7_findCalled 137 = .ok (.ifCond .eq 23, 3) := by decide +kernel
theorem dX7_findCalled_140 : decode cX7_findCalled 140 = .ok (.aload_n 0, 1) := by decide +kernel
theorem dX7_findCalled_141 : decode cX7_findCalled 141 = .ok (.getfield 15, 3) := by decide +kernel
theorem dX7_findCalled_144 : decode cX7_findCalled 144 = .ok (.getfield 184, 3) := by decide +kernel
theorem dX7_findCalled_147 : decode cX7_findCalled 147 = .ok (.iload_n 1, 1) := by decide +kernel
theorem dX7_findCalled_148 : decode cX7_findCalled 148 = .ok (.iaload, 1) := by decide +kernel
theorem dX7_findCalled_149 : decode cX7_findCalled 149 = .ok (.ifCond .ne 11, 3) := by decide +kernel
theorem dX7_findCalled_152 : decode cX7_findCalled 152 = .ok (.aload_n 0, 1) := by decide +kernel
theorem dX7_findCalled_153 : decode cX7_findCalled 153 = .ok (.getfield 15, 3) := by decide +kernel
theorem dX7_findCalled_156 : decode cX7_findCalled 156 = .ok (.iload_n 1, 1) := by decide +kernel
theorem dX7_findCalled_157 : decode cX7_findCalled 157 = .ok (.putfield 276, 3) := by decide +kernel
theorem dX7_findCalled_160 : decode cX7_findCalled 160 = .ok (.iinc 1 1, 3) := by decide +kernel
theorem dX7_findCalled_163 : decode cX7_findCalled 163 = .ok (.goto (-56), 3) := by decide +kernel
theorem dX7_findCalled_166 : decode cX7_findCalled 166 = .ok (.aload_n 0, 1) := by decide +kernel
theorem dX7_findCalled_167 : decode cX7_findCalled 167 = .ok (.getfield 15, 3) := by decide +kernel
theorem dX7_findCalled_170 : decode cX7_findCalled 170 = .ok (.getfield 276, 3) := by decide +kernel
theorem dX7_findCalled_173 : decode cX7_findCalled 173 = .ok (.iconst (-1), 1) := by decide +kernel
theorem dX7_findCalled_174 : decode cX7_findCalled 174 = .ok (.if_icmp .ne 13, 3) := by decide +kernel
theorem dX7_findCalled_177 : decode cX7_findCalled 177 = .ok (.aload_n 0, 1) := by decide +kernel
theorem dX7_findCalled_178 : decode cX7_findCalled 178 = .ok (.bipush 17, 2) := by decide +kernel
theorem dX7_findCalled_180 : decode cX7_findCalled 180 = .ok (.aload_n 0, 1) := by decide +kernel
theorem dX7_findCalled_181 : decode cX7_findCalled 181 = .ok (.getfield 55, 3) := by decide +kernel
theorem dX7_findCalled_184 : decode cX7_findCalled 184 = .ok (.invokevirtual 123, 3) := by decide +kernel
theorem dX7_findCalled_187 : decode cX7_findCalled 187 = .ok (.return_, 1) := by decide +kernel
def w_Pa_findCalled_89 (C : zC) (n0 : Nat) (Q : zS → Prop) (X : zXp) (B2 : Nat → Int32 → zS → Prop) (a0 : Nat) (a1 : Int32) (a3 : Int32) (κ : zS) : Prop :=
  ∀ _ : zT κ (zR κ paCode a0) = 5,
  zRun C 0 mCo_setColumn [.ref (zR κ paCode a0), .int a1, .int (5 : Int32), .int a3] κ (oV (fun κ1 =>
    ∀ _ : zW C n0 κ1,
    ∀ _ : zM (zn κ) κ κ1,
    ∀ v1_4 : Int32, v1_4 = a1 + (1 : Int32) →
    B2 a0 v1_4 κ1) noX)
theorem t_Pa_findCalled_89 {C : zC} {n0 : Nat} {Q : zS → Prop} {X : zXp} {B2 : Nat → Int32 → zS → Prop} (hB2 : ∀ a0' a1' τ, zW C n0 τ → zT τ a0' = 10 → B2 a0' a1' τ → zG C n0 12 mPa_findCalled 2 [some (.ref a0'), some (.int a1'), none, none] [] τ (oV Q X)) {a0 : Nat} {a1 : Int32} {a3 : Int32} {κ : zS} (W : zW C n0 κ) (Ta0 : zT κ a0 = 10) (F : w_Pa_findCalled_89 C n0 Q X B2 a0 a1 a3 κ) : zG C n0 12 mPa_findCalled 89 [some (.ref a0), some (.int a1), none, some (.int a3)] [] κ (oV Q X) := by
  unfold w_Pa_findCalled_89 at F
  refine y_aln dX7_findCalled_89 rfl ?_
  refine gf_X7_15 W dX7_findCalled_90 rfl Ta0 ?_
  refine y_iln dX7_findCalled_93 rfl ?_
  refine y_ic dX7_findCalled_94 zi_5 ?_
  refine y_iln dX7_findCalled_95 rfl ?_
  replace F := F (ty_paCode W Ta0)
  refine k_X7_201 W dX7_findCalled_96 rfl (Nat.le_of_ble_eq_true rfl) (Nat.le_of_ble_eq_true rfl) (Or.inl (ty_paCode W Ta0)) F (fun  κ1 Wκ1 Mκ1 F => ?_) (fun _ _ h9 => False.elim h9)
  replace F := F Wκ1 Mκ1
  refine y_incb dX7_findCalled_99 zi_1 rfl (Nat.le_of_ble_eq_true rfl) (fun v1_4 ev1_4 => ?_)
  replace F := F v1_4 ev1_4
  show zG _ _ _ _ _ [some (.ref a0), some (.int v1_4), none, some (.int a3)] _ _ _
  refine y_goto dX7_findCalled_102 (t := 2) rfl ?_
  have h5 := (ztm W Mκ1 Ta0)
  exact y_k (hB2 _ _ _ Wκ1 h5 F) ⟨rfl, rfl, trivial⟩

def w_Pa_findCalled_82 (C : zC) (n0 : Nat) (Q : zS → Prop) (X : zXp) (B2 : Nat → Int32 → zS → Prop) (a0 : Nat) (a1 : Int32) (a2 : Int32) (a3 : Int32) (κ : zS) : Prop :=
  ∀ _ : zT κ a0 = 10,
  zRun C 8 mPa_refuse [.ref a0, .int (16 : Int32), .int a2] κ (oV (fun κ1 =>
    ∀ _ : zW C n0 κ1,
    ∀ _ : zM (zn κ) κ κ1,
    w_Pa_findCalled_89 C n0 Q X B2 a0 a1 a3 κ1) X)
theorem t_Pa_findCalled_82 {C : zC} {n0 : Nat} {Q : zS → Prop} {X : zXp} {B2 : Nat → Int32 → zS → Prop} (hB2 : ∀ a0' a1' τ, zW C n0 τ → zT τ a0' = 10 → B2 a0' a1' τ → zG C n0 12 mPa_findCalled 2 [some (.ref a0'), some (.int a1'), none, none] [] τ (oV Q X)) {a0 : Nat} {a1 : Int32} {a2 : Int32} {a3 : Int32} {κ : zS} (W : zW C n0 κ) (Ta0 : zT κ a0 = 10) (F : w_Pa_findCalled_82 C n0 Q X B2 a0 a1 a2 a3 κ) : zG C n0 12 mPa_findCalled 82 [some (.ref a0), some (.int a1), some (.int a2), some (.int a3)] [] κ (oV Q X) := by
  unfold w_Pa_findCalled_82 at F
  refine y_aln dX7_findCalled_82 rfl ?_
  refine y_bi1 dX7_findCalled_83 zb_16 ?_
  refine y_iln dX7_findCalled_85 rfl ?_
  replace F := F Ta0
  refine k_X7_123 W dX7_findCalled_86 rfl (Nat.le_of_ble_eq_true rfl) (Nat.le_of_ble_eq_true rfl) (Or.inl Ta0) F (fun  κ1 Wκ1 Mκ1 F => ?_) (fun cls9 κ9 h9 => Or.inr ⟨_, rfl, h9⟩)
  replace F := F Wκ1 Mκ1
  have h4 := (ztm W Mκ1 Ta0)
  exact y_k (t_Pa_findCalled_89 hB2 Wκ1 h4 F) ⟨rfl, rfl, rfl, trivial⟩

def w_Pa_findCalled_166 (C : zC) (n0 : Nat) (Q : zS → Prop) (X : zXp)  (a0 : Nat) (κ : zS) : Prop :=
  (¬ (zI κ coMain (zR κ paCode a0)) = (-1 : Int32) →
    Q κ) ∧
  ((zI κ coMain (zR κ paCode a0)) = (-1 : Int32) →
    ∀ _ : zT κ a0 = 10,
    zRun C 8 mPa_refuse [.ref a0, .int (17 : Int32), .int (zI κ paAt a0)] κ (oV (fun κ1 =>
      ∀ _ : zW C n0 κ1,
      ∀ _ : zM (zn κ) κ κ1,
      Q κ1) X))
theorem t_Pa_findCalled_166 {C : zC} {n0 : Nat} {Q : zS → Prop} {X : zXp}   {a0 : Nat} {κ : zS} (W : zW C n0 κ) (Ta0 : zT κ a0 = 10) (F : w_Pa_findCalled_166 C n0 Q X  a0 κ) : zG C n0 12 mPa_findCalled 166 [some (.ref a0), none, none, none] [] κ (oV Q X) := by
  unfold w_Pa_findCalled_166 at F
  refine y_aln dX7_findCalled_166 rfl ?_
  refine gf_X7_15 W dX7_findCalled_167 rfl Ta0 ?_
  refine gf_X7_276 dX7_findCalled_170 rfl (Or.inl (ty_paCode W Ta0)) ?_
  refine y_ic dX7_findCalled_173 zi_m1 ?_
  refine y_iin ((zI κ coMain (zR κ paCode a0)) = (-1 : Int32)) dX7_findCalled_174 (t := 187) rfl rfl (fun c9 => ?_) (fun c9 => ?_)
  · replace F := F.1 c9
    exact y_rv W dX7_findCalled_187 rfl F
  · replace F := F.2 c9
    refine y_aln dX7_findCalled_177 rfl ?_
    refine y_bi1 dX7_findCalled_178 zb_17 ?_
    refine y_aln dX7_findCalled_180 rfl ?_
    refine gf_X7_55 dX7_findCalled_181 rfl (Or.inl Ta0) ?_
    replace F := F Ta0
    refine k_X7_123 W dX7_findCalled_184 rfl (Nat.le_of_ble_eq_true rfl) (Nat.le_of_ble_eq_true rfl) (Or.inl Ta0) F (fun  κ1 Wκ1 Mκ1 F => ?_) (fun cls9 κ9 h9 => Or.inr ⟨_, rfl, h9⟩)
    replace F := F Wκ1 Mκ1
    exact y_rv Wκ1 dX7_findCalled_187 rfl F

def w_Pa_findCalled_107 (C : zC) (n0 : Nat) (Q : zS → Prop) (X : zXp)  (a0 : Nat) (a1 : Int32) (κ : zS) : Prop :=
  ∃ I : Nat → Nat → Int32 → zS → Prop, (∃ n, I n a0 a1 κ) ∧ ∀ n a0 a1 κ, zW C n0 κ → zT κ a0 = 10 → I n a0 a1 κ →
    ((zI κ coFunctions (zR κ paCode a0)) ≤ a1 →
      w_Pa_findCalled_166 C n0 Q X  a0 κ) ∧
    (¬ (zI κ coFunctions (zR κ paCode a0)) ≤ a1 →
      ((10 : Int32) ≤ a1 →
        w_Pa_findCalled_166 C n0 Q X  a0 κ) ∧
      (¬ (10 : Int32) ≤ a1 →
        inb a1 (zN κ (zR κ paFunctionNames a0)) ∧
        ∀ _ : zT κ (zR κ paTape a0) = 13,
        zRun C 11 mTa_isMain [.ref (zR κ paTape a0), .int (zA κ (zR κ paFunctionNames a0) (a1).toNatClampNeg)] κ (oI (fun r2 κ1 =>
          ∀ _ : zW C n0 κ1,
          ∀ _ : zM (zn κ) κ κ1,
          (r2 = (0 : Int32) →
            ∀ v1_4 : Int32, v1_4 = a1 + (1 : Int32) →
            ∃ k < n, I k a0 v1_4 κ1) ∧
          (¬ r2 = (0 : Int32) →
            inb a1 (zN κ1 (zR κ1 coNameCounts (zR κ1 paCode a0))) ∧
            (¬ (zA κ1 (zR κ1 coNameCounts (zR κ1 paCode a0)) (a1).toNatClampNeg) = (0 : Int32) →
              ∀ v1_7 : Int32, v1_7 = a1 + (1 : Int32) →
              ∃ k < n, I k a0 v1_7 κ1) ∧
            ((zA κ1 (zR κ1 coNameCounts (zR κ1 paCode a0)) (a1).toNatClampNeg) = (0 : Int32) →
              ∀ κ8, κ8 = ui κ1 coMain (zR κ1 paCode a0) a1 →
              ∀ _ : zW C n0 κ8,
              ∀ v1_9 : Int32, v1_9 = a1 + (1 : Int32) →
              ∃ k < n, I k a0 v1_9 κ8))) noX)))
theorem t_Pa_findCalled_107 {C : zC} {n0 : Nat} {Q : zS → Prop} {X : zXp}   {a0 : Nat} {a1 : Int32} {κ : zS} (W : zW C n0 κ) (Ta0 : zT κ a0 = 10) (F : w_Pa_findCalled_107 C n0 Q X  a0 a1 κ) : zG C n0 12 mPa_findCalled 107 [some (.ref a0), some (.int a1), none, none] [] κ (oV Q X) := by
  obtain ⟨I, ⟨m0, hI0⟩, F0⟩ := F
  have key : ∀ n a0 a1 κ, zW C n0 κ → zT κ a0 = 10 → I n a0 a1 κ → zG C n0 12 mPa_findCalled 107 [some (.ref a0), some (.int a1), none, none] [] κ (oV Q X) := by
    intro n
    induction n using Nat.strongRecOn with
    | _ n ih =>
      intro a0 a1 κ W Ta0 hI
      have F := F0 n a0 a1 κ W Ta0 hI
      clear hI hI0
      refine y_iln dX7_findCalled_107 rfl ?_
      refine y_aln dX7_findCalled_108 rfl ?_
      refine gf_X7_15 W dX7_findCalled_109 rfl Ta0 ?_
      refine gf_X7_140 dX7_findCalled_112 rfl (Or.inl (ty_paCode W Ta0)) ?_
      refine y_ii ((zI κ coFunctions (zR κ paCode a0)) ≤ a1) dX7_findCalled_115 (t := 166) rfl rfl (fun c9 => ?_) (fun c9 => ?_)
      · replace F := F.1 c9
        exact y_k (t_Pa_findCalled_166  W Ta0 F) ⟨rfl, trivial⟩
      · replace F := F.2 c9
        refine y_iln dX7_findCalled_118 rfl ?_
        refine y_bi1 dX7_findCalled_119 zb_10 ?_
        refine y_ii ((10 : Int32) ≤ a1) dX7_findCalled_121 (t := 166) rfl rfl (fun c9 => ?_) (fun c9 => ?_)
        · replace F := F.1 c9
          exact y_k (t_Pa_findCalled_166  W Ta0 F) ⟨rfl, trivial⟩
        · replace F := F.2 c9
          refine y_aln dX7_findCalled_124 rfl ?_
          refine gf_X7_9 W dX7_findCalled_125 rfl Ta0 ?_
          refine y_aln dX7_findCalled_128 rfl ?_
          refine gf_X7_26 W dX7_findCalled_129 rfl Ta0 ?_
          refine y_iln dX7_findCalled_132 rfl ?_
          refine y_ald dX7_findCalled_133 (ty_paFunctionNames W Ta0) F.1 ?_
          replace F := F.2
          replace F := F (ty_paTape W Ta0)
          refine k_X7_273 W dX7_findCalled_134 rfl (Nat.le_of_ble_eq_true rfl) (Nat.le_of_ble_eq_true rfl) (Or.inl (ty_paTape W Ta0)) F (fun r2 κ1 Wκ1 Mκ1 F => ?_) (fun _ _ h9 => False.elim h9)
          replace F := F Wκ1 Mκ1
          refine y_i (r2 = (0 : Int32)) dX7_findCalled_137 (t := 160) rfl rfl (fun c9 => ?_) (fun c9 => ?_)
          · replace F := F.1 c9
            refine y_incb dX7_findCalled_160 zi_1 rfl (Nat.le_of_ble_eq_true rfl) (fun v1_4 ev1_4 => ?_)
            replace F := F v1_4 ev1_4
            show zG _ _ _ _ _ [some (.ref a0), some (.int v1_4), none, none] _ _ _
            refine y_goto dX7_findCalled_163 (t := 107) rfl ?_
            have h5 := (ztm W Mκ1 Ta0)
            obtain ⟨k, hk, hI⟩ := F
            exact y_k (ih k hk _ _ _ Wκ1 h5 hI) ⟨rfl, rfl, trivial⟩
          · replace F := F.2 c9
            refine y_aln dX7_findCalled_140 rfl ?_
            have h6 := (ztm W Mκ1 Ta0)
            refine gf_X7_15 Wκ1 dX7_findCalled_141 rfl h6 ?_
            refine gf_X7_184 Wκ1 dX7_findCalled_144 rfl (ty_paCode Wκ1 h6) ?_
            refine y_iln dX7_findCalled_147 rfl ?_
            refine y_ald dX7_findCalled_148 (ty_coNameCounts Wκ1 (ty_paCode Wκ1 h6)) F.1 ?_
            replace F := F.2
            refine y_in ((zA κ1 (zR κ1 coNameCounts (zR κ1 paCode a0)) (a1).toNatClampNeg) = (0 : Int32)) dX7_findCalled_149 (t := 160) rfl rfl (fun c9 => ?_) (fun c9 => ?_)
            · replace F := F.1 c9
              refine y_incb dX7_findCalled_160 zi_1 rfl (Nat.le_of_ble_eq_true rfl) (fun v1_7 ev1_7 => ?_)
              replace F := F v1_7 ev1_7
              show zG _ _ _ _ _ [some (.ref a0), some (.int v1_7), none, none] _ _ _
              refine y_goto dX7_findCalled_163 (t := 107) rfl ?_
              obtain ⟨k, hk, hI⟩ := F
              exact y_k (ih k hk _ _ _ Wκ1 h6 hI) ⟨rfl, rfl, trivial⟩
            · replace F := F.2 c9
              refine y_aln dX7_findCalled_152 rfl ?_
              refine gf_X7_15 Wκ1 dX7_findCalled_153 rfl h6 ?_
              refine y_iln dX7_findCalled_156 rfl ?_
              refine pf_X7_276 Wκ1 dX7_findCalled_157 rfl (Or.inl (ty_paCode Wκ1 h6)) (fun κ8 eκ8 => ?_)
              replace F := F κ8 eκ8
              have Wκ8 : zW C n0 κ8 := zW_ui Wκ1 eκ8 (fun h => absurd h (by decide))
              have Mκ8 : zM (zn κ1) κ1 κ8 := by rw [eκ8]; exact zM.of rfl rfl rfl
              replace F := F Wκ8
              refine y_incb dX7_findCalled_160 zi_1 rfl (Nat.le_of_ble_eq_true rfl) (fun v1_9 ev1_9 => ?_)
              replace F := F v1_9 ev1_9
              show zG _ _ _ _ _ [some (.ref a0), some (.int v1_9), none, none] _ _ _
              refine y_goto dX7_findCalled_163 (t := 107) rfl ?_
              have h10 := (ztm Wκ1 Mκ8 h6)
              obtain ⟨k, hk, hI⟩ := F
              exact y_k (ih k hk _ _ _ Wκ8 h10 hI) ⟨rfl, rfl, trivial⟩
  exact key m0 a0 a1 κ W Ta0 hI0

def w_Pa_findCalled_2 (C : zC) (n0 : Nat) (Q : zS → Prop) (X : zXp)  (a0 : Nat) (a1 : Int32) (κ : zS) : Prop :=
  ∃ I : Nat → Nat → Int32 → zS → Prop, (∃ n, I n a0 a1 κ) ∧ ∀ n a0 a1 κ, zW C n0 κ → zT κ a0 = 10 → I n a0 a1 κ →
    ((zI κ coStatements (zR κ paCode a0)) ≤ a1 →
      w_Pa_findCalled_107 C n0 Q X  a0 (0 : Int32) κ) ∧
    (¬ (zI κ coStatements (zR κ paCode a0)) ≤ a1 →
      ∀ _ : zT κ (zR κ paCode a0) = 5,
      zRun C 0 mCo_column [.ref (zR κ paCode a0), .int a1, .int (0 : Int32)] κ (oI (fun r2 κ1 =>
        ∀ _ : zW C n0 κ1,
        ∀ _ : zM (zn κ) κ κ1,
        (¬ r2 = (5 : Int32) →
          ∀ v1_4 : Int32, v1_4 = a1 + (1 : Int32) →
          ∃ k < n, I k a0 v1_4 κ1) ∧
        (r2 = (5 : Int32) →
          ∀ _ : zT κ1 (zR κ1 paCode a0) = 5,
          zRun C 0 mCo_column [.ref (zR κ1 paCode a0), .int a1, .int (5 : Int32)] κ1 (oI (fun r8 κ7 =>
            ∀ _ : zW C n0 κ7,
            ∀ _ : zM (zn κ1) κ1 κ7,
            ∀ _ : zT κ7 (zR κ7 paTape a0) = 13,
            ∀ _ : zT κ7 (zR κ7 paFunctionNames a0) = 20,
            zRun C 0 mTa_findName [.ref (zR κ7 paTape a0), .ref (zR κ7 paFunctionNames a0), .int (zI κ7 coFunctions (zR κ7 paCode a0)), .int r8] κ7 (oI (fun r12 κ11 =>
              ∀ _ : zW C n0 κ11,
              ∀ _ : zM (zn κ7) κ7 κ11,
              (r12 = (-1 : Int32) →
                w_Pa_findCalled_82 C n0 Q X (fun a0' a1' τ => ∃ k < n, I k a0' a1' τ) a0 a1 r8 r12 κ11) ∧
              (¬ r12 = (-1 : Int32) →
                inb r12 (zN κ11 (zR κ11 coNameCounts (zR κ11 paCode a0))) ∧
                ∀ _ : zT κ11 (zR κ11 paCode a0) = 5,
                zRun C 0 mCo_column [.ref (zR κ11 paCode a0), .int a1, .int (4 : Int32)] κ11 (oI (fun r17 κ16 =>
                  ∀ _ : zW C n0 κ16,
                  ∀ _ : zM (zn κ11) κ11 κ16,
                  ((zA κ11 (zR κ11 coNameCounts (zR κ11 paCode a0)) (r12).toNatClampNeg) = r17 →
                    w_Pa_findCalled_89 C n0 Q X (fun a0' a1' τ => ∃ k < n, I k a0' a1' τ) a0 a1 r12 κ16) ∧
                  (¬ (zA κ11 (zR κ11 coNameCounts (zR κ11 paCode a0)) (r12).toNatClampNeg) = r17 →
                    w_Pa_findCalled_82 C n0 Q X (fun a0' a1' τ => ∃ k < n, I k a0' a1' τ) a0 a1 r8 r12 κ16)) noX))) noX)) noX))) noX))
theorem t_Pa_findCalled_2 {C : zC} {n0 : Nat} {Q : zS → Prop} {X : zXp}   {a0 : Nat} {a1 : Int32} {κ : zS} (W : zW C n0 κ) (Ta0 : zT κ a0 = 10) (F : w_Pa_findCalled_2 C n0 Q X  a0 a1 κ) : zG C n0 12 mPa_findCalled 2 [some (.ref a0), some (.int a1), none, none] [] κ (oV Q X) := by
  obtain ⟨I, ⟨m0, hI0⟩, F0⟩ := F
  have key : ∀ n a0 a1 κ, zW C n0 κ → zT κ a0 = 10 → I n a0 a1 κ → zG C n0 12 mPa_findCalled 2 [some (.ref a0), some (.int a1), none, none] [] κ (oV Q X) := by
    intro n
    induction n using Nat.strongRecOn with
    | _ n ih =>
      intro a0 a1 κ W Ta0 hI
      have F := F0 n a0 a1 κ W Ta0 hI
      clear hI hI0
      refine y_iln dX7_findCalled_2 rfl ?_
      refine y_aln dX7_findCalled_3 rfl ?_
      refine gf_X7_15 W dX7_findCalled_4 rfl Ta0 ?_
      refine gf_X7_197 dX7_findCalled_7 rfl (Or.inl (ty_paCode W Ta0)) ?_
      refine y_ii ((zI κ coStatements (zR κ paCode a0)) ≤ a1) dX7_findCalled_10 (t := 105) rfl rfl (fun c9 => ?_) (fun c9 => ?_)
      · replace F := F.1 c9
        refine y_ic dX7_findCalled_105 zi_0 ?_
        refine y_isn dX7_findCalled_106 (Nat.le_of_ble_eq_true rfl) rfl ?_
        show zG _ _ _ _ _ [some (.ref a0), some (.int (0 : Int32)), none, none] _ _ _
        exact y_k (t_Pa_findCalled_107  W Ta0 F) ⟨rfl, rfl, trivial⟩
      · replace F := F.2 c9
        refine y_aln dX7_findCalled_13 rfl ?_
        refine gf_X7_15 W dX7_findCalled_14 rfl Ta0 ?_
        refine y_iln dX7_findCalled_17 rfl ?_
        refine y_ic dX7_findCalled_18 zi_0 ?_
        replace F := F (ty_paCode W Ta0)
        refine k_X7_194 W dX7_findCalled_19 rfl (Nat.le_of_ble_eq_true rfl) (Nat.le_of_ble_eq_true rfl) (Or.inl (ty_paCode W Ta0)) F (fun r2 κ1 Wκ1 Mκ1 F => ?_) (fun _ _ h9 => False.elim h9)
        replace F := F Wκ1 Mκ1
        refine y_ic dX7_findCalled_22 zi_5 ?_
        refine y_iin (r2 = (5 : Int32)) dX7_findCalled_23 (t := 99) rfl rfl (fun c9 => ?_) (fun c9 => ?_)
        · replace F := F.1 c9
          refine y_incb dX7_findCalled_99 zi_1 rfl (Nat.le_of_ble_eq_true rfl) (fun v1_4 ev1_4 => ?_)
          replace F := F v1_4 ev1_4
          show zG _ _ _ _ _ [some (.ref a0), some (.int v1_4), none, none] _ _ _
          refine y_goto dX7_findCalled_102 (t := 2) rfl ?_
          have h5 := (ztm W Mκ1 Ta0)
          obtain ⟨k, hk, hI⟩ := F
          exact y_k (ih k hk _ _ _ Wκ1 h5 hI) ⟨rfl, rfl, trivial⟩
        · replace F := F.2 c9
          refine y_aln dX7_findCalled_26 rfl ?_
          have h6 := (ztm W Mκ1 Ta0)
          refine gf_X7_15 Wκ1 dX7_findCalled_27 rfl h6 ?_
          refine y_iln dX7_findCalled_30 rfl ?_
          refine y_ic dX7_findCalled_31 zi_5 ?_
          replace F := F (ty_paCode Wκ1 h6)
          refine k_X7_194 Wκ1 dX7_findCalled_32 rfl (Nat.le_of_ble_eq_true rfl) (Nat.le_of_ble_eq_true rfl) (Or.inl (ty_paCode Wκ1 h6)) F (fun r8 κ7 Wκ7 Mκ7 F => ?_) (fun _ _ h9 => False.elim h9)
          replace F := F Wκ7 Mκ7
          refine y_isn dX7_findCalled_35 (Nat.le_of_ble_eq_true rfl) rfl ?_
          show zG _ _ _ _ _ [some (.ref a0), some (.int a1), some (.int r8), none] _ _ _
          refine y_aln dX7_findCalled_36 rfl ?_
          have h10 := (ztm Wκ1 Mκ7 h6)
          refine gf_X7_9 Wκ7 dX7_findCalled_37 rfl h10 ?_
          refine y_aln dX7_findCalled_40 rfl ?_
          refine gf_X7_26 Wκ7 dX7_findCalled_41 rfl h10 ?_
          refine y_aln dX7_findCalled_44 rfl ?_
          refine gf_X7_15 Wκ7 dX7_findCalled_45 rfl h10 ?_
          refine gf_X7_140 dX7_findCalled_48 rfl (Or.inl (ty_paCode Wκ7 h10)) ?_
          refine y_iln dX7_findCalled_51 rfl ?_
          replace F := F (ty_paTape Wκ7 h10)
          replace F := F (ty_paFunctionNames Wκ7 h10)
          refine k_X7_133 Wκ7 dX7_findCalled_52 rfl (Nat.le_of_ble_eq_true rfl) (Nat.le_of_ble_eq_true rfl) (Or.inl (ty_paTape Wκ7 h10)) F (fun r12 κ11 Wκ11 Mκ11 F => ?_) (fun _ _ h9 => False.elim h9)
          replace F := F Wκ11 Mκ11
          refine y_isn dX7_findCalled_55 (Nat.le_of_ble_eq_true rfl) rfl ?_
          show zG _ _ _ _ _ [some (.ref a0), some (.int a1), some (.int r8), some (.int r12)] _ _ _
          refine y_iln dX7_findCalled_56 rfl ?_
          refine y_ic dX7_findCalled_57 zi_m1 ?_
          refine y_ii (r12 = (-1 : Int32)) dX7_findCalled_58 (t := 82) rfl rfl (fun c9 => ?_) (fun c9 => ?_)
          · replace F := F.1 c9
            have h14 := (ztm Wκ7 Mκ11 h10)
            exact y_k (t_Pa_findCalled_82 (fun a0' a1' τ w9 f09 hb => by obtain ⟨k, hk, hI⟩ := hb; exact ih k hk a0' a1' τ w9 f09 hI) Wκ11 h14 F) ⟨rfl, rfl, rfl, rfl, trivial⟩
          · replace F := F.2 c9
            refine y_aln dX7_findCalled_61 rfl ?_
            have h15 := (ztm Wκ7 Mκ11 h10)
            refine gf_X7_15 Wκ11 dX7_findCalled_62 rfl h15 ?_
            refine gf_X7_184 Wκ11 dX7_findCalled_65 rfl (ty_paCode Wκ11 h15) ?_
            refine y_iln dX7_findCalled_68 rfl ?_
            refine y_ald dX7_findCalled_69 (ty_coNameCounts Wκ11 (ty_paCode Wκ11 h15)) F.1 ?_
            replace F := F.2
            refine y_aln dX7_findCalled_70 rfl ?_
            refine gf_X7_15 Wκ11 dX7_findCalled_71 rfl h15 ?_
            refine y_iln dX7_findCalled_74 rfl ?_
            refine y_ic dX7_findCalled_75 zi_4 ?_
            replace F := F (ty_paCode Wκ11 h15)
            refine k_X7_194 Wκ11 dX7_findCalled_76 rfl (Nat.le_of_ble_eq_true rfl) (Nat.le_of_ble_eq_true rfl) (Or.inl (ty_paCode Wκ11 h15)) F (fun r17 κ16 Wκ16 Mκ16 F => ?_) (fun _ _ h9 => False.elim h9)
            replace F := F Wκ16 Mκ16
            refine y_ii ((zA κ11 (zR κ11 coNameCounts (zR κ11 paCode a0)) (r12).toNatClampNeg) = r17) dX7_findCalled_79 (t := 89) rfl rfl (fun c9 => ?_) (fun c9 => ?_)
            · replace F := F.1 c9
              have h19 := (ztm Wκ11 Mκ16 h15)
              exact y_k (t_Pa_findCalled_89 (fun a0' a1' τ w9 f09 hb => by obtain ⟨k, hk, hI⟩ := hb; exact ih k hk a0' a1' τ w9 f09 hI) Wκ16 h19 F) ⟨rfl, rfl, rfl, trivial⟩
            · replace F := F.2 c9
              have h20 := (ztm Wκ11 Mκ16 h15)
              exact y_k (t_Pa_findCalled_82 (fun a0' a1' τ w9 f09 hb => by obtain ⟨k, hk, hI⟩ := hb; exact ih k hk a0' a1' τ w9 f09 hI) Wκ16 h20 F) ⟨rfl, rfl, rfl, rfl, trivial⟩
  exact key m0 a0 a1 κ W Ta0 hI0

def w_Pa_findCalled_0 (C : zC) (n0 : Nat) (Q : zS → Prop) (X : zXp)  (a0 : Nat) (κ : zS) : Prop :=
  w_Pa_findCalled_2 C n0 Q X  a0 (0 : Int32) κ
theorem t_Pa_findCalled_0 {C : zC} {n0 : Nat} {Q : zS → Prop} {X : zXp}   {a0 : Nat} {κ : zS} (W : zW C n0 κ) (Ta0 : zT κ a0 = 10) (F : w_Pa_findCalled_0 C n0 Q X  a0 κ) : zG C n0 12 mPa_findCalled 0 [some (.ref a0), none, none, none] [] κ (oV Q X) := by
  unfold w_Pa_findCalled_0 at F
  refine y_ic dX7_findCalled_0 zi_0 ?_
  refine y_isn dX7_findCalled_1 (Nat.le_of_ble_eq_true rfl) rfl ?_
  show zG _ _ _ _ _ [some (.ref a0), some (.int (0 : Int32)), none, none] _ _ _
  exact y_k (t_Pa_findCalled_2  W Ta0 F) ⟨rfl, rfl, trivial⟩

theorem Pa_findCalled_run {C : zC} {n0 : Nat} {Q : zS → Prop} {X : zXp} {a0 : Nat} {κ : zS} (W : zW C n0 κ) (Ta0 : zT κ a0 = 10) (F : w_Pa_findCalled_0 C (zn κ) Q X a0 κ) : zRun C 12 mPa_findCalled [.ref a0] κ (oV Q X) := z_run (m_ent _ 3) (t_Pa_findCalled_0 (W.lo (Nat.le_trans W.1.2.1 W.1.2.2) (Nat.le_refl _)) Ta0 F)

theorem dX10_addToken_0 : decode cX10_addToken 0 = .ok (.aload_n 0, 1) := by decide +kernel
theorem dX10_addToken_1 : decode cX10_addToken 1 = .ok (.getfield 35, 3) := by decide +kernel
theorem dX10_addToken_4 : decode cX10_addToken 4 = .ok (.aload_n 0, 1) := by decide +kernel
theorem dX10_addToken_5 : decode cX10_addToken 5 = .ok (.getfield 15, 3) := by decide +kernel
theorem dX10_addToken_8 : decode cX10_addToken 8 = .ok (.arraylength, 1) := by decide +kernel
theorem dX10_addToken_9 : decode cX10_addToken 9 = .ok (.if_icmp .lt 54, 3) := by decide +kernel
theorem dX10_addToken_12 : decode cX10_addToken 12 = .ok (.aload_n 0, 1) := by decide +kernel
theorem dX10_addToken_13 : decode cX10_addToken 13 = .ok (.aload_n 0, 1) := by decide +kernel
theorem dX10_addToken_14 : decode cX10_addToken 14 = .ok (.getfield 15, 3) := by decide +kernel
theorem dX10_addToken_17 : decode cX10_addToken 17 = .ok (.aload_n 0, 1) := by decide +kernel
theorem dX10_addToken_18 : decode cX10_addToken 18 = .ok (.getfield 35, 3) := by decide +kernel
theorem dX10_addToken_21 : decode cX10_addToken 21 = .ok (.iconst 2, 1) := by decide +kernel
theorem dX10_addToken_22 : decode cX10_addToken 22 = .ok (.imul, 1) := by decide +kernel
theorem dX10_addToken_23 : decode cX10_addToken 23 = .ok (.invokestatic 53, 3) := by decide +kernel
theorem dX10_addToken_26 : decode cX10_addToken 26 = .ok (.putfield 15, 3) := by decide +kernel
theorem dX10_addToken_29 : decode cX10_addToken 29 = .ok (.aload_n 0, 1) := by decide +kernel
theorem dX10_addToken_30 : decode cX10_addToken 30 = .ok (.aload_n 0, 1) := by decide +kernel
theorem dX10_addToken_31 : decode cX10_addToken 31 = .ok (.getfield 19, 3) := by decide +kernel
theorem dX10_addToken_34 : decode cX10_addToken 34 = .ok (.aload_n 0, 1) := by decide +kernel
theorem dX10_addToken_35 : decode cX10_addToken 35 = .ok (.getfield 35, 3) := by decide +kernel
theorem dX10_addToken_38 : decode cX10_addToken 38 = .ok (.iconst 2, 1) := by decide +kernel
theorem dX10_addToken_39 : decode cX10_addToken 39 = .ok (.imul, 1) := by decide +kernel
theorem dX10_addToken_40 : decode cX10_addToken 40 = .ok (.invokestatic 53, 3) := by decide +kernel
theorem dX10_addToken_43 : decode cX10_addToken 43 = .ok (.putfield 19, 3) := by decide +kernel
theorem dX10_addToken_46 : decode cX10_addToken 46 = .ok (.aload_n 0, 1) := by decide +kernel
theorem dX10_addToken_47 : decode cX10_addToken 47 = .ok (.aload_n 0, 1) := by decide +kernel
theorem dX10_addToken_48 : decode cX10_addToken 48 = .ok (.getfield 22, 3) := by decide +kernel
theorem dX10_addToken_51 : decode cX10_addToken 51 = .ok (.aload_n 0, 1) := by decide +kernel
theorem dX10_addToken_52 : decode cX10_addToken 52 = .ok (.getfield 35, 3) := by decide +kernel
theorem dX10_addToken_55 : decode cX10_addToken 55 = .ok (.iconst 2, 1) := by decide +kernel
theorem dX10_addToken_56 : decode cX10_addToken 56 = .ok (.imul, 1) := by decide +kernel
theorem dX10_addToken_57 : decode cX10_addToken 57 = .ok (.invokestatic 53, 3) := by decide +kernel
theorem dX10_addToken_60 : decode cX10_addToken 60 = .ok (.putfield 22, 3) := by decide +kernel
theorem dX10_addToken_63 : decode cX10_addToken 63 = .ok (.aload_n 0, 1) := by decide +kernel
theorem dX10_addToken_64 : decode cX10_addToken 64 = .ok (.getfield 15, 3) := by decide +kernel
theorem dX10_addToken_67 : decode cX10_addToken 67 = .ok (.aload_n 0, 1) := by decide +kernel
theorem dX10_addToken_68 : decode cX10_addToken 68 = .ok (.getfield 35, 3) := by decide +kernel
theorem dX10_addToken_71 : decode cX10_addToken 71 = .ok (.iload_n 1, 1) := by decide +kernel
theorem dX10_addToken_72 : decode cX10_addToken 72 = .ok (.iastore, 1) := by decide +kernel
theorem dX10_addToken_73 : decode cX10_addToken 73 = .ok (.aload_n 0, 1) := by decide +kernel
theorem dX10_addToken_74 : decode cX10_addToken 74 = .ok (.getfield 19, 3) := by decide +kernel
theorem dX10_addToken_77 : decode cX10_addToken 77 = .ok (.aload_n 0, 1) := by decide +kernel
theorem dX10_addToken_78 : decode cX10_addToken 78 = .ok (.getfield 35, 3) := by decide +kernel
theorem dX10_addToken_81 : decode cX10_addToken 81 = .ok (.iload_n 2, 1) := by decide +kernel
theorem dX10_addToken_82 : decode cX10_addToken 82 = .ok (.iastore, 1) := by decide +kernel
theorem dX10_addToken_83 : decode cX10_addToken 83 = .ok (.aload_n 0, 1) := by decide +kernel
theorem dX10_addToken_84 : decode cX10_addToken 84 = .ok (.getfield 22, 3) := by decide +kernel
theorem dX10_addToken_87 : decode cX10_addToken 87 = .ok (.aload_n 0, 1) := by decide +kernel
theorem dX10_addToken_88 : decode cX10_addToken 88 = .ok (.getfield 35, 3) := by decide +kernel
theorem dX10_addToken_91 : decode cX10_addToken 91 = .ok (.iload_n 3, 1) := by decide +kernel
theorem dX10_addToken_92 : decode cX10_addToken 92 = .ok (.iastore, 1) := by decide +kernel
theorem dX10_addToken_93 : decode cX10_addToken 93 = .ok (.aload_n 0, 1) := by decide +kernel
theorem dX10_addToken_94 : decode cX10_addToken 94 = .ok (.dup, 1) := by decide +kernel
theorem dX10_addToken_95 : decode cX10_addToken 95 = .ok (.getfield 35, 3) := by decide +kernel
theorem dX10_addToken_98 : decode cX10_addToken 98 = .ok (.iconst 1, 1) := by decide +kernel
theorem dX10_addToken_99 : decode cX10_addToken 99 = .ok (.iadd, 1) := by decide +kernel
theorem dX10_addToken_100 : decode cX10_addToken 100 = .ok (.putfield 35, 3) := by decide +kernel
theorem dX10_addToken_103 : decode cX10_addToken 103 = .ok (.return_, 1) := by decide +kernel
def w_Ta_addToken_63 (C : zC) (n0 : Nat) (Q : zS → Prop)  (a0 : Nat) (a1 : Int32) (a2 : Int32) (a3 : Int32) (κ : zS) : Prop :=
  inb (zI κ taTotal a0) (zN κ (zR κ taKinds a0)) ∧
  ∀ κ1, κ1 = ua κ (zR κ taKinds a0) ((zI κ taTotal a0)).toNatClampNeg a1 →
  ∀ _ : zW C n0 κ1,
  inb (zI κ1 taTotal a0) (zN κ1 (zR κ1 taPlaces a0)) ∧
  ∀ κ3, κ3 = ua κ1 (zR κ1 taPlaces a0) ((zI κ1 taTotal a0)).toNatClampNeg a2 →
  ∀ _ : zW C n0 κ3,
  inb (zI κ3 taTotal a0) (zN κ3 (zR κ3 taLengths a0)) ∧
  ∀ κ5, κ5 = ua κ3 (zR κ3 taLengths a0) ((zI κ3 taTotal a0)).toNatClampNeg a3 →
  ∀ _ : zW C n0 κ5,
  ∀ κ7, κ7 = ui κ5 taTotal a0 ((zI κ5 taTotal a0) + (1 : Int32)) →
  ∀ _ : zW C n0 κ7,
  Q κ7
theorem t_Ta_addToken_63 {C : zC} {n0 : Nat} {Q : zS → Prop}   {a0 : Nat} {a1 : Int32} {a2 : Int32} {a3 : Int32} {κ : zS} (W : zW C n0 κ) (Ta0 : zT κ a0 = 13) (F : w_Ta_addToken_63 C n0 Q  a0 a1 a2 a3 κ) : zG C n0 2 mTa_addToken 63 [some (.ref a0), some (.int a1), some (.int a2), some (.int a3)] [] κ (oV Q noX) := by
  unfold w_Ta_addToken_63 at F
  refine y_aln dX10_addToken_63 rfl ?_
  refine gf_X10_15 W dX10_addToken_64 rfl Ta0 ?_
  refine y_aln dX10_addToken_67 rfl ?_
  refine gf_X10_35 dX10_addToken_68 rfl (Or.inl Ta0) ?_
  refine y_iln dX10_addToken_71 rfl ?_
  refine y_ast W dX10_addToken_72 (ty_taKinds W Ta0) F.1 (fun κ1 eκ1 => ?_)
  replace F := F.2 κ1 eκ1
  have Wκ1 : zW C n0 κ1 := zW_ua W eκ1 (fun h => absurd (h.symm.trans (ty_taKinds W Ta0)) (by decide)) (fun h => absurd (h.symm.trans (ty_taKinds W Ta0)) (by decide))
  have Mκ1 : zM (zn κ) κ κ1 := by rw [eκ1]; exact zM.of rfl rfl rfl
  replace F := F Wκ1
  refine y_aln dX10_addToken_73 rfl ?_
  have h2 := (ztm W Mκ1 Ta0)
  refine gf_X10_19 Wκ1 dX10_addToken_74 rfl h2 ?_
  refine y_aln dX10_addToken_77 rfl ?_
  refine gf_X10_35 dX10_addToken_78 rfl (Or.inl h2) ?_
  refine y_iln dX10_addToken_81 rfl ?_
  refine y_ast Wκ1 dX10_addToken_82 (ty_taPlaces Wκ1 h2) F.1 (fun κ3 eκ3 => ?_)
  replace F := F.2 κ3 eκ3
  have Wκ3 : zW C n0 κ3 := zW_ua Wκ1 eκ3 (fun h => absurd (h.symm.trans (ty_taPlaces Wκ1 h2)) (by decide)) (fun h => absurd (h.symm.trans (ty_taPlaces Wκ1 h2)) (by decide))
  have Mκ3 : zM (zn κ1) κ1 κ3 := by rw [eκ3]; exact zM.of rfl rfl rfl
  replace F := F Wκ3
  refine y_aln dX10_addToken_83 rfl ?_
  have h4 := (ztm Wκ1 Mκ3 h2)
  refine gf_X10_22 Wκ3 dX10_addToken_84 rfl h4 ?_
  refine y_aln dX10_addToken_87 rfl ?_
  refine gf_X10_35 dX10_addToken_88 rfl (Or.inl h4) ?_
  refine y_iln dX10_addToken_91 rfl ?_
  refine y_ast Wκ3 dX10_addToken_92 (ty_taLengths Wκ3 h4) F.1 (fun κ5 eκ5 => ?_)
  replace F := F.2 κ5 eκ5
  have Wκ5 : zW C n0 κ5 := zW_ua Wκ3 eκ5 (fun h => absurd (h.symm.trans (ty_taLengths Wκ3 h4)) (by decide)) (fun h => absurd (h.symm.trans (ty_taLengths Wκ3 h4)) (by decide))
  have Mκ5 : zM (zn κ3) κ3 κ5 := by rw [eκ5]; exact zM.of rfl rfl rfl
  replace F := F Wκ5
  refine y_aln dX10_addToken_93 rfl ?_
  refine y_dup dX10_addToken_94 rfl ?_
  have h6 := (ztm Wκ3 Mκ5 h4)
  refine gf_X10_35 dX10_addToken_95 rfl (Or.inl h6) ?_
  refine y_ic dX10_addToken_98 zi_1 ?_
  refine y_iadd dX10_addToken_99 ?_
  refine pf_X10_35 Wκ5 dX10_addToken_100 rfl (Or.inl h6) (fun κ7 eκ7 => ?_)
  replace F := F κ7 eκ7
  have Wκ7 : zW C n0 κ7 := zW_ui Wκ5 eκ7 (fun h => absurd h (by decide))
  have Mκ7 : zM (zn κ5) κ5 κ7 := by rw [eκ7]; exact zM.of rfl rfl rfl
  replace F := F Wκ7
  exact y_rv Wκ7 dX10_addToken_103 rfl F

def w_Ta_addToken_0 (C : zC) (n0 : Nat) (Q : zS → Prop)  (a0 : Nat) (a1 : Int32) (a2 : Int32) (a3 : Int32) (κ : zS) : Prop :=
  ((zI κ taTotal a0) < (Int32.ofNat (zN κ (zR κ taKinds a0))) →
    w_Ta_addToken_63 C n0 Q  a0 a1 a2 a3 κ) ∧
  (¬ (zI κ taTotal a0) < (Int32.ofNat (zN κ (zR κ taKinds a0))) →
    ∀ _ : zT κ (zR κ taKinds a0) = 20,
    zRun C 1 mAr_copyOf [.ref (zR κ taKinds a0), .int ((zI κ taTotal a0) * (2 : Int32))] κ (oR 20 (fun r2 κ1 =>
      ∀ _ : zW C n0 κ1,
      ∀ _ : zM (zn κ) κ κ1,
      ∀ _ : zT κ1 r2 = 20,
      zO κ1 r2 = (0, 0) ∧
      ∀ κ4, κ4 = uo κ1 taKinds a0 r2 →
      ∀ _ : zW C n0 κ4,
      ∀ _ : zT κ4 (zR κ4 taPlaces a0) = 20,
      zRun C 1 mAr_copyOf [.ref (zR κ4 taPlaces a0), .int ((zI κ4 taTotal a0) * (2 : Int32))] κ4 (oR 20 (fun r9 κ8 =>
        ∀ _ : zW C n0 κ8,
        ∀ _ : zM (zn κ4) κ4 κ8,
        ∀ _ : zT κ8 r9 = 20,
        zO κ8 r9 = (0, 0) ∧
        ∀ κ11, κ11 = uo κ8 taPlaces a0 r9 →
        ∀ _ : zW C n0 κ11,
        ∀ _ : zT κ11 (zR κ11 taLengths a0) = 20,
        zRun C 1 mAr_copyOf [.ref (zR κ11 taLengths a0), .int ((zI κ11 taTotal a0) * (2 : Int32))] κ11 (oR 20 (fun r16 κ15 =>
          ∀ _ : zW C n0 κ15,
          ∀ _ : zM (zn κ11) κ11 κ15,
          ∀ _ : zT κ15 r16 = 20,
          zO κ15 r16 = (0, 0) ∧
          ∀ κ18, κ18 = uo κ15 taLengths a0 r16 →
          ∀ _ : zW C n0 κ18,
          w_Ta_addToken_63 C n0 Q  a0 a1 a2 a3 κ18) noX)) noX)) noX))
theorem t_Ta_addToken_0 {C : zC} {n0 : Nat} {Q : zS → Prop}   {a0 : Nat} {a1 : Int32} {a2 : Int32} {a3 : Int32} {κ : zS} (W : zW C n0 κ) (Ta0 : zT κ a0 = 13) (F : w_Ta_addToken_0 C n0 Q  a0 a1 a2 a3 κ) : zG C n0 2 mTa_addToken 0 [some (.ref a0), some (.int a1), some (.int a2), some (.int a3)] [] κ (oV Q noX) := by
  unfold w_Ta_addToken_0 at F
  refine y_aln dX10_addToken_0 rfl ?_
  refine gf_X10_35 dX10_addToken_1 rfl (Or.inl Ta0) ?_
  refine y_aln dX10_addToken_4 rfl ?_
  refine gf_X10_15 W dX10_addToken_5 rfl Ta0 ?_
  refine y_alen (t := 0) dX10_addToken_8 (ty_taKinds W Ta0) (by decide) ?_
  refine y_ii ((zI κ taTotal a0) < (Int32.ofNat (zN κ (zR κ taKinds a0)))) dX10_addToken_9 (t := 63) rfl rfl (fun c9 => ?_) (fun c9 => ?_)
  · replace F := F.1 c9
    exact y_k (t_Ta_addToken_63  W Ta0 F) ⟨rfl, rfl, rfl, rfl, trivial⟩
  · replace F := F.2 c9
    refine y_aln dX10_addToken_12 rfl ?_
    refine y_aln dX10_addToken_13 rfl ?_
    refine gf_X10_15 W dX10_addToken_14 rfl Ta0 ?_
    refine y_aln dX10_addToken_17 rfl ?_
    refine gf_X10_35 dX10_addToken_18 rfl (Or.inl Ta0) ?_
    refine y_ic dX10_addToken_21 zi_2 ?_
    refine y_imul dX10_addToken_22 ?_
    replace F := F (ty_taKinds W Ta0)
    refine k_X10_53 W dX10_addToken_23 rfl (Nat.le_of_ble_eq_true rfl) (Nat.le_of_ble_eq_true rfl)  F (fun r2 κ1 Wκ1 Mκ1 g3 F => ?_) (fun _ _ h9 => False.elim h9)
    replace F := F Wκ1 Mκ1 g3
    have b5 := F.1
    replace F := F.2
    have h6 := (ztm W Mκ1 Ta0)
    refine pf_X10_15 Wκ1 dX10_addToken_26 rfl (Or.inl h6) g3 (fun κ4 eκ4 => ?_)
    replace F := F κ4 eκ4
    have Wκ4 : zW C n0 κ4 := zW_uo Wκ1 eκ4 (fun t ht => by cases ht; exact g3) b5
    have Mκ4 : zM (zn κ1) κ1 κ4 := by rw [eκ4]; exact zM.of rfl rfl rfl
    replace F := F Wκ4
    refine y_aln dX10_addToken_29 rfl ?_
    refine y_aln dX10_addToken_30 rfl ?_
    have h7 := (ztm Wκ1 Mκ4 h6)
    refine gf_X10_19 Wκ4 dX10_addToken_31 rfl h7 ?_
    refine y_aln dX10_addToken_34 rfl ?_
    refine gf_X10_35 dX10_addToken_35 rfl (Or.inl h7) ?_
    refine y_ic dX10_addToken_38 zi_2 ?_
    refine y_imul dX10_addToken_39 ?_
    replace F := F (ty_taPlaces Wκ4 h7)
    refine k_X10_53 Wκ4 dX10_addToken_40 rfl (Nat.le_of_ble_eq_true rfl) (Nat.le_of_ble_eq_true rfl)  F (fun r9 κ8 Wκ8 Mκ8 g10 F => ?_) (fun _ _ h9 => False.elim h9)
    replace F := F Wκ8 Mκ8 g10
    have b12 := F.1
    replace F := F.2
    have h13 := (ztm Wκ4 Mκ8 h7)
    refine pf_X10_19 Wκ8 dX10_addToken_43 rfl (Or.inl h13) g10 (fun κ11 eκ11 => ?_)
    replace F := F κ11 eκ11
    have Wκ11 : zW C n0 κ11 := zW_uo Wκ8 eκ11 (fun t ht => by cases ht; exact g10) b12
    have Mκ11 : zM (zn κ8) κ8 κ11 := by rw [eκ11]; exact zM.of rfl rfl rfl
    replace F := F Wκ11
    refine y_aln dX10_addToken_46 rfl ?_
    refine y_aln dX10_addToken_47 rfl ?_
    have h14 := (ztm Wκ8 Mκ11 h13)
    refine gf_X10_22 Wκ11 dX10_addToken_48 rfl h14 ?_
    refine y_aln dX10_addToken_51 rfl ?_
    refine gf_X10_35 dX10_addToken_52 rfl (Or.inl h14) ?_
    refine y_ic dX10_addToken_55 zi_2 ?_
    refine y_imul dX10_addToken_56 ?_
    replace F := F (ty_taLengths Wκ11 h14)
    refine k_X10_53 Wκ11 dX10_addToken_57 rfl (Nat.le_of_ble_eq_true rfl) (Nat.le_of_ble_eq_true rfl)  F (fun r16 κ15 Wκ15 Mκ15 g17 F => ?_) (fun _ _ h9 => False.elim h9)
    replace F := F Wκ15 Mκ15 g17
    have b19 := F.1
    replace F := F.2
    have h20 := (ztm Wκ11 Mκ15 h14)
    refine pf_X10_22 Wκ15 dX10_addToken_60 rfl (Or.inl h20) g17 (fun κ18 eκ18 => ?_)
    replace F := F κ18 eκ18
    have Wκ18 : zW C n0 κ18 := zW_uo Wκ15 eκ18 (fun t ht => by cases ht; exact g17) b19
    have Mκ18 : zM (zn κ15) κ15 κ18 := by rw [eκ18]; exact zM.of rfl rfl rfl
    replace F := F Wκ18
    have h21 := (ztm Wκ15 Mκ18 h20)
    exact y_k (t_Ta_addToken_63  Wκ18 h21 F) ⟨rfl, rfl, rfl, rfl, trivial⟩

theorem Ta_addToken_run {C : zC} {n0 : Nat} {Q : zS → Prop} {a0 : Nat} {a1 : Int32} {a2 : Int32} {a3 : Int32} {κ : zS} (W : zW C n0 κ) (Ta0 : zT κ a0 = 13) (F : w_Ta_addToken_0 C (zn κ) Q a0 a1 a2 a3 κ) : zRun C 2 mTa_addToken [.ref a0, .int a1, .int a2, .int a3] κ (oV Q noX) := z_run (m_ent _ 0) (t_Ta_addToken_0 (W.lo (Nat.le_trans W.1.2.1 W.1.2.2) (Nat.le_refl _)) Ta0 F)

theorem dX10_isDigit_0 : decode cX10_isDigit 0 = .ok (.iload_n 0, 1) := by decide +kernel
theorem dX10_isDigit_1 : decode cX10_isDigit 1 = .ok (.bipush 48, 2) := by decide +kernel
theorem dX10_isDigit_3 : decode cX10_isDigit 3 = .ok (.if_icmp .lt 13, 3) := by decide +kernel
theorem dX10_isDigit_6 : decode cX10_isDigit 6 = .ok (.iload_n 0, 1) := by decide +kernel
theorem dX10_isDigit_7 : decode cX10_isDigit 7 = .ok (.bipush 57, 2) := by decide +kernel
theorem dX10_isDigit_9 : decode cX10_isDigit 9 = .ok (.if_icmp .gt 7, 3) := by decide +kernel
theorem dX10_isDigit_12 : decode cX10_isDigit 12 = .ok (.iconst 1, 1) := by decide +kernel
theorem dX10_isDigit_13 : decode cX10_isDigit 13 = .ok (.goto 4, 3) := by decide +kernel
theorem dX10_isDigit_16 : decode cX10_isDigit 16 = .ok (.iconst 0, 1) := by decide +kernel
theorem dX10_isDigit_17 : decode cX10_isDigit 17 = .ok (.ireturn, 1) := by decide +kernel
def w_Ta_isDigit_0 (C : zC) (n0 : Nat) (Q : Int32 → zS → Prop)  (a0 : Int32) (κ : zS) : Prop :=
  (a0 < (48 : Int32) →
    Q (0 : Int32) κ) ∧
  (¬ a0 < (48 : Int32) →
    ((57 : Int32) < a0 →
      Q (0 : Int32) κ) ∧
    (¬ (57 : Int32) < a0 →
      Q (1 : Int32) κ))
theorem t_Ta_isDigit_0 {C : zC} {n0 : Nat} {Q : Int32 → zS → Prop}   {a0 : Int32} {κ : zS} (W : zW C n0 κ)  (F : w_Ta_isDigit_0 C n0 Q  a0 κ) : zG C n0 0 mTa_isDigit 0 [some (.int a0)] [] κ (oI Q noX) := by
  unfold w_Ta_isDigit_0 at F
  refine y_iln dX10_isDigit_0 rfl ?_
  refine y_bi1 dX10_isDigit_1 zb_48 ?_
  refine y_ii (a0 < (48 : Int32)) dX10_isDigit_3 (t := 16) rfl rfl (fun c9 => ?_) (fun c9 => ?_)
  · replace F := F.1 c9
    refine y_ic dX10_isDigit_16 zi_0 ?_
    exact y_ri W dX10_isDigit_17 rfl (nb_nar nb_0) F
  · replace F := F.2 c9
    refine y_iln dX10_isDigit_6 rfl ?_
    refine y_bi1 dX10_isDigit_7 zb_57 ?_
    refine y_ii ((57 : Int32) < a0) dX10_isDigit_9 (t := 16) rfl rfl (fun c9 => ?_) (fun c9 => ?_)
    · replace F := F.1 c9
      refine y_ic dX10_isDigit_16 zi_0 ?_
      exact y_ri W dX10_isDigit_17 rfl (nb_nar nb_0) F
    · replace F := F.2 c9
      refine y_ic dX10_isDigit_12 zi_1 ?_
      refine y_goto dX10_isDigit_13 (t := 17) rfl ?_
      exact y_ri W dX10_isDigit_17 rfl (nb_nar nb_1) F

theorem Ta_isDigit_run {C : zC} {n0 : Nat} {Q : Int32 → zS → Prop} {a0 : Int32} {κ : zS} (W : zW C n0 κ)  (F : w_Ta_isDigit_0 C (zn κ) Q a0 κ) : zRun C 0 mTa_isDigit [.int a0] κ (oI Q noX) := z_run (m_ent _ 0) (t_Ta_isDigit_0 (W.lo (Nat.le_trans W.1.2.1 W.1.2.2) (Nat.le_refl _))  F)

theorem dX10_isLetter_0 : decode cX10_isLetter 0 = .ok (.iload_n 0, 1) := by decide +kernel
theorem dX10_isLetter_1 : decode cX10_isLetter 1 = .ok (.bipush 97, 2) := by decide +kernel
theorem dX10_isLetter_3 : decode cX10_isLetter 3 = .ok (.if_icmp .lt 9, 3) := by decide +kernel
theorem dX10_isLetter_6 : decode cX10_isLetter 6 = .ok (.iload_n 0, 1) := by decide +kernel
theorem dX10_isLetter_7 : decode cX10_isLetter 7 = .ok (.bipush 122, 2) := by decide +kernel
theorem dX10_isLetter_9 : decode cX10_isLetter 9 = .ok (.if_icmp .le 21, 3) := by decide +kernel
theorem dX10_isLetter_12 : decode cX10_isLetter 12 = .ok (.iload_n 0, 1) := by decide +kernel
theorem dX10_isLetter_13 : decode cX10_isLetter 13 = .ok (.bipush 65, 2) := by decide +kernel
theorem dX10_isLetter_15 : decode cX10_isLetter 15 = .ok (.if_icmp .lt 9, 3) := by decide +kernel
theorem dX10_isLetter_18 : decode cX10_isLetter 18 = .ok (.iload_n 0, 1) := by decide +kernel
theorem dX10_isLetter_19 : decode cX10_isLetter 19 = .ok (.bipush 90, 2) := by decide +kernel
theorem dX10_isLetter_21 : decode cX10_isLetter 21 = .ok (.if_icmp .le 9, 3) := by decide +kernel
theorem dX10_isLetter_24 : decode cX10_isLetter 24 = .ok (.iload_n 0, 1) := by decide +kernel
theorem dX10_isLetter_25 : decode cX10_isLetter 25 = .ok (.bipush 95, 2) := by decide +kernel
theorem dX10_isLetter_27 : decode cX10_isLetter 27 = .ok (.if_icmp .ne 7, 3) := by decide +kernel
theorem dX10_isLetter_30 : decode cX10_isLetter 30 = .ok (.iconst 1, 1) := by decide +kernel
theorem dX10_isLetter_31 : decode cX10_isLetter 31 = .ok (.goto 4, 3) := by decide +kernel
theorem dX10_isLetter_34 : decode cX10_isLetter 34 = .ok (.iconst 0, 1) := by decide +kernel
theorem dX10_isLetter_35 : decode cX10_isLetter 35 = .ok (.ireturn, 1) := by decide +kernel
def w_Ta_isLetter_24 (C : zC) (n0 : Nat) (Q : Int32 → zS → Prop)  (a0 : Int32) (κ : zS) : Prop :=
  (¬ a0 = (95 : Int32) →
    Q (0 : Int32) κ) ∧
  (a0 = (95 : Int32) →
    Q (1 : Int32) κ)
theorem t_Ta_isLetter_24 {C : zC} {n0 : Nat} {Q : Int32 → zS → Prop}   {a0 : Int32} {κ : zS} (W : zW C n0 κ)  (F : w_Ta_isLetter_24 C n0 Q  a0 κ) : zG C n0 0 mTa_isLetter 24 [some (.int a0)] [] κ (oI Q noX) := by
  unfold w_Ta_isLetter_24 at F
  refine y_iln dX10_isLetter_24 rfl ?_
  refine y_bi1 dX10_isLetter_25 zb_95 ?_
  refine y_iin (a0 = (95 : Int32)) dX10_isLetter_27 (t := 34) rfl rfl (fun c9 => ?_) (fun c9 => ?_)
  · replace F := F.1 c9
    refine y_ic dX10_isLetter_34 zi_0 ?_
    exact y_ri W dX10_isLetter_35 rfl (nb_nar nb_0) F
  · replace F := F.2 c9
    refine y_ic dX10_isLetter_30 zi_1 ?_
    refine y_goto dX10_isLetter_31 (t := 35) rfl ?_
    exact y_ri W dX10_isLetter_35 rfl (nb_nar nb_1) F

def w_Ta_isLetter_12 (C : zC) (n0 : Nat) (Q : Int32 → zS → Prop)  (a0 : Int32) (κ : zS) : Prop :=
  (a0 < (65 : Int32) →
    w_Ta_isLetter_24 C n0 Q  a0 κ) ∧
  (¬ a0 < (65 : Int32) →
    (a0 ≤ (90 : Int32) →
      Q (1 : Int32) κ) ∧
    (¬ a0 ≤ (90 : Int32) →
      w_Ta_isLetter_24 C n0 Q  a0 κ))
theorem t_Ta_isLetter_12 {C : zC} {n0 : Nat} {Q : Int32 → zS → Prop}   {a0 : Int32} {κ : zS} (W : zW C n0 κ)  (F : w_Ta_isLetter_12 C n0 Q  a0 κ) : zG C n0 0 mTa_isLetter 12 [some (.int a0)] [] κ (oI Q noX) := by
  unfold w_Ta_isLetter_12 at F
  refine y_iln dX10_isLetter_12 rfl ?_
  refine y_bi1 dX10_isLetter_13 zb_65 ?_
  refine y_ii (a0 < (65 : Int32)) dX10_isLetter_15 (t := 24) rfl rfl (fun c9 => ?_) (fun c9 => ?_)
  · replace F := F.1 c9
    exact y_k (t_Ta_isLetter_24  W  F) ⟨rfl, trivial⟩
  · replace F := F.2 c9
    refine y_iln dX10_isLetter_18 rfl ?_
    refine y_bi1 dX10_isLetter_19 zb_90 ?_
    refine y_ii (a0 ≤ (90 : Int32)) dX10_isLetter_21 (t := 30) rfl rfl (fun c9 => ?_) (fun c9 => ?_)
    · replace F := F.1 c9
      refine y_ic dX10_isLetter_30 zi_1 ?_
      refine y_goto dX10_isLetter_31 (t := 35) rfl ?_
      exact y_ri W dX10_isLetter_35 rfl (nb_nar nb_1) F
    · replace F := F.2 c9
      exact y_k (t_Ta_isLetter_24  W  F) ⟨rfl, trivial⟩

def w_Ta_isLetter_0 (C : zC) (n0 : Nat) (Q : Int32 → zS → Prop)  (a0 : Int32) (κ : zS) : Prop :=
  (a0 < (97 : Int32) →
    w_Ta_isLetter_12 C n0 Q  a0 κ) ∧
  (¬ a0 < (97 : Int32) →
    (a0 ≤ (122 : Int32) →
      Q (1 : Int32) κ) ∧
    (¬ a0 ≤ (122 : Int32) →
      w_Ta_isLetter_12 C n0 Q  a0 κ))
theorem t_Ta_isLetter_0 {C : zC} {n0 : Nat} {Q : Int32 → zS → Prop}   {a0 : Int32} {κ : zS} (W : zW C n0 κ)  (F : w_Ta_isLetter_0 C n0 Q  a0 κ) : zG C n0 0 mTa_isLetter 0 [some (.int a0)] [] κ (oI Q noX) := by
  unfold w_Ta_isLetter_0 at F
  refine y_iln dX10_isLetter_0 rfl ?_
  refine y_bi1 dX10_isLetter_1 zb_97 ?_
  refine y_ii (a0 < (97 : Int32)) dX10_isLetter_3 (t := 12) rfl rfl (fun c9 => ?_) (fun c9 => ?_)
  · replace F := F.1 c9
    exact y_k (t_Ta_isLetter_12  W  F) ⟨rfl, trivial⟩
  · replace F := F.2 c9
    refine y_iln dX10_isLetter_6 rfl ?_
    refine y_bi1 dX10_isLetter_7 zb_122 ?_
    refine y_ii (a0 ≤ (122 : Int32)) dX10_isLetter_9 (t := 30) rfl rfl (fun c9 => ?_) (fun c9 => ?_)
    · replace F := F.1 c9
      refine y_ic dX10_isLetter_30 zi_1 ?_
      refine y_goto dX10_isLetter_31 (t := 35) rfl ?_
      exact y_ri W dX10_isLetter_35 rfl (nb_nar nb_1) F
    · replace F := F.2 c9
      exact y_k (t_Ta_isLetter_12  W  F) ⟨rfl, trivial⟩

theorem Ta_isLetter_run {C : zC} {n0 : Nat} {Q : Int32 → zS → Prop} {a0 : Int32} {κ : zS} (W : zW C n0 κ)  (F : w_Ta_isLetter_0 C (zn κ) Q a0 κ) : zRun C 0 mTa_isLetter [.int a0] κ (oI Q noX) := z_run (m_ent _ 0) (t_Ta_isLetter_0 (W.lo (Nat.le_trans W.1.2.1 W.1.2.2) (Nat.le_refl _))  F)

theorem dX10_wordOf_0 : decode cX10_wordOf 0 = .ok (.sipush 150, 3) := by decide +kernel
theorem dX10_wordOf_3 : decode cX10_wordOf 3 = .ok (.istore_n 3, 1) := by decide +kernel
theorem dX10_wordOf_4 : decode cX10_wordOf 4 = .ok (.iconst 0, 1) := by decide +kernel
theorem dX10_wordOf_5 : decode cX10_wordOf 5 = .ok (.istore 4, 2) := by decide +kernel
theorem dX10_wordOf_7 : decode cX10_wordOf 7 = .ok (.iconst 0, 1) := by decide +kernel
theorem dX10_wordOf_8 : decode cX10_wordOf 8 = .ok (.istore 5, 2) := by decide +kernel
theorem dX10_wordOf_10 : decode cX10_wordOf 10 = .ok (.iload 5, 2) := by decide +kernel
theorem dX10_wordOf_12 : decode cX10_wordOf 12 = .ok (.ldc 76, 2) := by decide +kernel
theorem dX10_wordOf_14 : decode cX10_wordOf 14 = .ok (.invokevirtual 78, 3) := by decide +kernel
theorem dX10_wordOf_17 : decode cX10_wordOf 17 = .ok (.if_icmp .ge 60, 3) := by decide +kernel
theorem dX10_wordOf_20 : decode cX10_wordOf 20 = .ok (.iload_n 2, 1) := by decide +kernel
theorem dX10_wordOf_21 : decode cX10_wordOf 21 = .ok (.bipush 8, 2) := by decide +kernel
theorem dX10_wordOf_23 : decode cX10_wordOf 23 = .ok (.if_icmp .ge 54, 3) := by decide +kernel
theorem dX10_wordOf_26 : decode cX10_wordOf 26 = .ok (.ldc 76, 2) := by decide +kernel
theorem dX10_wordOf_28 : decode cX10_wordOf 28 = .ok (.iload 5, 2) := by decide +kernel
theorem dX10_wordOf_30 : decode cX10_wordOf 30 = .ok (.invokevirtual 81, 3) := by decide +kernel
theorem dX10_wordOf_33 : decode cX10_wordOf 33 = .ok (.bipush 32, 2) := by decide +kernel
theorem dX10_wordOf_35 : decode cX10_wordOf 35 = .ok (.if_icmp .ne 36, 3) := by decide +kernel
theorem dX10_wordOf_38 : decode cX10_wordOf 38 = .ok (.iload 5, 2) := by decide +kernel
theorem dX10_wordOf_40 : decode cX10_wordOf 40 = .ok (.iload 4, 2) := by decide +kernel
theorem dX10_wordOf_42 : decode cX10_wordOf 42 = .ok (.isub, 1) := by decide +kernel
theorem dX10_wordOf_43 : decode cX10_wordOf 43 = .ok (.iload_n 2, 1) := by decide +kernel
theorem dX10_wordOf_44 : decode cX10_wordOf 44 = .ok (.if_icmp .ne 18, 3) := by decide +kernel
theorem dX10_wordOf_47 : decode cX10_wordOf 47 = .ok (.aload_n 0, 1) := by decide +kernel
theorem dX10_wordOf_48 : decode cX10_wordOf 48 = .ok (.iload_n 1, 1) := by decide +kernel
theorem dX10_wordOf_49 : decode cX10_wordOf 49 = .ok (.iload_n 2, 1) := by decide +kernel
theorem dX10_wordOf_50 : decode cX10_wordOf 50 = .ok (.ldc 76, 2) := by decide +kernel
theorem dX10_wordOf_52 : decode cX10_wordOf 52 = .ok (.iload 4, 2) := by decide +kernel
theorem dX10_wordOf_54 : decode cX10_wordOf 54 = .ok (.invokevirtual 85, 3) := by decide +kernel
theorem dX10_wordOf_57 : decode cX10_wordOf 57 = .ok (.ifCond .eq 5, 3) := by decide +kernel
theorem dX10_wordOf_60 : decode cX10_wordOf 60 = .ok (.iload_n 3, 1) := by decide +kernel
theorem dX10_wordOf_61 : decode cX10_wordOf 61 = .ok (.ireturn, 1) := by decide +kernel
theorem dX10_wordOf_62 : decode cX10_wordOf 62 = .ok (.iinc 3 1, 3) := by decide +kernel
theorem dX10_wordOf_65 : decode cX10_wordOf 65 = .ok (.iload 5, 2) := by decide +kernel
theorem dX10_wordOf_67 : decode cX10_wordOf 67 = .ok (.iconst 1, 1) := by decide +kernel
theorem dX10_wordOf_68 : decode cX10_wordOf 68 = .ok (.iadd, 1) := by decide +kernel
theorem dX10_wordOf_69 : decode cX10_wordOf 69 = .ok (.istore 4, 2) := by decide +kernel
theorem dX10_wordOf_71 : decode cX10_wordOf 71 = .ok (.iinc 5 1, 3) := by decide +kernel
theorem dX10_wordOf_74 : decode cX10_wordOf 74 = .ok (.goto (-64), 3) := by decide +kernel
theorem dX10_wordOf_77 : decode cX10_wordOf 77 = .ok (.sipush 140, 3) := by decide +kernel
theorem dX10_wordOf_80 : decode cX10_wordOf 80 = .ok (.ireturn, 1) := by decide +kernel
def w_Ta_wordOf_62 (C : zC) (n0 : Nat) (Q : Int32 → zS → Prop) (B10 : Nat → Int32 → Int32 → Int32 → Int32 → Int32 → zS → Prop) (a0 : Nat) (a1 : Int32) (a2 : Int32) (a3 : Int32) (a5 : Int32) (κ : zS) : Prop :=
  ∀ v3_1 : Int32, v3_1 = a3 + (1 : Int32) →
  ∀ v4_2 : Int32, v4_2 = (a5 + (1 : Int32)) →
  ∀ v5_3 : Int32, v5_3 = a5 + (1 : Int32) →
  B10 a0 a1 a2 v3_1 v4_2 v5_3 κ
theorem t_Ta_wordOf_62 {C : zC} {n0 : Nat} {Q : Int32 → zS → Prop} {B10 : Nat → Int32 → Int32 → Int32 → Int32 → Int32 → zS → Prop} (hB10 : ∀ a0' a1' a2' a3' a4' a5' τ, zW C n0 τ → zT τ a0' = 13 → B10 a0' a1' a2' a3' a4' a5' τ → zG C n0 11 mTa_wordOf 10 [some (.ref a0'), some (.int a1'), some (.int a2'), some (.int a3'), some (.int a4'), some (.int a5')] [] τ (oI Q noX)) {a0 : Nat} {a1 : Int32} {a2 : Int32} {a3 : Int32} {a5 : Int32} {κ : zS} (W : zW C n0 κ) (Ta0 : zT κ a0 = 13) (F : w_Ta_wordOf_62 C n0 Q B10 a0 a1 a2 a3 a5 κ) : zG C n0 11 mTa_wordOf 62 [some (.ref a0), some (.int a1), some (.int a2), some (.int a3), none, some (.int a5)] [] κ (oI Q noX) := by
  unfold w_Ta_wordOf_62 at F
  refine y_incb dX10_wordOf_62 zi_1 rfl (Nat.le_of_ble_eq_true rfl) (fun v3_1 ev3_1 => ?_)
  replace F := F v3_1 ev3_1
  show zG _ _ _ _ _ [some (.ref a0), some (.int a1), some (.int a2), some (.int v3_1), none, some (.int a5)] _ _ _
  refine y_il dX10_wordOf_65 rfl ?_
  refine y_ic dX10_wordOf_67 zi_1 ?_
  refine y_iadd dX10_wordOf_68 ?_
  refine y_isb dX10_wordOf_69 (Nat.le_of_ble_eq_true rfl) (fun v4_2 ev4_2 => ?_)
  replace F := F v4_2 ev4_2
  show zG _ _ _ _ _ [some (.ref a0), some (.int a1), some (.int a2), some (.int v3_1), some (.int v4_2), some (.int a5)] _ _ _
  refine y_incb dX10_wordOf_71 zi_1 rfl (Nat.le_of_ble_eq_true rfl) (fun v5_3 ev5_3 => ?_)
  replace F := F v5_3 ev5_3
  show zG _ _ _ _ _ [some (.ref a0), some (.int a1), some (.int a2), some (.int v3_1), some (.int v4_2), some (.int v5_3)] _ _ _
  refine y_goto dX10_wordOf_74 (t := 10) rfl ?_
  exact y_k (hB10 _ _ _ _ _ _ _ W Ta0 F) ⟨rfl, rfl, rfl, rfl, rfl, rfl, trivial⟩

def w_Ta_wordOf_10 (C : zC) (n0 : Nat) (Q : Int32 → zS → Prop)  (a0 : Nat) (a1 : Int32) (a2 : Int32) (a3 : Int32) (a4 : Int32) (a5 : Int32) (κ : zS) : Prop :=
  ∃ I : Nat → Nat → Int32 → Int32 → Int32 → Int32 → Int32 → zS → Prop, (∃ n, I n a0 a1 a2 a3 a4 a5 κ) ∧ ∀ n a0 a1 a2 a3 a4 a5 κ, zW C n0 κ → zT κ a0 = 13 → I n a0 a1 a2 a3 a4 a5 κ →
    ∀ _ : isTx C (C.1 0),
    zRun C 9 mSt_length [.ref (C.1 0)] κ (oI (fun r2 κ1 =>
      ∀ _ : zW C n0 κ1,
      ∀ _ : zM (zn κ) κ κ1,
      (r2 ≤ a5 →
        Q (140 : Int32) κ1) ∧
      (¬ r2 ≤ a5 →
        ((8 : Int32) ≤ a2 →
          Q (140 : Int32) κ1) ∧
        (¬ (8 : Int32) ≤ a2 →
          ∀ _ : isTx C (C.1 0),
          zRun C 9 mSt_charAt [.ref (C.1 0), .int a5] κ1 (oI (fun r5 κ4 =>
            ∀ _ : zW C n0 κ4,
            ∀ _ : zM (zn κ1) κ1 κ4,
            (¬ r5 = (32 : Int32) →
              ∀ v5_7 : Int32, v5_7 = a5 + (1 : Int32) →
              ∃ k < n, I k a0 a1 a2 a3 a4 v5_7 κ4) ∧
            (r5 = (32 : Int32) →
              (¬ (a5 - a4) = a2 →
                w_Ta_wordOf_62 C n0 Q (fun a0' a1' a2' a3' a4' a5' τ => ∃ k < n, I k a0' a1' a2' a3' a4' a5' τ) a0 a1 a2 a3 a5 κ4) ∧
              ((a5 - a4) = a2 →
                ∀ _ : zT κ4 a0 = 13,
                ∀ _ : isTx C (C.1 0),
                zRun C 10 mTa_reads [.ref a0, .int a1, .int a2, .ref (C.1 0), .int a4] κ4 (oI (fun r11 κ10 =>
                  ∀ _ : zW C n0 κ10,
                  ∀ _ : zM (zn κ4) κ4 κ10,
                  (r11 = (0 : Int32) →
                    w_Ta_wordOf_62 C n0 Q (fun a0' a1' a2' a3' a4' a5' τ => ∃ k < n, I k a0' a1' a2' a3' a4' a5' τ) a0 a1 a2 a3 a5 κ10) ∧
                  (¬ r11 = (0 : Int32) →
                    Q a3 κ10)) noX)))) noX)))) noX)
theorem t_Ta_wordOf_10 {C : zC} {n0 : Nat} {Q : Int32 → zS → Prop}   {a0 : Nat} {a1 : Int32} {a2 : Int32} {a3 : Int32} {a4 : Int32} {a5 : Int32} {κ : zS} (W : zW C n0 κ) (Ta0 : zT κ a0 = 13) (F : w_Ta_wordOf_10 C n0 Q  a0 a1 a2 a3 a4 a5 κ) : zG C n0 11 mTa_wordOf 10 [some (.ref a0), some (.int a1), some (.int a2), some (.int a3), some (.int a4), some (.int a5)] [] κ (oI Q noX) := by
  obtain ⟨I, ⟨m0, hI0⟩, F0⟩ := F
  have key : ∀ n a0 a1 a2 a3 a4 a5 κ, zW C n0 κ → zT κ a0 = 13 → I n a0 a1 a2 a3 a4 a5 κ → zG C n0 11 mTa_wordOf 10 [some (.ref a0), some (.int a1), some (.int a2), some (.int a3), some (.int a4), some (.int a5)] [] κ (oI Q noX) := by
    intro n
    induction n using Nat.strongRecOn with
    | _ n ih =>
      intro a0 a1 a2 a3 a4 a5 κ W Ta0 hI
      have F := F0 n a0 a1 a2 a3 a4 a5 κ W Ta0 hI
      clear hI hI0
      refine y_il dX10_wordOf_10 rfl ?_
      refine y_ldcs dX10_wordOf_12 rfl zcs_X10_76 zsr_X10_76 ?_
      replace F := F (W.1.1.2 0 (by decide))
      refine k_X10_78 W dX10_wordOf_14 rfl (Nat.le_of_ble_eq_true rfl) (Nat.le_of_ble_eq_true rfl) (W.1.1.2 0 (by decide)) F (fun r2 κ1 Wκ1 Mκ1 F => ?_) (fun _ _ h9 => False.elim h9)
      replace F := F Wκ1 Mκ1
      refine y_ii (r2 ≤ a5) dX10_wordOf_17 (t := 77) rfl rfl (fun c9 => ?_) (fun c9 => ?_)
      · replace F := F.1 c9
        refine y_si dX10_wordOf_77 zs_140 ?_
        exact y_ri Wκ1 dX10_wordOf_80 rfl in_nar F
      · replace F := F.2 c9
        refine y_iln dX10_wordOf_20 rfl ?_
        refine y_bi1 dX10_wordOf_21 zb_8 ?_
        refine y_ii ((8 : Int32) ≤ a2) dX10_wordOf_23 (t := 77) rfl rfl (fun c9 => ?_) (fun c9 => ?_)
        · replace F := F.1 c9
          refine y_si dX10_wordOf_77 zs_140 ?_
          exact y_ri Wκ1 dX10_wordOf_80 rfl in_nar F
        · replace F := F.2 c9
          refine y_ldcs dX10_wordOf_26 rfl zcs_X10_76 zsr_X10_76 ?_
          refine y_il dX10_wordOf_28 rfl ?_
          replace F := F (Wκ1.1.1.2 0 (by decide))
          refine k_X10_81 Wκ1 dX10_wordOf_30 rfl (Nat.le_of_ble_eq_true rfl) (Nat.le_of_ble_eq_true rfl) (Wκ1.1.1.2 0 (by decide)) F (fun r5 κ4 Wκ4 Mκ4 F => ?_) (fun _ _ h9 => False.elim h9)
          replace F := F Wκ4 Mκ4
          refine y_bi1 dX10_wordOf_33 zb_32 ?_
          refine y_iin (r5 = (32 : Int32)) dX10_wordOf_35 (t := 71) rfl rfl (fun c9 => ?_) (fun c9 => ?_)
          · replace F := F.1 c9
            refine y_incb dX10_wordOf_71 zi_1 rfl (Nat.le_of_ble_eq_true rfl) (fun v5_7 ev5_7 => ?_)
            replace F := F v5_7 ev5_7
            show zG _ _ _ _ _ [some (.ref a0), some (.int a1), some (.int a2), some (.int a3), some (.int a4), some (.int v5_7)] _ _ _
            refine y_goto dX10_wordOf_74 (t := 10) rfl ?_
            have h8 := (ztm Wκ1 Mκ4 (ztm W Mκ1 Ta0))
            obtain ⟨k, hk, hI⟩ := F
            exact y_k (ih k hk _ _ _ _ _ _ _ Wκ4 h8 hI) ⟨rfl, rfl, rfl, rfl, rfl, rfl, trivial⟩
          · replace F := F.2 c9
            refine y_il dX10_wordOf_38 rfl ?_
            refine y_il dX10_wordOf_40 rfl ?_
            refine y_isub dX10_wordOf_42 ?_
            refine y_iln dX10_wordOf_43 rfl ?_
            refine y_iin ((a5 - a4) = a2) dX10_wordOf_44 (t := 62) rfl rfl (fun c9 => ?_) (fun c9 => ?_)
            · replace F := F.1 c9
              have h9 := (ztm Wκ1 Mκ4 (ztm W Mκ1 Ta0))
              exact y_k (t_Ta_wordOf_62 (fun a0' a1' a2' a3' a4' a5' τ w9 f09 hb => by obtain ⟨k, hk, hI⟩ := hb; exact ih k hk a0' a1' a2' a3' a4' a5' τ w9 f09 hI) Wκ4 h9 F) ⟨rfl, rfl, rfl, rfl, rfl, trivial⟩
            · replace F := F.2 c9
              refine y_aln dX10_wordOf_47 rfl ?_
              refine y_iln dX10_wordOf_48 rfl ?_
              refine y_iln dX10_wordOf_49 rfl ?_
              refine y_ldcs dX10_wordOf_50 rfl zcs_X10_76 zsr_X10_76 ?_
              refine y_il dX10_wordOf_52 rfl ?_
              have h12 := (ztm Wκ1 Mκ4 (ztm W Mκ1 Ta0))
              replace F := F h12
              replace F := F (Wκ4.1.1.2 0 (by decide))
              refine k_X10_85 Wκ4 dX10_wordOf_54 rfl (Nat.le_of_ble_eq_true rfl) (Nat.le_of_ble_eq_true rfl) (Or.inl h12) F (fun r11 κ10 Wκ10 Mκ10 F => ?_) (fun _ _ h9 => False.elim h9)
              replace F := F Wκ10 Mκ10
              refine y_i (r11 = (0 : Int32)) dX10_wordOf_57 (t := 62) rfl rfl (fun c9 => ?_) (fun c9 => ?_)
              · replace F := F.1 c9
                have h14 := (ztm Wκ4 Mκ10 h12)
                exact y_k (t_Ta_wordOf_62 (fun a0' a1' a2' a3' a4' a5' τ w9 f09 hb => by obtain ⟨k, hk, hI⟩ := hb; exact ih k hk a0' a1' a2' a3' a4' a5' τ w9 f09 hI) Wκ10 h14 F) ⟨rfl, rfl, rfl, rfl, rfl, trivial⟩
              · replace F := F.2 c9
                refine y_iln dX10_wordOf_60 rfl ?_
                exact y_ri Wκ10 dX10_wordOf_61 rfl in_nar F
  exact key m0 a0 a1 a2 a3 a4 a5 κ W Ta0 hI0

def w_Ta_wordOf_0 (C : zC) (n0 : Nat) (Q : Int32 → zS → Prop)  (a0 : Nat) (a1 : Int32) (a2 : Int32) (κ : zS) : Prop :=
  w_Ta_wordOf_10 C n0 Q  a0 a1 a2 (150 : Int32) (0 : Int32) (0 : Int32) κ
theorem t_Ta_wordOf_0 {C : zC} {n0 : Nat} {Q : Int32 → zS → Prop}   {a0 : Nat} {a1 : Int32} {a2 : Int32} {κ : zS} (W : zW C n0 κ) (Ta0 : zT κ a0 = 13) (F : w_Ta_wordOf_0 C n0 Q  a0 a1 a2 κ) : zG C n0 11 mTa_wordOf 0 [some (.ref a0), some (.int a1), some (.int a2), none, none, none] [] κ (oI Q noX) := by
  unfold w_Ta_wordOf_0 at F
  refine y_si dX10_wordOf_0 zs_150 ?_
  refine y_isn dX10_wordOf_3 (Nat.le_of_ble_eq_true rfl) rfl ?_
  show zG _ _ _ _ _ [some (.ref a0), some (.int a1), some (.int a2), some (.int (150 : Int32)), none, none] _ _ _
  refine y_ic dX10_wordOf_4 zi_0 ?_
  refine y_is dX10_wordOf_5 (Nat.le_of_ble_eq_true rfl) rfl ?_
  show zG _ _ _ _ _ [some (.ref a0), some (.int a1), some (.int a2), some (.int (150 : Int32)), some (.int (0 : Int32)), none] _ _ _
  refine y_ic dX10_wordOf_7 zi_0 ?_
  refine y_is dX10_wordOf_8 (Nat.le_of_ble_eq_true rfl) rfl ?_
  show zG _ _ _ _ _ [some (.ref a0), some (.int a1), some (.int a2), some (.int (150 : Int32)), some (.int (0 : Int32)), some (.int (0 : Int32))] _ _ _
  exact y_k (t_Ta_wordOf_10  W Ta0 F) ⟨rfl, rfl, rfl, rfl, rfl, rfl, trivial⟩

theorem Ta_wordOf_run {C : zC} {n0 : Nat} {Q : Int32 → zS → Prop} {a0 : Nat} {a1 : Int32} {a2 : Int32} {κ : zS} (W : zW C n0 κ) (Ta0 : zT κ a0 = 13) (F : w_Ta_wordOf_0 C (zn κ) Q a0 a1 a2 κ) : zRun C 11 mTa_wordOf [.ref a0, .int a1, .int a2] κ (oI Q noX) := z_run (m_ent _ 3) (t_Ta_wordOf_0 (W.lo (Nat.le_trans W.1.2.1 W.1.2.2) (Nat.le_refl _)) Ta0 F)

theorem dX10_kindOf_0 : decode cX10_kindOf 0 = .ok (.aload_n 0, 1) := by decide +kernel
theorem dX10_kindOf_1 : decode cX10_kindOf 1 = .ok (.iload_n 1, 1) := by decide +kernel
theorem dX10_kindOf_2 : decode cX10_kindOf 2 = .ok (.invokevirtual 56, 3) := by decide +kernel
theorem dX10_kindOf_5 : decode cX10_kindOf 5 = .ok (.istore_n 3, 1) := by decide +kernel
theorem dX10_kindOf_6 : decode cX10_kindOf 6 = .ok (.iload_n 3, 1) := by decide +kernel
theorem dX10_kindOf_7 : decode cX10_kindOf 7 = .ok (.invokestatic 59, 3) := by decide +kernel
theorem dX10_kindOf_10 : decode cX10_kindOf 10 = .ok (.ifCond .eq 22, 3) := by decide +kernel
theorem dX10_kindOf_13 : decode cX10_kindOf 13 = .ok (.iload_n 2, 1) := by decide +kernel
theorem dX10_kindOf_14 : decode cX10_kindOf 14 = .ok (.bipush 12, 2) := by decide +kernel
theorem dX10_kindOf_16 : decode cX10_kindOf 16 = .ok (.if_icmp .le 9, 3) := by decide +kernel
theorem dX10_kindOf_19 : decode cX10_kindOf 19 = .ok (.sipush 143, 3) := by decide +kernel
theorem dX10_kindOf_22 : decode cX10_kindOf 22 = .ok (.goto 9, 3) := by decide +kernel
theorem dX10_kindOf_25 : decode cX10_kindOf 25 = .ok (.aload_n 0, 1) := by decide +kernel
theorem dX10_kindOf_26 : decode cX10_kindOf 26 = .ok (.iload_n 1, 1) := by decide +kernel
theorem dX10_kindOf_27 : decode cX10_kindOf 27 = .ok (.iload_n 2, 1) := by decide +kernel
theorem dX10_kindOf_28 : decode cX10_kindOf 28 = .ok (.invokevirtual 66, 3) := by decide +kernel
theorem dX10_kindOf_31 : decode cX10_kindOf 31 = .ok (.ireturn, 1) := by decide +kernel
theorem dX10_kindOf_32 : decode cX10_kindOf 32 = .ok (.iload_n 3, 1) := by decide +kernel
theorem dX10_kindOf_33 : decode cX10_kindOf 33 = .ok (.invokestatic 63, 3) := by decide +kernel
theorem dX10_kindOf_36 : decode cX10_kindOf 36 = .ok (.ifCond .eq 19, 3) := by decide +kernel
theorem dX10_kindOf_39 : decode cX10_kindOf 39 = .ok (.iload_n 2, 1) := by decide +kernel
theorem dX10_kindOf_40 : decode cX10_kindOf 40 = .ok (.bipush 9, 2) := by decide +kernel
theorem dX10_kindOf_42 : decode cX10_kindOf 42 = .ok (.if_icmp .le 9, 3) := by decide +kernel
theorem dX10_kindOf_45 : decode cX10_kindOf 45 = .ok (.sipush 143, 3) := by decide +kernel
theorem dX10_kindOf_48 : decode cX10_kindOf 48 = .ok (.goto 6, 3) := by decide +kernel
theorem dX10_kindOf_51 : decode cX10_kindOf 51 = .ok (.sipush 141, 3) := by decide +kernel
theorem dX10_kindOf_54 : decode cX10_kindOf 54 = .ok (.ireturn, 1) := by decide +kernel
theorem dX10_kindOf_55 : decode cX10_kindOf 55 = .ok (.iload_n 2, 1) := by decide +kernel
theorem dX10_kindOf_56 : decode cX10_kindOf 56 = .ok (.iconst 2, 1) := by decide +kernel
theorem dX10_kindOf_57 : decode cX10_kindOf 57 = .ok (.if_icmp .ne 43, 3) := by decide +kernel
theorem dX10_kindOf_60 : decode cX10_kindOf 60 = .ok (.iload_n 3, 1) := by decide +kernel
theorem dX10_kindOf_61 : decode cX10_kindOf 61 = .ok (.bipush 61, 2) := by decide +kernel
theorem dX10_kindOf_63 : decode cX10_kindOf 63 = .ok (.if_icmp .ne 9, 3) := by decide +kernel
theorem dX10_kindOf_66 : decode cX10_kindOf 66 = .ok (.sipush 128, 3) := by decide +kernel
theorem dX10_kindOf_69 : decode cX10_kindOf 69 = .ok (.goto 30, 3) := by decide +kernel
theorem dX10_kindOf_72 : decode cX10_kindOf 72 = .ok (.iload_n 3, 1) := by decide +kernel
theorem dX10_kindOf_73 : decode cX10_kindOf 73 = .ok (.bipush 33, 2) := by decide +kernel
theorem dX10_kindOf_75 : decode cX10_kindOf 75 = .ok (.if_icmp .ne 9, 3) := by decide +kernel
theorem dX10_kindOf_78 : decode cX10_kindOf 78 = .ok (.sipush 129, 3) := by decide +kernel
theorem dX10_kindOf_81 : decode cX10_kindOf 81 = .ok (.goto 18, 3) := by decide +kernel
theorem dX10_kindOf_84 : decode cX10_kindOf 84 = .ok (.iload_n 3, 1) := by decide +kernel
theorem dX10_kindOf_85 : decode cX10_kindOf 85 = .ok (.bipush 60, 2) := by decide +kernel
theorem dX10_kindOf_87 : decode cX10_kindOf 87 = .ok (.if_icmp .ne 9, 3) := by decide +kernel
theorem dX10_kindOf_90 : decode cX10_kindOf 90 = .ok (.sipush 130, 3) := by decide +kernel
theorem dX10_kindOf_93 : decode cX10_kindOf 93 = .ok (.goto 6, 3) := by decide +kernel
theorem dX10_kindOf_96 : decode cX10_kindOf 96 = .ok (.sipush 131, 3) := by decide +kernel
theorem dX10_kindOf_99 : decode cX10_kindOf 99 = .ok (.ireturn, 1) := by decide +kernel
theorem dX10_kindOf_100 : decode cX10_kindOf 100 = .ok (.ldc 69, 2) := by decide +kernel
theorem dX10_kindOf_102 : decode cX10_kindOf 102 = .ok (.iload_n 3, 1) := by decide +kernel
theorem dX10_kindOf_103 : decode cX10_kindOf 103 = .ok (.i2c, 1) := by decide +kernel
theorem dX10_kindOf_104 : decode cX10_kindOf 104 = .ok (.invokevirtual 71, 3) := by decide +kernel
theorem dX10_kindOf_107 : decode cX10_kindOf 107 = .ok (.ifCond .lt 7, 3) := by decide +kernel
theorem dX10_kindOf_110 : decode cX10_kindOf 110 = .ok (.iload_n 3, 1) := by decide +kernel
theorem dX10_kindOf_111 : decode cX10_kindOf 111 = .ok (.goto 6, 3) := by decide +kernel
theorem dX10_kindOf_114 : decode cX10_kindOf 114 = .ok (.sipush 143, 3) := by decide +kernel
theorem dX10_kindOf_117 : decode cX10_kindOf 117 = .ok (.ireturn, 1) := by decide +kernel
def w_Ta_kindOf_0 (C : zC) (n0 : Nat) (Q : Int32 → zS → Prop)  (a0 : Nat) (a1 : Int32) (a2 : Int32) (κ : zS) : Prop :=
  ∀ _ : zT κ a0 = 13,
  zRun C 0 mTa_byteAt [.ref a0, .int a1] κ (oI (fun r2 κ1 =>
    ∀ _ : zW C n0 κ1,
    ∀ _ : zM (zn κ) κ κ1,
    zRun C 0 mTa_isLetter [.int r2] κ1 (oI (fun r5 κ4 =>
      ∀ _ : zW C n0 κ4,
      ∀ _ : zM (zn κ1) κ1 κ4,
      (r5 = (0 : Int32) →
        zRun C 0 mTa_isDigit [.int r2] κ4 (oI (fun r8 κ7 =>
          ∀ _ : zW C n0 κ7,
          ∀ _ : zM (zn κ4) κ4 κ7,
          (r8 = (0 : Int32) →
            (¬ a2 = (2 : Int32) →
              ∀ _ : isTx C (C.1 1),
              zRun C 9 mSt_indexOf [.ref (C.1 1), .int (UInt32.toInt32 (Int32.toUInt32 r2 % 65536))] κ7 (oI (fun r11 κ10 =>
                ∀ _ : zW C n0 κ10,
                ∀ _ : zM (zn κ7) κ7 κ10,
                (r11 < (0 : Int32) →
                  Q (143 : Int32) κ10) ∧
                (¬ r11 < (0 : Int32) →
                  Q r2 κ10)) noX)) ∧
            (a2 = (2 : Int32) →
              (¬ r2 = (61 : Int32) →
                (¬ r2 = (33 : Int32) →
                  (¬ r2 = (60 : Int32) →
                    Q (131 : Int32) κ7) ∧
                  (r2 = (60 : Int32) →
                    Q (130 : Int32) κ7)) ∧
                (r2 = (33 : Int32) →
                  Q (129 : Int32) κ7)) ∧
              (r2 = (61 : Int32) →
                Q (128 : Int32) κ7))) ∧
          (¬ r8 = (0 : Int32) →
            (a2 ≤ (9 : Int32) →
              Q (141 : Int32) κ7) ∧
            (¬ a2 ≤ (9 : Int32) →
              Q (143 : Int32) κ7))) noX)) ∧
      (¬ r5 = (0 : Int32) →
        (a2 ≤ (12 : Int32) →
          ∀ _ : zT κ4 a0 = 13,
          zRun C 11 mTa_wordOf [.ref a0, .int a1, .int a2] κ4 (oI (fun r14 κ13 =>
            ∀ _ : zW C n0 κ13,
            ∀ _ : zM (zn κ4) κ4 κ13,
            Q r14 κ13) noX)) ∧
        (¬ a2 ≤ (12 : Int32) →
          Q (143 : Int32) κ4))) noX)) noX)
theorem t_Ta_kindOf_0 {C : zC} {n0 : Nat} {Q : Int32 → zS → Prop}   {a0 : Nat} {a1 : Int32} {a2 : Int32} {κ : zS} (W : zW C n0 κ) (Ta0 : zT κ a0 = 13) (F : w_Ta_kindOf_0 C n0 Q  a0 a1 a2 κ) : zG C n0 12 mTa_kindOf 0 [some (.ref a0), some (.int a1), some (.int a2), none] [] κ (oI Q noX) := by
  unfold w_Ta_kindOf_0 at F
  refine y_aln dX10_kindOf_0 rfl ?_
  refine y_iln dX10_kindOf_1 rfl ?_
  replace F := F Ta0
  refine k_X10_56 W dX10_kindOf_2 rfl (Nat.le_of_ble_eq_true rfl) (Nat.le_of_ble_eq_true rfl) (Or.inl Ta0) F (fun r2 κ1 Wκ1 Mκ1 F => ?_) (fun _ _ h9 => False.elim h9)
  replace F := F Wκ1 Mκ1
  refine y_isn dX10_kindOf_5 (Nat.le_of_ble_eq_true rfl) rfl ?_
  show zG _ _ _ _ _ [some (.ref a0), some (.int a1), some (.int a2), some (.int r2)] _ _ _
  refine y_iln dX10_kindOf_6 rfl ?_
  refine k_X10_59 Wκ1 dX10_kindOf_7 rfl (Nat.le_of_ble_eq_true rfl) (Nat.le_of_ble_eq_true rfl)  F (fun r5 κ4 Wκ4 Mκ4 F => ?_) (fun _ _ h9 => False.elim h9)
  replace F := F Wκ4 Mκ4
  refine y_i (r5 = (0 : Int32)) dX10_kindOf_10 (t := 32) rfl rfl (fun c9 => ?_) (fun c9 => ?_)
  · replace F := F.1 c9
    refine y_iln dX10_kindOf_32 rfl ?_
    refine k_X10_63 Wκ4 dX10_kindOf_33 rfl (Nat.le_of_ble_eq_true rfl) (Nat.le_of_ble_eq_true rfl)  F (fun r8 κ7 Wκ7 Mκ7 F => ?_) (fun _ _ h9 => False.elim h9)
    replace F := F Wκ7 Mκ7
    refine y_i (r8 = (0 : Int32)) dX10_kindOf_36 (t := 55) rfl rfl (fun c9 => ?_) (fun c9 => ?_)
    · replace F := F.1 c9
      refine y_iln dX10_kindOf_55 rfl ?_
      refine y_ic dX10_kindOf_56 zi_2 ?_
      refine y_iin (a2 = (2 : Int32)) dX10_kindOf_57 (t := 100) rfl rfl (fun c9 => ?_) (fun c9 => ?_)
      · replace F := F.1 c9
        refine y_ldcs dX10_kindOf_100 rfl zcs_X10_69 zsr_X10_69 ?_
        refine y_iln dX10_kindOf_102 rfl ?_
        refine y_i2c dX10_kindOf_103 ?_
        replace F := F (Wκ7.1.1.2 1 (by decide))
        refine k_X10_71 Wκ7 dX10_kindOf_104 rfl (Nat.le_of_ble_eq_true rfl) (Nat.le_of_ble_eq_true rfl) (Wκ7.1.1.2 1 (by decide)) F (fun r11 κ10 Wκ10 Mκ10 F => ?_) (fun _ _ h9 => False.elim h9)
        replace F := F Wκ10 Mκ10
        refine y_i (r11 < (0 : Int32)) dX10_kindOf_107 (t := 114) rfl rfl (fun c9 => ?_) (fun c9 => ?_)
        · replace F := F.1 c9
          refine y_si dX10_kindOf_114 zs_143 ?_
          exact y_ri Wκ10 dX10_kindOf_117 rfl in_nar F
        · replace F := F.2 c9
          refine y_iln dX10_kindOf_110 rfl ?_
          refine y_goto dX10_kindOf_111 (t := 117) rfl ?_
          exact y_ri Wκ10 dX10_kindOf_117 rfl in_nar F
      · replace F := F.2 c9
        refine y_iln dX10_kindOf_60 rfl ?_
        refine y_bi1 dX10_kindOf_61 zb_61 ?_
        refine y_iin (r2 = (61 : Int32)) dX10_kindOf_63 (t := 72) rfl rfl (fun c9 => ?_) (fun c9 => ?_)
        · replace F := F.1 c9
          refine y_iln dX10_kindOf_72 rfl ?_
          refine y_bi1 dX10_kindOf_73 zb_33 ?_
          refine y_iin (r2 = (33 : Int32)) dX10_kindOf_75 (t := 84) rfl rfl (fun c9 => ?_) (fun c9 => ?_)
          · replace F := F.1 c9
            refine y_iln dX10_kindOf_84 rfl ?_
            refine y_bi1 dX10_kindOf_85 zb_60 ?_
            refine y_iin (r2 = (60 : Int32)) dX10_kindOf_87 (t := 96) rfl rfl (fun c9 => ?_) (fun c9 => ?_)
            · replace F := F.1 c9
              refine y_si dX10_kindOf_96 zs_131 ?_
              exact y_ri Wκ7 dX10_kindOf_99 rfl in_nar F
            · replace F := F.2 c9
              refine y_si dX10_kindOf_90 zs_130 ?_
              refine y_goto dX10_kindOf_93 (t := 99) rfl ?_
              exact y_ri Wκ7 dX10_kindOf_99 rfl in_nar F
          · replace F := F.2 c9
            refine y_si dX10_kindOf_78 zs_129 ?_
            refine y_goto dX10_kindOf_81 (t := 99) rfl ?_
            exact y_ri Wκ7 dX10_kindOf_99 rfl in_nar F
        · replace F := F.2 c9
          refine y_si dX10_kindOf_66 zs_128 ?_
          refine y_goto dX10_kindOf_69 (t := 99) rfl ?_
          exact y_ri Wκ7 dX10_kindOf_99 rfl in_nar F
    · replace F := F.2 c9
      refine y_iln dX10_kindOf_39 rfl ?_
      refine y_bi1 dX10_kindOf_40 zb_9 ?_
      refine y_ii (a2 ≤ (9 : Int32)) dX10_kindOf_42 (t := 51) rfl rfl (fun c9 => ?_) (fun c9 => ?_)
      · replace F := F.1 c9
        refine y_si dX10_kindOf_51 zs_141 ?_
        exact y_ri Wκ7 dX10_kindOf_54 rfl in_nar F
      · replace F := F.2 c9
        refine y_si dX10_kindOf_45 zs_143 ?_
        refine y_goto dX10_kindOf_48 (t := 54) rfl ?_
        exact y_ri Wκ7 dX10_kindOf_54 rfl in_nar F
  · replace F := F.2 c9
    refine y_iln dX10_kindOf_13 rfl ?_
    refine y_bi1 dX10_kindOf_14 zb_12 ?_
    refine y_ii (a2 ≤ (12 : Int32)) dX10_kindOf_16 (t := 25) rfl rfl (fun c9 => ?_) (fun c9 => ?_)
    · replace F := F.1 c9
      refine y_aln dX10_kindOf_25 rfl ?_
      refine y_iln dX10_kindOf_26 rfl ?_
      refine y_iln dX10_kindOf_27 rfl ?_
      have h15 := (ztm Wκ1 Mκ4 (ztm W Mκ1 Ta0))
      replace F := F h15
      refine k_X10_66 Wκ4 dX10_kindOf_28 rfl (Nat.le_of_ble_eq_true rfl) (Nat.le_of_ble_eq_true rfl) (Or.inl h15) F (fun r14 κ13 Wκ13 Mκ13 F => ?_) (fun _ _ h9 => False.elim h9)
      replace F := F Wκ13 Mκ13
      exact y_ri Wκ13 dX10_kindOf_31 rfl in_nar F
    · replace F := F.2 c9
      refine y_si dX10_kindOf_19 zs_143 ?_
      refine y_goto dX10_kindOf_22 (t := 31) rfl ?_
      exact y_ri Wκ4 dX10_kindOf_31 rfl in_nar F

theorem Ta_kindOf_run {C : zC} {n0 : Nat} {Q : Int32 → zS → Prop} {a0 : Nat} {a1 : Int32} {a2 : Int32} {κ : zS} (W : zW C n0 κ) (Ta0 : zT κ a0 = 13) (F : w_Ta_kindOf_0 C (zn κ) Q a0 a1 a2 κ) : zRun C 12 mTa_kindOf [.ref a0, .int a1, .int a2] κ (oI Q noX) := z_run (m_ent _ 1) (t_Ta_kindOf_0 (W.lo (Nat.le_trans W.1.2.1 W.1.2.2) (Nat.le_refl _)) Ta0 F)

theorem dX10_sizeAt_0 : decode cX10_sizeAt 0 = .ok (.aload_n 0, 1) := by decide +kernel
theorem dX10_sizeAt_1 : decode cX10_sizeAt 1 = .ok (.iload_n 1, 1) := by decide +kernel
theorem dX10_sizeAt_2 : decode cX10_sizeAt 2 = .ok (.invokevirtual 56, 3) := by decide +kernel
theorem dX10_sizeAt_5 : decode cX10_sizeAt 5 = .ok (.istore_n 2, 1) := by decide +kernel
theorem dX10_sizeAt_6 : decode cX10_sizeAt 6 = .ok (.iload_n 2, 1) := by decide +kernel
theorem dX10_sizeAt_7 : decode cX10_sizeAt 7 = .ok (.invokestatic 59, 3) := by decide +kernel
theorem dX10_sizeAt_10 : decode cX10_sizeAt 10 = .ok (.istore_n 3, 1) := by decide +kernel
theorem dX10_sizeAt_11 : decode cX10_sizeAt 11 = .ok (.iload_n 3, 1) := by decide +kernel
theorem dX10_sizeAt_12 : decode cX10_sizeAt 12 = .ok (.ifCond .ne 64, 3) := by decide +kernel
theorem dX10_sizeAt_15 : decode cX10_sizeAt 15 = .ok (.iload_n 2, 1) := by decide +kernel
theorem dX10_sizeAt_16 : decode cX10_sizeAt 16 = .ok (.invokestatic 63, 3) := by decide +kernel
theorem dX10_sizeAt_19 : decode cX10_sizeAt 19 = .ok (.ifCond .ne 57, 3) := by decide +kernel
theorem dX10_sizeAt_22 : decode cX10_sizeAt 22 = .ok (.iload_n 2, 1) := by decide +kernel
theorem dX10_sizeAt_23 : decode cX10_sizeAt 23 = .ok (.bipush 61, 2) := by decide +kernel
theorem dX10_sizeAt_25 : decode cX10_sizeAt 25 = .ok (.if_icmp .eq 21, 3) := by decide +kernel
theorem dX10_sizeAt_28 : decode cX10_sizeAt 28 = .ok (.iload_n 2, 1) := by decide +kernel
theorem dX10_sizeAt_29 : decode cX10_sizeAt 29 = .ok (.bipush 33, 2) := by decide +kernel
theorem dX10_sizeAt_31 : decode cX10_sizeAt 31 = .ok (.if_icmp .eq 15, 3) := by decide +kernel
theorem dX10_sizeAt_34 : decode cX10_sizeAt 34 = .ok (.iload_n 2, 1) := by decide +kernel
theorem dX10_sizeAt_35 : decode cX10_sizeAt 35 = .ok (.bipush 60, 2) := by decide +kernel
theorem dX10_sizeAt_37 : decode cX10_sizeAt 37 = .ok (.if_icmp .eq 9, 3) := by decide +kernel
theorem dX10_sizeAt_40 : decode cX10_sizeAt 40 = .ok (.iload_n 2, 1) := by decide +kernel
theorem dX10_sizeAt_41 : decode cX10_sizeAt 41 = .ok (.bipush 62, 2) := by decide +kernel
theorem dX10_sizeAt_43 : decode cX10_sizeAt 43 = .ok (.if_icmp .ne 7, 3) := by decide +kernel
theorem dX10_sizeAt_46 : decode cX10_sizeAt 46 = .ok (.iconst 1, 1) := by decide +kernel
theorem dX10_sizeAt_47 : decode cX10_sizeAt 47 = .ok (.goto 4, 3) := by decide +kernel
theorem dX10_sizeAt_50 : decode cX10_sizeAt 50 = .ok (.iconst 0, 1) := by decide +kernel
theorem dX10_sizeAt_51 : decode cX10_sizeAt 51 = .ok (.istore 4, 2) := by decide +kernel
theorem dX10_sizeAt_53 : decode cX10_sizeAt 53 = .ok (.iload 4, 2) := by decide +kernel
theorem dX10_sizeAt_55 : decode cX10_sizeAt 55 = .ok (.ifCond .eq 19, 3) := by decide +kernel
theorem dX10_sizeAt_58 : decode cX10_sizeAt 58 = .ok (.aload_n 0, 1) := by decide +kernel
theorem dX10_sizeAt_59 : decode cX10_sizeAt 59 = .ok (.iload_n 1, 1) := by decide +kernel
theorem dX10_sizeAt_60 : decode cX10_sizeAt 60 = .ok (.iconst 1, 1) := by decide +kernel
theorem dX10_sizeAt_61 : decode cX10_sizeAt 61 = .ok (.iadd, 1) := by decide +kernel
theorem dX10_sizeAt_62 : decode cX10_sizeAt 62 = .ok (.invokevirtual 56, 3) := by decide +kernel
theorem dX10_sizeAt_65 : decode cX10_sizeAt 65 = .ok (.bipush 61, 2) := by decide +kernel
theorem dX10_sizeAt_67 : decode cX10_sizeAt 67 = .ok (.if_icmp .ne 7, 3) := by decide +kernel
theorem dX10_sizeAt_70 : decode cX10_sizeAt 70 = .ok (.iconst 2, 1) := by decide +kernel
theorem dX10_sizeAt_71 : decode cX10_sizeAt 71 = .ok (.goto 4, 3) := by decide +kernel
theorem dX10_sizeAt_74 : decode cX10_sizeAt 74 = .ok (.iconst 1, 1) := by decide +kernel
theorem dX10_sizeAt_75 : decode cX10_sizeAt 75 = .ok (.ireturn, 1) := by decide +kernel
theorem dX10_sizeAt_76 : decode cX10_sizeAt 76 = .ok (.iload_n 1, 1) := by decide +kernel
theorem dX10_sizeAt_77 : decode cX10_sizeAt 77 = .ok (.iconst 1, 1) := by decide +kernel
theorem dX10_sizeAt_78 : decode cX10_sizeAt 78 = .ok (.iadd, 1) := by decide +kernel
theorem dX10_sizeAt_79 : decode cX10_sizeAt 79 = .ok (.istore 4, 2) := by decide +kernel
theorem dX10_sizeAt_81 : decode cX10_sizeAt 81 = .ok (.iload 4, 2) := by decide +kernel
theorem dX10_sizeAt_83 : decode cX10_sizeAt 83 = .ok (.aload_n 0, 1) := by decide +kernel
theorem dX10_sizeAt_84 : decode cX10_sizeAt 84 = .ok (.getfield 31, 3) := by decide +kernel
theorem dX10_sizeAt_87 : decode cX10_sizeAt 87 = .ok (.if_icmp .ge 37, 3) := by decide +kernel
theorem dX10_sizeAt_90 : decode cX10_sizeAt 90 = .ok (.aload_n 0, 1) := by decide +kernel
theorem dX10_sizeAt_91 : decode cX10_sizeAt 91 = .ok (.iload 4, 2) := by decide +kernel
theorem dX10_sizeAt_93 : decode cX10_sizeAt 93 = .ok (.invokevirtual 56, 3) := by decide +kernel
theorem dX10_sizeAt_96 : decode cX10_sizeAt 96 = .ok (.invokestatic 63, 3) := by decide +kernel
theorem dX10_sizeAt_99 : decode cX10_sizeAt 99 = .ok (.ifCond .ne 19, 3) := by decide +kernel
theorem dX10_sizeAt_102 : decode cX10_sizeAt 102 = .ok (.iload_n 3, 1) := by decide +kernel
theorem dX10_sizeAt_103 : decode cX10_sizeAt 103 = .ok (.ifCond .eq 21, 3) := by decide +kernel
theorem dX10_sizeAt_106 : decode cX10_sizeAt 106 = .ok (.aload_n 0, 1) := by decide +kernel
theorem dX10_sizeAt_107 : decode cX10_sizeAt 107 = .ok (.iload 4, 2) := by decide +kernel
theorem dX10_sizeAt_109 : decode cX10_sizeAt 109 = .ok (.invokevirtual 56, 3) := by decide +kernel
theorem dX10_sizeAt_112 : decode cX10_sizeAt 112 = .ok (.invokestatic 59, 3) := by decide +kernel
theorem dX10_sizeAt_115 : decode cX10_sizeAt 115 = .ok (.ifCond .eq 9, 3) := by decide +kernel
theorem dX10_sizeAt_118 : decode cX10_sizeAt 118 = .ok (.iinc 4 1, 3) := by decide +kernel
theorem dX10_sizeAt_121 : decode cX10_sizeAt 121 = .ok (.goto (-40), 3) := by decide +kernel
theorem dX10_sizeAt_124 : decode cX10_sizeAt 124 = .ok (.iload 4, 2) := by decide +kernel
theorem dX10_sizeAt_126 : decode cX10_sizeAt 126 = .ok (.iload_n 1, 1) := by decide +kernel
theorem dX10_sizeAt_127 : decode cX10_sizeAt 127 = .ok (.isub, 1) := by decide +kernel
theorem dX10_sizeAt_128 : decode cX10_sizeAt 128 = .ok (.ireturn, 1) := by decide +kernel
def w_Ta_sizeAt_51 (C : zC) (n0 : Nat) (Q : Int32 → zS → Prop)  (a0 : Nat) (a1 : Int32) (s0 : Int32) (κ : zS) : Prop :=
  (s0 = (0 : Int32) →
    Q (1 : Int32) κ) ∧
  (¬ s0 = (0 : Int32) →
    ∀ _ : zT κ a0 = 13,
    zRun C 0 mTa_byteAt [.ref a0, .int (a1 + (1 : Int32))] κ (oI (fun r2 κ1 =>
      ∀ _ : zW C n0 κ1,
      ∀ _ : zM (zn κ) κ κ1,
      (¬ r2 = (61 : Int32) →
        Q (1 : Int32) κ1) ∧
      (r2 = (61 : Int32) →
        Q (2 : Int32) κ1)) noX))
theorem t_Ta_sizeAt_51 {C : zC} {n0 : Nat} {Q : Int32 → zS → Prop}   {a0 : Nat} {a1 : Int32} {s0 : Int32} {κ : zS} (W : zW C n0 κ) (Ta0 : zT κ a0 = 13) (F : w_Ta_sizeAt_51 C n0 Q  a0 a1 s0 κ) : zG C n0 1 mTa_sizeAt 51 [some (.ref a0), some (.int a1), none, none, none] [.int s0] κ (oI Q noX) := by
  unfold w_Ta_sizeAt_51 at F
  refine y_is dX10_sizeAt_51 (Nat.le_of_ble_eq_true rfl) rfl ?_
  show zG _ _ _ _ _ [some (.ref a0), some (.int a1), none, none, some (.int s0)] _ _ _
  refine y_il dX10_sizeAt_53 rfl ?_
  refine y_i (s0 = (0 : Int32)) dX10_sizeAt_55 (t := 74) rfl rfl (fun c9 => ?_) (fun c9 => ?_)
  · replace F := F.1 c9
    refine y_ic dX10_sizeAt_74 zi_1 ?_
    exact y_ri W dX10_sizeAt_75 rfl in_nar F
  · replace F := F.2 c9
    refine y_aln dX10_sizeAt_58 rfl ?_
    refine y_iln dX10_sizeAt_59 rfl ?_
    refine y_ic dX10_sizeAt_60 zi_1 ?_
    refine y_iadd dX10_sizeAt_61 ?_
    replace F := F Ta0
    refine k_X10_56 W dX10_sizeAt_62 rfl (Nat.le_of_ble_eq_true rfl) (Nat.le_of_ble_eq_true rfl) (Or.inl Ta0) F (fun r2 κ1 Wκ1 Mκ1 F => ?_) (fun _ _ h9 => False.elim h9)
    replace F := F Wκ1 Mκ1
    refine y_bi1 dX10_sizeAt_65 zb_61 ?_
    refine y_iin (r2 = (61 : Int32)) dX10_sizeAt_67 (t := 74) rfl rfl (fun c9 => ?_) (fun c9 => ?_)
    · replace F := F.1 c9
      refine y_ic dX10_sizeAt_74 zi_1 ?_
      exact y_ri Wκ1 dX10_sizeAt_75 rfl in_nar F
    · replace F := F.2 c9
      refine y_ic dX10_sizeAt_70 zi_2 ?_
      refine y_goto dX10_sizeAt_71 (t := 75) rfl ?_
      exact y_ri Wκ1 dX10_sizeAt_75 rfl in_nar F

def w_Ta_sizeAt_81 (C : zC) (n0 : Nat) (Q : Int32 → zS → Prop)  (a0 : Nat) (a1 : Int32) (a3 : Int32) (a4 : Int32) (κ : zS) : Prop :=
  ∃ I : Nat → Nat → Int32 → Int32 → Int32 → zS → Prop, (∃ n, I n a0 a1 a3 a4 κ) ∧ ∀ n a0 a1 a3 a4 κ, zW C n0 κ → zT κ a0 = 13 → I n a0 a1 a3 a4 κ →
    ((zI κ taLength a0) ≤ a4 →
      Q (a4 - a1) κ) ∧
    (¬ (zI κ taLength a0) ≤ a4 →
      ∀ _ : zT κ a0 = 13,
      zRun C 0 mTa_byteAt [.ref a0, .int a4] κ (oI (fun r2 κ1 =>
        ∀ _ : zW C n0 κ1,
        ∀ _ : zM (zn κ) κ κ1,
        zRun C 0 mTa_isDigit [.int r2] κ1 (oI (fun r5 κ4 =>
          ∀ _ : zW C n0 κ4,
          ∀ _ : zM (zn κ1) κ1 κ4,
          (¬ r5 = (0 : Int32) →
            ∀ v4_7 : Int32, v4_7 = a4 + (1 : Int32) →
            ∃ k < n, I k a0 a1 a3 v4_7 κ4) ∧
          (r5 = (0 : Int32) →
            (a3 = (0 : Int32) →
              Q (a4 - a1) κ4) ∧
            (¬ a3 = (0 : Int32) →
              ∀ _ : zT κ4 a0 = 13,
              zRun C 0 mTa_byteAt [.ref a0, .int a4] κ4 (oI (fun r10 κ9 =>
                ∀ _ : zW C n0 κ9,
                ∀ _ : zM (zn κ4) κ4 κ9,
                zRun C 0 mTa_isLetter [.int r10] κ9 (oI (fun r14 κ13 =>
                  ∀ _ : zW C n0 κ13,
                  ∀ _ : zM (zn κ9) κ9 κ13,
                  (r14 = (0 : Int32) →
                    Q (a4 - a1) κ13) ∧
                  (¬ r14 = (0 : Int32) →
                    ∀ v4_16 : Int32, v4_16 = a4 + (1 : Int32) →
                    ∃ k < n, I k a0 a1 a3 v4_16 κ13)) noX)) noX)))) noX)) noX))
theorem t_Ta_sizeAt_81 {C : zC} {n0 : Nat} {Q : Int32 → zS → Prop}   {a0 : Nat} {a1 : Int32} {a3 : Int32} {a4 : Int32} {κ : zS} (W : zW C n0 κ) (Ta0 : zT κ a0 = 13) (F : w_Ta_sizeAt_81 C n0 Q  a0 a1 a3 a4 κ) : zG C n0 1 mTa_sizeAt 81 [some (.ref a0), some (.int a1), none, some (.int a3), some (.int a4)] [] κ (oI Q noX) := by
  obtain ⟨I, ⟨m0, hI0⟩, F0⟩ := F
  have key : ∀ n a0 a1 a3 a4 κ, zW C n0 κ → zT κ a0 = 13 → I n a0 a1 a3 a4 κ → zG C n0 1 mTa_sizeAt 81 [some (.ref a0), some (.int a1), none, some (.int a3), some (.int a4)] [] κ (oI Q noX) := by
    intro n
    induction n using Nat.strongRecOn with
    | _ n ih =>
      intro a0 a1 a3 a4 κ W Ta0 hI
      have F := F0 n a0 a1 a3 a4 κ W Ta0 hI
      clear hI hI0
      refine y_il dX10_sizeAt_81 rfl ?_
      refine y_aln dX10_sizeAt_83 rfl ?_
      refine gf_X10_31 dX10_sizeAt_84 rfl (Or.inl Ta0) ?_
      refine y_ii ((zI κ taLength a0) ≤ a4) dX10_sizeAt_87 (t := 124) rfl rfl (fun c9 => ?_) (fun c9 => ?_)
      · replace F := F.1 c9
        refine y_il dX10_sizeAt_124 rfl ?_
        refine y_iln dX10_sizeAt_126 rfl ?_
        refine y_isub dX10_sizeAt_127 ?_
        exact y_ri W dX10_sizeAt_128 rfl in_nar F
      · replace F := F.2 c9
        refine y_aln dX10_sizeAt_90 rfl ?_
        refine y_il dX10_sizeAt_91 rfl ?_
        replace F := F Ta0
        refine k_X10_56 W dX10_sizeAt_93 rfl (Nat.le_of_ble_eq_true rfl) (Nat.le_of_ble_eq_true rfl) (Or.inl Ta0) F (fun r2 κ1 Wκ1 Mκ1 F => ?_) (fun _ _ h9 => False.elim h9)
        replace F := F Wκ1 Mκ1
        refine k_X10_63 Wκ1 dX10_sizeAt_96 rfl (Nat.le_of_ble_eq_true rfl) (Nat.le_of_ble_eq_true rfl)  F (fun r5 κ4 Wκ4 Mκ4 F => ?_) (fun _ _ h9 => False.elim h9)
        replace F := F Wκ4 Mκ4
        refine y_in (r5 = (0 : Int32)) dX10_sizeAt_99 (t := 118) rfl rfl (fun c9 => ?_) (fun c9 => ?_)
        · replace F := F.1 c9
          refine y_incb dX10_sizeAt_118 zi_1 rfl (Nat.le_of_ble_eq_true rfl) (fun v4_7 ev4_7 => ?_)
          replace F := F v4_7 ev4_7
          show zG _ _ _ _ _ [some (.ref a0), some (.int a1), none, some (.int a3), some (.int v4_7)] _ _ _
          refine y_goto dX10_sizeAt_121 (t := 81) rfl ?_
          have h8 := (ztm Wκ1 Mκ4 (ztm W Mκ1 Ta0))
          obtain ⟨k, hk, hI⟩ := F
          exact y_k (ih k hk _ _ _ _ _ Wκ4 h8 hI) ⟨rfl, rfl, rfl, rfl, trivial⟩
        · replace F := F.2 c9
          refine y_iln dX10_sizeAt_102 rfl ?_
          refine y_i (a3 = (0 : Int32)) dX10_sizeAt_103 (t := 124) rfl rfl (fun c9 => ?_) (fun c9 => ?_)
          · replace F := F.1 c9
            refine y_il dX10_sizeAt_124 rfl ?_
            refine y_iln dX10_sizeAt_126 rfl ?_
            refine y_isub dX10_sizeAt_127 ?_
            exact y_ri Wκ4 dX10_sizeAt_128 rfl in_nar F
          · replace F := F.2 c9
            refine y_aln dX10_sizeAt_106 rfl ?_
            refine y_il dX10_sizeAt_107 rfl ?_
            have h11 := (ztm Wκ1 Mκ4 (ztm W Mκ1 Ta0))
            replace F := F h11
            refine k_X10_56 Wκ4 dX10_sizeAt_109 rfl (Nat.le_of_ble_eq_true rfl) (Nat.le_of_ble_eq_true rfl) (Or.inl h11) F (fun r10 κ9 Wκ9 Mκ9 F => ?_) (fun _ _ h9 => False.elim h9)
            replace F := F Wκ9 Mκ9
            refine k_X10_59 Wκ9 dX10_sizeAt_112 rfl (Nat.le_of_ble_eq_true rfl) (Nat.le_of_ble_eq_true rfl)  F (fun r14 κ13 Wκ13 Mκ13 F => ?_) (fun _ _ h9 => False.elim h9)
            replace F := F Wκ13 Mκ13
            refine y_i (r14 = (0 : Int32)) dX10_sizeAt_115 (t := 124) rfl rfl (fun c9 => ?_) (fun c9 => ?_)
            · replace F := F.1 c9
              refine y_il dX10_sizeAt_124 rfl ?_
              refine y_iln dX10_sizeAt_126 rfl ?_
              refine y_isub dX10_sizeAt_127 ?_
              exact y_ri Wκ13 dX10_sizeAt_128 rfl in_nar F
            · replace F := F.2 c9
              refine y_incb dX10_sizeAt_118 zi_1 rfl (Nat.le_of_ble_eq_true rfl) (fun v4_16 ev4_16 => ?_)
              replace F := F v4_16 ev4_16
              show zG _ _ _ _ _ [some (.ref a0), some (.int a1), none, some (.int a3), some (.int v4_16)] _ _ _
              refine y_goto dX10_sizeAt_121 (t := 81) rfl ?_
              have h17 := (ztm Wκ9 Mκ13 (ztm Wκ4 Mκ9 h11))
              obtain ⟨k, hk, hI⟩ := F
              exact y_k (ih k hk _ _ _ _ _ Wκ13 h17 hI) ⟨rfl, rfl, rfl, rfl, trivial⟩
  exact key m0 a0 a1 a3 a4 κ W Ta0 hI0

def w_Ta_sizeAt_76 (C : zC) (n0 : Nat) (Q : Int32 → zS → Prop)  (a0 : Nat) (a1 : Int32) (a3 : Int32) (κ : zS) : Prop :=
  ∀ v4_1 : Int32, v4_1 = (a1 + (1 : Int32)) →
  w_Ta_sizeAt_81 C n0 Q  a0 a1 a3 v4_1 κ
theorem t_Ta_sizeAt_76 {C : zC} {n0 : Nat} {Q : Int32 → zS → Prop}   {a0 : Nat} {a1 : Int32} {a3 : Int32} {κ : zS} (W : zW C n0 κ) (Ta0 : zT κ a0 = 13) (F : w_Ta_sizeAt_76 C n0 Q  a0 a1 a3 κ) : zG C n0 1 mTa_sizeAt 76 [some (.ref a0), some (.int a1), none, some (.int a3), none] [] κ (oI Q noX) := by
  unfold w_Ta_sizeAt_76 at F
  refine y_iln dX10_sizeAt_76 rfl ?_
  refine y_ic dX10_sizeAt_77 zi_1 ?_
  refine y_iadd dX10_sizeAt_78 ?_
  refine y_isb dX10_sizeAt_79 (Nat.le_of_ble_eq_true rfl) (fun v4_1 ev4_1 => ?_)
  replace F := F v4_1 ev4_1
  show zG _ _ _ _ _ [some (.ref a0), some (.int a1), none, some (.int a3), some (.int v4_1)] _ _ _
  exact y_k (t_Ta_sizeAt_81  W Ta0 F) ⟨rfl, rfl, rfl, rfl, trivial⟩

def w_Ta_sizeAt_0 (C : zC) (n0 : Nat) (Q : Int32 → zS → Prop)  (a0 : Nat) (a1 : Int32) (κ : zS) : Prop :=
  ∀ _ : zT κ a0 = 13,
  zRun C 0 mTa_byteAt [.ref a0, .int a1] κ (oI (fun r2 κ1 =>
    ∀ _ : zW C n0 κ1,
    ∀ _ : zM (zn κ) κ κ1,
    zRun C 0 mTa_isLetter [.int r2] κ1 (oI (fun r5 κ4 =>
      ∀ _ : zW C n0 κ4,
      ∀ _ : zM (zn κ1) κ1 κ4,
      (¬ r5 = (0 : Int32) →
        w_Ta_sizeAt_76 C n0 Q  a0 a1 r5 κ4) ∧
      (r5 = (0 : Int32) →
        zRun C 0 mTa_isDigit [.int r2] κ4 (oI (fun r9 κ8 =>
          ∀ _ : zW C n0 κ8,
          ∀ _ : zM (zn κ4) κ4 κ8,
          (¬ r9 = (0 : Int32) →
            w_Ta_sizeAt_76 C n0 Q  a0 a1 r5 κ8) ∧
          (r9 = (0 : Int32) →
            (r2 = (61 : Int32) →
              w_Ta_sizeAt_51 C n0 Q  a0 a1 (1 : Int32) κ8) ∧
            (¬ r2 = (61 : Int32) →
              (r2 = (33 : Int32) →
                w_Ta_sizeAt_51 C n0 Q  a0 a1 (1 : Int32) κ8) ∧
              (¬ r2 = (33 : Int32) →
                (r2 = (60 : Int32) →
                  w_Ta_sizeAt_51 C n0 Q  a0 a1 (1 : Int32) κ8) ∧
                (¬ r2 = (60 : Int32) →
                  (¬ r2 = (62 : Int32) →
                    w_Ta_sizeAt_51 C n0 Q  a0 a1 (0 : Int32) κ8) ∧
                  (r2 = (62 : Int32) →
                    w_Ta_sizeAt_51 C n0 Q  a0 a1 (1 : Int32) κ8)))))) noX))) noX)) noX)
theorem t_Ta_sizeAt_0 {C : zC} {n0 : Nat} {Q : Int32 → zS → Prop}   {a0 : Nat} {a1 : Int32} {κ : zS} (W : zW C n0 κ) (Ta0 : zT κ a0 = 13) (F : w_Ta_sizeAt_0 C n0 Q  a0 a1 κ) : zG C n0 1 mTa_sizeAt 0 [some (.ref a0), some (.int a1), none, none, none] [] κ (oI Q noX) := by
  unfold w_Ta_sizeAt_0 at F
  refine y_aln dX10_sizeAt_0 rfl ?_
  refine y_iln dX10_sizeAt_1 rfl ?_
  replace F := F Ta0
  refine k_X10_56 W dX10_sizeAt_2 rfl (Nat.le_of_ble_eq_true rfl) (Nat.le_of_ble_eq_true rfl) (Or.inl Ta0) F (fun r2 κ1 Wκ1 Mκ1 F => ?_) (fun _ _ h9 => False.elim h9)
  replace F := F Wκ1 Mκ1
  refine y_isn dX10_sizeAt_5 (Nat.le_of_ble_eq_true rfl) rfl ?_
  show zG _ _ _ _ _ [some (.ref a0), some (.int a1), some (.int r2), none, none] _ _ _
  refine y_iln dX10_sizeAt_6 rfl ?_
  refine k_X10_59 Wκ1 dX10_sizeAt_7 rfl (Nat.le_of_ble_eq_true rfl) (Nat.le_of_ble_eq_true rfl)  F (fun r5 κ4 Wκ4 Mκ4 F => ?_) (fun _ _ h9 => False.elim h9)
  replace F := F Wκ4 Mκ4
  refine y_isn dX10_sizeAt_10 (Nat.le_of_ble_eq_true rfl) rfl ?_
  show zG _ _ _ _ _ [some (.ref a0), some (.int a1), some (.int r2), some (.int r5), none] _ _ _
  refine y_iln dX10_sizeAt_11 rfl ?_
  refine y_in (r5 = (0 : Int32)) dX10_sizeAt_12 (t := 76) rfl rfl (fun c9 => ?_) (fun c9 => ?_)
  · replace F := F.1 c9
    have h7 := (ztm Wκ1 Mκ4 (ztm W Mκ1 Ta0))
    exact y_k (t_Ta_sizeAt_76  Wκ4 h7 F) ⟨rfl, rfl, rfl, trivial⟩
  · replace F := F.2 c9
    refine y_iln dX10_sizeAt_15 rfl ?_
    refine k_X10_63 Wκ4 dX10_sizeAt_16 rfl (Nat.le_of_ble_eq_true rfl) (Nat.le_of_ble_eq_true rfl)  F (fun r9 κ8 Wκ8 Mκ8 F => ?_) (fun _ _ h9 => False.elim h9)
    replace F := F Wκ8 Mκ8
    refine y_in (r9 = (0 : Int32)) dX10_sizeAt_19 (t := 76) rfl rfl (fun c9 => ?_) (fun c9 => ?_)
    · replace F := F.1 c9
      have h11 := (ztm Wκ4 Mκ8 (ztm Wκ1 Mκ4 (ztm W Mκ1 Ta0)))
      exact y_k (t_Ta_sizeAt_76  Wκ8 h11 F) ⟨rfl, rfl, rfl, trivial⟩
    · replace F := F.2 c9
      refine y_iln dX10_sizeAt_22 rfl ?_
      refine y_bi1 dX10_sizeAt_23 zb_61 ?_
      refine y_ii (r2 = (61 : Int32)) dX10_sizeAt_25 (t := 46) rfl rfl (fun c9 => ?_) (fun c9 => ?_)
      · replace F := F.1 c9
        refine y_ic dX10_sizeAt_46 zi_1 ?_
        refine y_goto dX10_sizeAt_47 (t := 51) rfl ?_
        have h12 := (ztm Wκ4 Mκ8 (ztm Wκ1 Mκ4 (ztm W Mκ1 Ta0)))
        exact y_k (t_Ta_sizeAt_51  Wκ8 h12 F) ⟨rfl, rfl, trivial⟩
      · replace F := F.2 c9
        refine y_iln dX10_sizeAt_28 rfl ?_
        refine y_bi1 dX10_sizeAt_29 zb_33 ?_
        refine y_ii (r2 = (33 : Int32)) dX10_sizeAt_31 (t := 46) rfl rfl (fun c9 => ?_) (fun c9 => ?_)
        · replace F := F.1 c9
          refine y_ic dX10_sizeAt_46 zi_1 ?_
          refine y_goto dX10_sizeAt_47 (t := 51) rfl ?_
          have h13 := (ztm Wκ4 Mκ8 (ztm Wκ1 Mκ4 (ztm W Mκ1 Ta0)))
          exact y_k (t_Ta_sizeAt_51  Wκ8 h13 F) ⟨rfl, rfl, trivial⟩
        · replace F := F.2 c9
          refine y_iln dX10_sizeAt_34 rfl ?_
          refine y_bi1 dX10_sizeAt_35 zb_60 ?_
          refine y_ii (r2 = (60 : Int32)) dX10_sizeAt_37 (t := 46) rfl rfl (fun c9 => ?_) (fun c9 => ?_)
          · replace F := F.1 c9
            refine y_ic dX10_sizeAt_46 zi_1 ?_
            refine y_goto dX10_sizeAt_47 (t := 51) rfl ?_
            have h14 := (ztm Wκ4 Mκ8 (ztm Wκ1 Mκ4 (ztm W Mκ1 Ta0)))
            exact y_k (t_Ta_sizeAt_51  Wκ8 h14 F) ⟨rfl, rfl, trivial⟩
          · replace F := F.2 c9
            refine y_iln dX10_sizeAt_40 rfl ?_
            refine y_bi1 dX10_sizeAt_41 zb_62 ?_
            refine y_iin (r2 = (62 : Int32)) dX10_sizeAt_43 (t := 50) rfl rfl (fun c9 => ?_) (fun c9 => ?_)
            · replace F := F.1 c9
              refine y_ic dX10_sizeAt_50 zi_0 ?_
              have h15 := (ztm Wκ4 Mκ8 (ztm Wκ1 Mκ4 (ztm W Mκ1 Ta0)))
              exact y_k (t_Ta_sizeAt_51  Wκ8 h15 F) ⟨rfl, rfl, trivial⟩
            · replace F := F.2 c9
              refine y_ic dX10_sizeAt_46 zi_1 ?_
              refine y_goto dX10_sizeAt_47 (t := 51) rfl ?_
              have h16 := (ztm Wκ4 Mκ8 (ztm Wκ1 Mκ4 (ztm W Mκ1 Ta0)))
              exact y_k (t_Ta_sizeAt_51  Wκ8 h16 F) ⟨rfl, rfl, trivial⟩

theorem Ta_sizeAt_run {C : zC} {n0 : Nat} {Q : Int32 → zS → Prop} {a0 : Nat} {a1 : Int32} {κ : zS} (W : zW C n0 κ) (Ta0 : zT κ a0 = 13) (F : w_Ta_sizeAt_0 C (zn κ) Q a0 a1 κ) : zRun C 1 mTa_sizeAt [.ref a0, .int a1] κ (oI Q noX) := z_run (m_ent _ 3) (t_Ta_sizeAt_0 (W.lo (Nat.le_trans W.1.2.1 W.1.2.2) (Nat.le_refl _)) Ta0 F)

theorem dX10_skipBlanks_0 : decode cX10_skipBlanks 0 = .ok (.iconst 0, 1) := by decide +kernel
theorem dX10_skipBlanks_1 : decode cX10_skipBlanks 1 = .ok (.istore_n 2, 1) := by decide +kernel
theorem dX10_skipBlanks_2 : decode cX10_skipBlanks 2 = .ok (.iload_n 1, 1) := by decide +kernel
theorem dX10_skipBlanks_3 : decode cX10_skipBlanks 3 = .ok (.istore_n 3, 1) := by decide +kernel
theorem dX10_skipBlanks_4 : decode cX10_skipBlanks 4 = .ok (.iload_n 3, 1) := by decide +kernel
theorem dX10_skipBlanks_5 : decode cX10_skipBlanks 5 = .ok (.aload_n 0, 1) := by decide +kernel
theorem dX10_skipBlanks_6 : decode cX10_skipBlanks 6 = .ok (.getfield 31, 3) := by decide +kernel
theorem dX10_skipBlanks_9 : decode cX10_skipBlanks 9 = .ok (.if_icmp .ge 67, 3) := by decide +kernel
theorem dX10_skipBlanks_12 : decode cX10_skipBlanks 12 = .ok (.aload_n 0, 1) := by decide +kernel
theorem dX10_skipBlanks_13 : decode cX10_skipBlanks 13 = .ok (.iload_n 3, 1) := by decide +kernel
theorem dX10_skipBlanks_14 : decode cX10_skipBlanks 14 = .ok (.invokevirtual 56, 3) := by decide +kernel
theorem dX10_skipBlanks_17 : decode cX10_skipBlanks 17 = .ok (.istore 4, 2) := by decide +kernel
theorem dX10_skipBlanks_19 : decode cX10_skipBlanks 19 = .ok (.iload 4, 2) := by decide +kernel
theorem dX10_skipBlanks_21 : decode cX10_skipBlanks 21 = .ok (.bipush 10, 2) := by decide +kernel
theorem dX10_skipBlanks_23 : decode cX10_skipBlanks 23 = .ok (.if_icmp .ne 8, 3) := by decide +kernel
theorem dX10_skipBlanks_26 : decode cX10_skipBlanks 26 = .ok (.iconst 0, 1) := by decide +kernel
theorem dX10_skipBlanks_27 : decode cX10_skipBlanks 27 = .ok (.istore_n 2, 1) := by decide +kernel
theorem dX10_skipBlanks_28 : decode cX10_skipBlanks 28 = .ok (.goto 42, 3) := by decide +kernel
theorem dX10_skipBlanks_31 : decode cX10_skipBlanks 31 = .ok (.iload 4, 2) := by decide +kernel
theorem dX10_skipBlanks_33 : decode cX10_skipBlanks 33 = .ok (.bipush 35, 2) := by decide +kernel
theorem dX10_skipBlanks_35 : decode cX10_skipBlanks 35 = .ok (.if_icmp .ne 8, 3) := by decide +kernel
theorem dX10_skipBlanks_38 : decode cX10_skipBlanks 38 = .ok (.iconst 1, 1) := by decide +kernel
theorem dX10_skipBlanks_39 : decode cX10_skipBlanks 39 = .ok (.istore_n 2, 1) := by decide +kernel
theorem dX10_skipBlanks_40 : decode cX10_skipBlanks 40 = .ok (.goto 30, 3) := by decide +kernel
theorem dX10_skipBlanks_43 : decode cX10_skipBlanks 43 = .ok (.iload_n 2, 1) := by decide +kernel
theorem dX10_skipBlanks_44 : decode cX10_skipBlanks 44 = .ok (.ifCond .ne 26, 3) := by decide +kernel
theorem dX10_skipBlanks_47 : decode cX10_skipBlanks 47 = .ok (.iload 4, 2) := by decide +kernel
theorem dX10_skipBlanks_49 : decode cX10_skipBlanks 49 = .ok (.bipush 9, 2) := by decide +kernel
theorem dX10_skipBlanks_51 : decode cX10_skipBlanks 51 = .ok (.if_icmp .eq 19, 3) := by decide +kernel
theorem dX10_skipBlanks_54 : decode cX10_skipBlanks 54 = .ok (.iload 4, 2) := by decide +kernel
theorem dX10_skipBlanks_56 : decode cX10_skipBlanks 56 = .ok (.bipush 13, 2) := by decide +kernel
theorem dX10_skipBlanks_58 : decode cX10_skipBlanks 58 = .ok (.if_icmp .eq 12, 3) := by decide +kernel
theorem dX10_skipBlanks_61 : decode cX10_skipBlanks 61 = .ok (.iload 4, 2) := by decide +kernel
theorem dX10_skipBlanks_63 : decode cX10_skipBlanks 63 = .ok (.bipush 32, 2) := by decide +kernel
theorem dX10_skipBlanks_65 : decode cX10_skipBlanks 65 = .ok (.if_icmp .eq 5, 3) := by decide +kernel
theorem dX10_skipBlanks_68 : decode cX10_skipBlanks 68 = .ok (.iload_n 3, 1) := by decide +kernel
theorem dX10_skipBlanks_69 : decode cX10_skipBlanks 69 = .ok (.ireturn, 1) := by decide +kernel
theorem dX10_skipBlanks_70 : decode cX10_skipBlanks 70 = .ok (.iinc 3 1, 3) := by decide +kernel
theorem dX10_skipBlanks_73 : decode cX10_skipBlanks 73 = .ok (.goto (-69), 3) := by decide +kernel
theorem dX10_skipBlanks_76 : decode cX10_skipBlanks 76 = .ok (.aload_n 0, 1) := by decide +kernel
theorem dX10_skipBlanks_77 : decode cX10_skipBlanks 77 = .ok (.getfield 31, 3) := by decide +kernel
theorem dX10_skipBlanks_80 : decode cX10_skipBlanks 80 = .ok (.ireturn, 1) := by decide +kernel
def w_Ta_skipBlanks_4 (C : zC) (n0 : Nat) (Q : Int32 → zS → Prop)  (a0 : Nat) (a2 : Int32) (a3 : Int32) (κ : zS) : Prop :=
  ∃ I : Nat → Nat → Int32 → Int32 → zS → Prop, (∃ n, I n a0 a2 a3 κ) ∧ ∀ n a0 a2 a3 κ, zW C n0 κ → zT κ a0 = 13 → I n a0 a2 a3 κ →
    ((zI κ taLength a0) ≤ a3 →
      Q (zI κ taLength a0) κ) ∧
    (¬ (zI κ taLength a0) ≤ a3 →
      ∀ _ : zT κ a0 = 13,
      zRun C 0 mTa_byteAt [.ref a0, .int a3] κ (oI (fun r2 κ1 =>
        ∀ _ : zW C n0 κ1,
        ∀ _ : zM (zn κ) κ κ1,
        (¬ r2 = (10 : Int32) →
          (¬ r2 = (35 : Int32) →
            (¬ a2 = (0 : Int32) →
              ∀ v3_4 : Int32, v3_4 = a3 + (1 : Int32) →
              ∃ k < n, I k a0 a2 v3_4 κ1) ∧
            (a2 = (0 : Int32) →
              (r2 = (9 : Int32) →
                ∀ v3_6 : Int32, v3_6 = a3 + (1 : Int32) →
                ∃ k < n, I k a0 a2 v3_6 κ1) ∧
              (¬ r2 = (9 : Int32) →
                (r2 = (13 : Int32) →
                  ∀ v3_8 : Int32, v3_8 = a3 + (1 : Int32) →
                  ∃ k < n, I k a0 a2 v3_8 κ1) ∧
                (¬ r2 = (13 : Int32) →
                  (r2 = (32 : Int32) →
                    ∀ v3_10 : Int32, v3_10 = a3 + (1 : Int32) →
                    ∃ k < n, I k a0 a2 v3_10 κ1) ∧
                  (¬ r2 = (32 : Int32) →
                    Q a3 κ1))))) ∧
          (r2 = (35 : Int32) →
            ∀ v3_12 : Int32, v3_12 = a3 + (1 : Int32) →
            ∃ k < n, I k a0 (1 : Int32) v3_12 κ1)) ∧
        (r2 = (10 : Int32) →
          ∀ v3_14 : Int32, v3_14 = a3 + (1 : Int32) →
          ∃ k < n, I k a0 (0 : Int32) v3_14 κ1)) noX))
theorem t_Ta_skipBlanks_4 {C : zC} {n0 : Nat} {Q : Int32 → zS → Prop}   {a0 : Nat} {a2 : Int32} {a3 : Int32} {κ : zS} (W : zW C n0 κ) (Ta0 : zT κ a0 = 13) (F : w_Ta_skipBlanks_4 C n0 Q  a0 a2 a3 κ) : zG C n0 1 mTa_skipBlanks 4 [some (.ref a0), none, some (.int a2), some (.int a3), none] [] κ (oI Q noX) := by
  obtain ⟨I, ⟨m0, hI0⟩, F0⟩ := F
  have key : ∀ n a0 a2 a3 κ, zW C n0 κ → zT κ a0 = 13 → I n a0 a2 a3 κ → zG C n0 1 mTa_skipBlanks 4 [some (.ref a0), none, some (.int a2), some (.int a3), none] [] κ (oI Q noX) := by
    intro n
    induction n using Nat.strongRecOn with
    | _ n ih =>
      intro a0 a2 a3 κ W Ta0 hI
      have F := F0 n a0 a2 a3 κ W Ta0 hI
      clear hI hI0
      refine y_iln dX10_skipBlanks_4 rfl ?_
      refine y_aln dX10_skipBlanks_5 rfl ?_
      refine gf_X10_31 dX10_skipBlanks_6 rfl (Or.inl Ta0) ?_
      refine y_ii ((zI κ taLength a0) ≤ a3) dX10_skipBlanks_9 (t := 76) rfl rfl (fun c9 => ?_) (fun c9 => ?_)
      · replace F := F.1 c9
        refine y_aln dX10_skipBlanks_76 rfl ?_
        refine gf_X10_31 dX10_skipBlanks_77 rfl (Or.inl Ta0) ?_
        exact y_ri W dX10_skipBlanks_80 rfl in_nar F
      · replace F := F.2 c9
        refine y_aln dX10_skipBlanks_12 rfl ?_
        refine y_iln dX10_skipBlanks_13 rfl ?_
        replace F := F Ta0
        refine k_X10_56 W dX10_skipBlanks_14 rfl (Nat.le_of_ble_eq_true rfl) (Nat.le_of_ble_eq_true rfl) (Or.inl Ta0) F (fun r2 κ1 Wκ1 Mκ1 F => ?_) (fun _ _ h9 => False.elim h9)
        replace F := F Wκ1 Mκ1
        refine y_is dX10_skipBlanks_17 (Nat.le_of_ble_eq_true rfl) rfl ?_
        show zG _ _ _ _ _ [some (.ref a0), none, some (.int a2), some (.int a3), some (.int r2)] _ _ _
        refine y_il dX10_skipBlanks_19 rfl ?_
        refine y_bi1 dX10_skipBlanks_21 zb_10 ?_
        refine y_iin (r2 = (10 : Int32)) dX10_skipBlanks_23 (t := 31) rfl rfl (fun c9 => ?_) (fun c9 => ?_)
        · replace F := F.1 c9
          refine y_il dX10_skipBlanks_31 rfl ?_
          refine y_bi1 dX10_skipBlanks_33 zb_35 ?_
          refine y_iin (r2 = (35 : Int32)) dX10_skipBlanks_35 (t := 43) rfl rfl (fun c9 => ?_) (fun c9 => ?_)
          · replace F := F.1 c9
            refine y_iln dX10_skipBlanks_43 rfl ?_
            refine y_in (a2 = (0 : Int32)) dX10_skipBlanks_44 (t := 70) rfl rfl (fun c9 => ?_) (fun c9 => ?_)
            · replace F := F.1 c9
              refine y_incb dX10_skipBlanks_70 zi_1 rfl (Nat.le_of_ble_eq_true rfl) (fun v3_4 ev3_4 => ?_)
              replace F := F v3_4 ev3_4
              show zG _ _ _ _ _ [some (.ref a0), none, some (.int a2), some (.int v3_4), some (.int r2)] _ _ _
              refine y_goto dX10_skipBlanks_73 (t := 4) rfl ?_
              have h5 := (ztm W Mκ1 Ta0)
              obtain ⟨k, hk, hI⟩ := F
              exact y_k (ih k hk _ _ _ _ Wκ1 h5 hI) ⟨rfl, rfl, rfl, trivial⟩
            · replace F := F.2 c9
              refine y_il dX10_skipBlanks_47 rfl ?_
              refine y_bi1 dX10_skipBlanks_49 zb_9 ?_
              refine y_ii (r2 = (9 : Int32)) dX10_skipBlanks_51 (t := 70) rfl rfl (fun c9 => ?_) (fun c9 => ?_)
              · replace F := F.1 c9
                refine y_incb dX10_skipBlanks_70 zi_1 rfl (Nat.le_of_ble_eq_true rfl) (fun v3_6 ev3_6 => ?_)
                replace F := F v3_6 ev3_6
                show zG _ _ _ _ _ [some (.ref a0), none, some (.int a2), some (.int v3_6), some (.int r2)] _ _ _
                refine y_goto dX10_skipBlanks_73 (t := 4) rfl ?_
                have h7 := (ztm W Mκ1 Ta0)
                obtain ⟨k, hk, hI⟩ := F
                exact y_k (ih k hk _ _ _ _ Wκ1 h7 hI) ⟨rfl, rfl, rfl, trivial⟩
              · replace F := F.2 c9
                refine y_il dX10_skipBlanks_54 rfl ?_
                refine y_bi1 dX10_skipBlanks_56 zb_13 ?_
                refine y_ii (r2 = (13 : Int32)) dX10_skipBlanks_58 (t := 70) rfl rfl (fun c9 => ?_) (fun c9 => ?_)
                · replace F := F.1 c9
                  refine y_incb dX10_skipBlanks_70 zi_1 rfl (Nat.le_of_ble_eq_true rfl) (fun v3_8 ev3_8 => ?_)
                  replace F := F v3_8 ev3_8
                  show zG _ _ _ _ _ [some (.ref a0), none, some (.int a2), some (.int v3_8), some (.int r2)] _ _ _
                  refine y_goto dX10_skipBlanks_73 (t := 4) rfl ?_
                  have h9 := (ztm W Mκ1 Ta0)
                  obtain ⟨k, hk, hI⟩ := F
                  exact y_k (ih k hk _ _ _ _ Wκ1 h9 hI) ⟨rfl, rfl, rfl, trivial⟩
                · replace F := F.2 c9
                  refine y_il dX10_skipBlanks_61 rfl ?_
                  refine y_bi1 dX10_skipBlanks_63 zb_32 ?_
                  refine y_ii (r2 = (32 : Int32)) dX10_skipBlanks_65 (t := 70) rfl rfl (fun c9 => ?_) (fun c9 => ?_)
                  · replace F := F.1 c9
                    refine y_incb dX10_skipBlanks_70 zi_1 rfl (Nat.le_of_ble_eq_true rfl) (fun v3_10 ev3_10 => ?_)
                    replace F := F v3_10 ev3_10
                    show zG _ _ _ _ _ [some (.ref a0), none, some (.int a2), some (.int v3_10), some (.int r2)] _ _ _
                    refine y_goto dX10_skipBlanks_73 (t := 4) rfl ?_
                    have h11 := (ztm W Mκ1 Ta0)
                    obtain ⟨k, hk, hI⟩ := F
                    exact y_k (ih k hk _ _ _ _ Wκ1 h11 hI) ⟨rfl, rfl, rfl, trivial⟩
                  · replace F := F.2 c9
                    refine y_iln dX10_skipBlanks_68 rfl ?_
                    exact y_ri Wκ1 dX10_skipBlanks_69 rfl in_nar F
          · replace F := F.2 c9
            refine y_ic dX10_skipBlanks_38 zi_1 ?_
            refine y_isn dX10_skipBlanks_39 (Nat.le_of_ble_eq_true rfl) rfl ?_
            show zG _ _ _ _ _ [some (.ref a0), none, some (.int (1 : Int32)), some (.int a3), some (.int r2)] _ _ _
            refine y_goto dX10_skipBlanks_40 (t := 70) rfl ?_
            refine y_incb dX10_skipBlanks_70 zi_1 rfl (Nat.le_of_ble_eq_true rfl) (fun v3_12 ev3_12 => ?_)
            replace F := F v3_12 ev3_12
            show zG _ _ _ _ _ [some (.ref a0), none, some (.int (1 : Int32)), some (.int v3_12), some (.int r2)] _ _ _
            refine y_goto dX10_skipBlanks_73 (t := 4) rfl ?_
            have h13 := (ztm W Mκ1 Ta0)
            obtain ⟨k, hk, hI⟩ := F
            exact y_k (ih k hk _ _ _ _ Wκ1 h13 hI) ⟨rfl, rfl, rfl, trivial⟩
        · replace F := F.2 c9
          refine y_ic dX10_skipBlanks_26 zi_0 ?_
          refine y_isn dX10_skipBlanks_27 (Nat.le_of_ble_eq_true rfl) rfl ?_
          show zG _ _ _ _ _ [some (.ref a0), none, some (.int (0 : Int32)), some (.int a3), some (.int r2)] _ _ _
          refine y_goto dX10_skipBlanks_28 (t := 70) rfl ?_
          refine y_incb dX10_skipBlanks_70 zi_1 rfl (Nat.le_of_ble_eq_true rfl) (fun v3_14 ev3_14 => ?_)
          replace F := F v3_14 ev3_14
          show zG _ _ _ _ _ [some (.ref a0), none, some (.int (0 : Int32)), some (.int v3_14), some (.int r2)] _ _ _
          refine y_goto dX10_skipBlanks_73 (t := 4) rfl ?_
          have h15 := (ztm W Mκ1 Ta0)
          obtain ⟨k, hk, hI⟩ := F
          exact y_k (ih k hk _ _ _ _ Wκ1 h15 hI) ⟨rfl, rfl, rfl, trivial⟩
  exact key m0 a0 a2 a3 κ W Ta0 hI0

def w_Ta_skipBlanks_0 (C : zC) (n0 : Nat) (Q : Int32 → zS → Prop)  (a0 : Nat) (a1 : Int32) (κ : zS) : Prop :=
  w_Ta_skipBlanks_4 C n0 Q  a0 (0 : Int32) a1 κ
theorem t_Ta_skipBlanks_0 {C : zC} {n0 : Nat} {Q : Int32 → zS → Prop}   {a0 : Nat} {a1 : Int32} {κ : zS} (W : zW C n0 κ) (Ta0 : zT κ a0 = 13) (F : w_Ta_skipBlanks_0 C n0 Q  a0 a1 κ) : zG C n0 1 mTa_skipBlanks 0 [some (.ref a0), some (.int a1), none, none, none] [] κ (oI Q noX) := by
  unfold w_Ta_skipBlanks_0 at F
  refine y_ic dX10_skipBlanks_0 zi_0 ?_
  refine y_isn dX10_skipBlanks_1 (Nat.le_of_ble_eq_true rfl) rfl ?_
  show zG _ _ _ _ _ [some (.ref a0), some (.int a1), some (.int (0 : Int32)), none, none] _ _ _
  refine y_iln dX10_skipBlanks_2 rfl ?_
  refine y_isn dX10_skipBlanks_3 (Nat.le_of_ble_eq_true rfl) rfl ?_
  show zG _ _ _ _ _ [some (.ref a0), some (.int a1), some (.int (0 : Int32)), some (.int a1), none] _ _ _
  exact y_k (t_Ta_skipBlanks_4  W Ta0 F) ⟨rfl, rfl, rfl, trivial⟩

theorem Ta_skipBlanks_run {C : zC} {n0 : Nat} {Q : Int32 → zS → Prop} {a0 : Nat} {a1 : Int32} {κ : zS} (W : zW C n0 κ) (Ta0 : zT κ a0 = 13) (F : w_Ta_skipBlanks_0 C (zn κ) Q a0 a1 κ) : zRun C 1 mTa_skipBlanks [.ref a0, .int a1] κ (oI Q noX) := z_run (m_ent _ 3) (t_Ta_skipBlanks_0 (W.lo (Nat.le_trans W.1.2.1 W.1.2.2) (Nat.le_refl _)) Ta0 F)

theorem dX10_split_0 : decode cX10_split 0 = .ok (.aload_n 0, 1) := by decide +kernel
theorem dX10_split_1 : decode cX10_split 1 = .ok (.iconst 0, 1) := by decide +kernel
theorem dX10_split_2 : decode cX10_split 2 = .ok (.putfield 35, 3) := by decide +kernel
theorem dX10_split_5 : decode cX10_split 5 = .ok (.iconst 0, 1) := by decide +kernel
theorem dX10_split_6 : decode cX10_split 6 = .ok (.istore_n 1, 1) := by decide +kernel
theorem dX10_split_7 : decode cX10_split 7 = .ok (.iconst 0, 1) := by decide +kernel
theorem dX10_split_8 : decode cX10_split 8 = .ok (.istore_n 2, 1) := by decide +kernel
theorem dX10_split_9 : decode cX10_split 9 = .ok (.iload_n 2, 1) := by decide +kernel
theorem dX10_split_10 : decode cX10_split 10 = .ok (.aload_n 0, 1) := by decide +kernel
theorem dX10_split_11 : decode cX10_split 11 = .ok (.getfield 31, 3) := by decide +kernel
theorem dX10_split_14 : decode cX10_split 14 = .ok (.if_icmp .gt 84, 3) := by decide +kernel
theorem dX10_split_17 : decode cX10_split 17 = .ok (.aload_n 0, 1) := by decide +kernel
theorem dX10_split_18 : decode cX10_split 18 = .ok (.iload_n 1, 1) := by decide +kernel
theorem dX10_split_19 : decode cX10_split 19 = .ok (.invokevirtual 38, 3) := by decide +kernel
theorem dX10_split_22 : decode cX10_split 22 = .ok (.istore_n 1, 1) := by decide +kernel
theorem dX10_split_23 : decode cX10_split 23 = .ok (.iload_n 1, 1) := by decide +kernel
theorem dX10_split_24 : decode cX10_split 24 = .ok (.aload_n 0, 1) := by decide +kernel
theorem dX10_split_25 : decode cX10_split 25 = .ok (.getfield 31, 3) := by decide +kernel
theorem dX10_split_28 : decode cX10_split 28 = .ok (.if_icmp .ge 11, 3) := by decide +kernel
theorem dX10_split_31 : decode cX10_split 31 = .ok (.aload_n 0, 1) := by decide +kernel
theorem dX10_split_32 : decode cX10_split 32 = .ok (.iload_n 1, 1) := by decide +kernel
theorem dX10_split_33 : decode cX10_split 33 = .ok (.invokevirtual 42, 3) := by decide +kernel
theorem dX10_split_36 : decode cX10_split 36 = .ok (.goto 4, 3) := by decide +kernel
theorem dX10_split_39 : decode cX10_split 39 = .ok (.iconst 0, 1) := by decide +kernel
theorem dX10_split_40 : decode cX10_split 40 = .ok (.istore_n 3, 1) := by decide +kernel
theorem dX10_split_41 : decode cX10_split 41 = .ok (.iload_n 1, 1) := by decide +kernel
theorem dX10_split_42 : decode cX10_split 42 = .ok (.aload_n 0, 1) := by decide +kernel
theorem dX10_split_43 : decode cX10_split 43 = .ok (.getfield 31, 3) := by decide +kernel
theorem dX10_split_46 : decode cX10_split 46 = .ok (.if_icmp .ge 12, 3) := by decide +kernel
theorem dX10_split_49 : decode cX10_split 49 = .ok (.aload_n 0, 1) := by decide +kernel
theorem dX10_split_50 : decode cX10_split 50 = .ok (.iload_n 1, 1) := by decide +kernel
theorem dX10_split_51 : decode cX10_split 51 = .ok (.iload_n 3, 1) := by decide +kernel
theorem dX10_split_52 : decode cX10_split 52 = .ok (.invokevirtual 45, 3) := by decide +kernel
theorem dX10_split_55 : decode cX10_split 55 = .ok (.goto 6, 3) := by decide +kernel
theorem dX10_split_58 : decode cX10_split 58 = .ok (.sipush 142, 3) := by decide +kernel
theorem dX10_split_61 : decode cX10_split 61 = .ok (.istore 4, 2) := by decide +kernel
theorem dX10_split_63 : decode cX10_split 63 = .ok (.aload_n 0, 1) := by decide +kernel
theorem dX10_split_64 : decode cX10_split 64 = .ok (.iload 4, 2) := by decide +kernel
theorem dX10_split_66 : decode cX10_split 66 = .ok (.iload_n 1, 1) := by decide +kernel
theorem dX10_split_67 : decode cX10_split 67 = .ok (.iload_n 3, 1) := by decide +kernel
theorem dX10_split_68 : decode cX10_split 68 = .ok (.invokevirtual 49, 3) := by decide +kernel
theorem dX10_split_71 : decode cX10_split 71 = .ok (.iload 4, 2) := by decide +kernel
theorem dX10_split_73 : decode cX10_split 73 = .ok (.sipush 142, 3) := by decide +kernel
theorem dX10_split_76 : decode cX10_split 76 = .ok (.if_icmp .eq 11, 3) := by decide +kernel
theorem dX10_split_79 : decode cX10_split 79 = .ok (.iload 4, 2) := by decide +kernel
theorem dX10_split_81 : decode cX10_split 81 = .ok (.sipush 143, 3) := by decide +kernel
theorem dX10_split_84 : decode cX10_split 84 = .ok (.if_icmp .ne 4, 3) := by decide +kernel
theorem dX10_split_87 : decode cX10_split 87 = .ok (.return_, 1) := by decide +kernel
theorem dX10_split_88 : decode cX10_split 88 = .ok (.iload_n 1, 1) := by decide +kernel
theorem dX10_split_89 : decode cX10_split 89 = .ok (.iload_n 3, 1) := by decide +kernel
theorem dX10_split_90 : decode cX10_split 90 = .ok (.iadd, 1) := by decide +kernel
theorem dX10_split_91 : decode cX10_split 91 = .ok (.istore_n 1, 1) := by decide +kernel
theorem dX10_split_92 : decode cX10_split 92 = .ok (.iinc 2 1, 3) := by decide +kernel
theorem dX10_split_95 : decode cX10_split 95 = .ok (.goto (-86), 3) := by decide +kernel
theorem dX10_split_98 : decode cX10_split 98 = .ok (.return_, 1) := by decide +kernel
def w_Ta_split_61 (C : zC) (n0 : Nat) (Q : zS → Prop) (B9 : Nat → Int32 → Int32 → zS → Prop) (a0 : Nat) (a1 : Int32) (a2 : Int32) (a3 : Int32) (s0 : Int32) (κ : zS) : Prop :=
  ∀ _ : zT κ a0 = 13,
  zRun C 2 mTa_addToken [.ref a0, .int s0, .int a1, .int a3] κ (oV (fun κ1 =>
    ∀ _ : zW C n0 κ1,
    ∀ _ : zM (zn κ) κ κ1,
    (s0 = (142 : Int32) →
      Q κ1) ∧
    (¬ s0 = (142 : Int32) →
      (¬ s0 = (143 : Int32) →
        ∀ v1_4 : Int32, v1_4 = (a1 + a3) →
        ∀ v2_5 : Int32, v2_5 = a2 + (1 : Int32) →
        B9 a0 v1_4 v2_5 κ1) ∧
      (s0 = (143 : Int32) →
        Q κ1))) noX)
theorem t_Ta_split_61 {C : zC} {n0 : Nat} {Q : zS → Prop} {B9 : Nat → Int32 → Int32 → zS → Prop} (hB9 : ∀ a0' a1' a2' τ, zW C n0 τ → zT τ a0' = 13 → B9 a0' a1' a2' τ → zG C n0 13 mTa_split 9 [some (.ref a0'), some (.int a1'), some (.int a2'), none, none] [] τ (oV Q noX)) {a0 : Nat} {a1 : Int32} {a2 : Int32} {a3 : Int32} {s0 : Int32} {κ : zS} (W : zW C n0 κ) (Ta0 : zT κ a0 = 13) (F : w_Ta_split_61 C n0 Q B9 a0 a1 a2 a3 s0 κ) : zG C n0 13 mTa_split 61 [some (.ref a0), some (.int a1), some (.int a2), some (.int a3), none] [.int s0] κ (oV Q noX) := by
  unfold w_Ta_split_61 at F
  refine y_is dX10_split_61 (Nat.le_of_ble_eq_true rfl) rfl ?_
  show zG _ _ _ _ _ [some (.ref a0), some (.int a1), some (.int a2), some (.int a3), some (.int s0)] _ _ _
  refine y_aln dX10_split_63 rfl ?_
  refine y_il dX10_split_64 rfl ?_
  refine y_iln dX10_split_66 rfl ?_
  refine y_iln dX10_split_67 rfl ?_
  replace F := F Ta0
  refine k_X10_49 W dX10_split_68 rfl (Nat.le_of_ble_eq_true rfl) (Nat.le_of_ble_eq_true rfl) (Or.inl Ta0) F (fun  κ1 Wκ1 Mκ1 F => ?_) (fun _ _ h9 => False.elim h9)
  replace F := F Wκ1 Mκ1
  refine y_il dX10_split_71 rfl ?_
  refine y_si dX10_split_73 zs_142 ?_
  refine y_ii (s0 = (142 : Int32)) dX10_split_76 (t := 87) rfl rfl (fun c9 => ?_) (fun c9 => ?_)
  · replace F := F.1 c9
    exact y_rv Wκ1 dX10_split_87 rfl F
  · replace F := F.2 c9
    refine y_il dX10_split_79 rfl ?_
    refine y_si dX10_split_81 zs_143 ?_
    refine y_iin (s0 = (143 : Int32)) dX10_split_84 (t := 88) rfl rfl (fun c9 => ?_) (fun c9 => ?_)
    · replace F := F.1 c9
      refine y_iln dX10_split_88 rfl ?_
      refine y_iln dX10_split_89 rfl ?_
      refine y_iadd dX10_split_90 ?_
      refine y_isnb dX10_split_91 (Nat.le_of_ble_eq_true rfl) (fun v1_4 ev1_4 => ?_)
      replace F := F v1_4 ev1_4
      show zG _ _ _ _ _ [some (.ref a0), some (.int v1_4), some (.int a2), some (.int a3), some (.int s0)] _ _ _
      refine y_incb dX10_split_92 zi_1 rfl (Nat.le_of_ble_eq_true rfl) (fun v2_5 ev2_5 => ?_)
      replace F := F v2_5 ev2_5
      show zG _ _ _ _ _ [some (.ref a0), some (.int v1_4), some (.int v2_5), some (.int a3), some (.int s0)] _ _ _
      refine y_goto dX10_split_95 (t := 9) rfl ?_
      have h6 := (ztm W Mκ1 Ta0)
      exact y_k (hB9 _ _ _ _ Wκ1 h6 F) ⟨rfl, rfl, rfl, trivial⟩
    · replace F := F.2 c9
      exact y_rv Wκ1 dX10_split_87 rfl F

def w_Ta_split_40 (C : zC) (n0 : Nat) (Q : zS → Prop) (B9 : Nat → Int32 → Int32 → zS → Prop) (a0 : Nat) (a1 : Int32) (a2 : Int32) (s0 : Int32) (κ : zS) : Prop :=
  ((zI κ taLength a0) ≤ a1 →
    w_Ta_split_61 C n0 Q B9 a0 a1 a2 s0 (142 : Int32) κ) ∧
  (¬ (zI κ taLength a0) ≤ a1 →
    ∀ _ : zT κ a0 = 13,
    zRun C 12 mTa_kindOf [.ref a0, .int a1, .int s0] κ (oI (fun r2 κ1 =>
      ∀ _ : zW C n0 κ1,
      ∀ _ : zM (zn κ) κ κ1,
      w_Ta_split_61 C n0 Q B9 a0 a1 a2 s0 r2 κ1) noX))
theorem t_Ta_split_40 {C : zC} {n0 : Nat} {Q : zS → Prop} {B9 : Nat → Int32 → Int32 → zS → Prop} (hB9 : ∀ a0' a1' a2' τ, zW C n0 τ → zT τ a0' = 13 → B9 a0' a1' a2' τ → zG C n0 13 mTa_split 9 [some (.ref a0'), some (.int a1'), some (.int a2'), none, none] [] τ (oV Q noX)) {a0 : Nat} {a1 : Int32} {a2 : Int32} {s0 : Int32} {κ : zS} (W : zW C n0 κ) (Ta0 : zT κ a0 = 13) (F : w_Ta_split_40 C n0 Q B9 a0 a1 a2 s0 κ) : zG C n0 13 mTa_split 40 [some (.ref a0), some (.int a1), some (.int a2), none, none] [.int s0] κ (oV Q noX) := by
  unfold w_Ta_split_40 at F
  refine y_isn dX10_split_40 (Nat.le_of_ble_eq_true rfl) rfl ?_
  show zG _ _ _ _ _ [some (.ref a0), some (.int a1), some (.int a2), some (.int s0), none] _ _ _
  refine y_iln dX10_split_41 rfl ?_
  refine y_aln dX10_split_42 rfl ?_
  refine gf_X10_31 dX10_split_43 rfl (Or.inl Ta0) ?_
  refine y_ii ((zI κ taLength a0) ≤ a1) dX10_split_46 (t := 58) rfl rfl (fun c9 => ?_) (fun c9 => ?_)
  · replace F := F.1 c9
    refine y_si dX10_split_58 zs_142 ?_
    exact y_k (t_Ta_split_61 hB9 W Ta0 F) ⟨rfl, rfl, rfl, rfl, trivial⟩
  · replace F := F.2 c9
    refine y_aln dX10_split_49 rfl ?_
    refine y_iln dX10_split_50 rfl ?_
    refine y_iln dX10_split_51 rfl ?_
    replace F := F Ta0
    refine k_X10_45 W dX10_split_52 rfl (Nat.le_of_ble_eq_true rfl) (Nat.le_of_ble_eq_true rfl) (Or.inl Ta0) F (fun r2 κ1 Wκ1 Mκ1 F => ?_) (fun _ _ h9 => False.elim h9)
    replace F := F Wκ1 Mκ1
    refine y_goto dX10_split_55 (t := 61) rfl ?_
    have h4 := (ztm W Mκ1 Ta0)
    exact y_k (t_Ta_split_61 hB9 Wκ1 h4 F) ⟨rfl, rfl, rfl, rfl, trivial⟩

def w_Ta_split_9 (C : zC) (n0 : Nat) (Q : zS → Prop)  (a0 : Nat) (a1 : Int32) (a2 : Int32) (κ : zS) : Prop :=
  ∃ I : Nat → Nat → Int32 → Int32 → zS → Prop, (∃ n, I n a0 a1 a2 κ) ∧ ∀ n a0 a1 a2 κ, zW C n0 κ → zT κ a0 = 13 → I n a0 a1 a2 κ →
    ((zI κ taLength a0) < a2 →
      Q κ) ∧
    (¬ (zI κ taLength a0) < a2 →
      ∀ _ : zT κ a0 = 13,
      zRun C 1 mTa_skipBlanks [.ref a0, .int a1] κ (oI (fun r2 κ1 =>
        ∀ _ : zW C n0 κ1,
        ∀ _ : zM (zn κ) κ κ1,
        ((zI κ1 taLength a0) ≤ r2 →
          w_Ta_split_40 C n0 Q (fun a0' a1' a2' τ => ∃ k < n, I k a0' a1' a2' τ) a0 r2 a2 (0 : Int32) κ1) ∧
        (¬ (zI κ1 taLength a0) ≤ r2 →
          ∀ _ : zT κ1 a0 = 13,
          zRun C 1 mTa_sizeAt [.ref a0, .int r2] κ1 (oI (fun r6 κ5 =>
            ∀ _ : zW C n0 κ5,
            ∀ _ : zM (zn κ1) κ1 κ5,
            w_Ta_split_40 C n0 Q (fun a0' a1' a2' τ => ∃ k < n, I k a0' a1' a2' τ) a0 r2 a2 r6 κ5) noX))) noX))
theorem t_Ta_split_9 {C : zC} {n0 : Nat} {Q : zS → Prop}   {a0 : Nat} {a1 : Int32} {a2 : Int32} {κ : zS} (W : zW C n0 κ) (Ta0 : zT κ a0 = 13) (F : w_Ta_split_9 C n0 Q  a0 a1 a2 κ) : zG C n0 13 mTa_split 9 [some (.ref a0), some (.int a1), some (.int a2), none, none] [] κ (oV Q noX) := by
  obtain ⟨I, ⟨m0, hI0⟩, F0⟩ := F
  have key : ∀ n a0 a1 a2 κ, zW C n0 κ → zT κ a0 = 13 → I n a0 a1 a2 κ → zG C n0 13 mTa_split 9 [some (.ref a0), some (.int a1), some (.int a2), none, none] [] κ (oV Q noX) := by
    intro n
    induction n using Nat.strongRecOn with
    | _ n ih =>
      intro a0 a1 a2 κ W Ta0 hI
      have F := F0 n a0 a1 a2 κ W Ta0 hI
      clear hI hI0
      refine y_iln dX10_split_9 rfl ?_
      refine y_aln dX10_split_10 rfl ?_
      refine gf_X10_31 dX10_split_11 rfl (Or.inl Ta0) ?_
      refine y_ii ((zI κ taLength a0) < a2) dX10_split_14 (t := 98) rfl rfl (fun c9 => ?_) (fun c9 => ?_)
      · replace F := F.1 c9
        exact y_rv W dX10_split_98 rfl F
      · replace F := F.2 c9
        refine y_aln dX10_split_17 rfl ?_
        refine y_iln dX10_split_18 rfl ?_
        replace F := F Ta0
        refine k_X10_38 W dX10_split_19 rfl (Nat.le_of_ble_eq_true rfl) (Nat.le_of_ble_eq_true rfl) (Or.inl Ta0) F (fun r2 κ1 Wκ1 Mκ1 F => ?_) (fun _ _ h9 => False.elim h9)
        replace F := F Wκ1 Mκ1
        refine y_isn dX10_split_22 (Nat.le_of_ble_eq_true rfl) rfl ?_
        show zG _ _ _ _ _ [some (.ref a0), some (.int r2), some (.int a2), none, none] _ _ _
        refine y_iln dX10_split_23 rfl ?_
        refine y_aln dX10_split_24 rfl ?_
        have h4 := (ztm W Mκ1 Ta0)
        refine gf_X10_31 dX10_split_25 rfl (Or.inl h4) ?_
        refine y_ii ((zI κ1 taLength a0) ≤ r2) dX10_split_28 (t := 39) rfl rfl (fun c9 => ?_) (fun c9 => ?_)
        · replace F := F.1 c9
          refine y_ic dX10_split_39 zi_0 ?_
          exact y_k (t_Ta_split_40 (fun a0' a1' a2' τ w9 f09 hb => by obtain ⟨k, hk, hI⟩ := hb; exact ih k hk a0' a1' a2' τ w9 f09 hI) Wκ1 h4 F) ⟨rfl, rfl, rfl, trivial⟩
        · replace F := F.2 c9
          refine y_aln dX10_split_31 rfl ?_
          refine y_iln dX10_split_32 rfl ?_
          replace F := F h4
          refine k_X10_42 Wκ1 dX10_split_33 rfl (Nat.le_of_ble_eq_true rfl) (Nat.le_of_ble_eq_true rfl) (Or.inl h4) F (fun r6 κ5 Wκ5 Mκ5 F => ?_) (fun _ _ h9 => False.elim h9)
          replace F := F Wκ5 Mκ5
          refine y_goto dX10_split_36 (t := 40) rfl ?_
          have h8 := (ztm Wκ1 Mκ5 h4)
          exact y_k (t_Ta_split_40 (fun a0' a1' a2' τ w9 f09 hb => by obtain ⟨k, hk, hI⟩ := hb; exact ih k hk a0' a1' a2' τ w9 f09 hI) Wκ5 h8 F) ⟨rfl, rfl, rfl, trivial⟩
  exact key m0 a0 a1 a2 κ W Ta0 hI0

def w_Ta_split_0 (C : zC) (n0 : Nat) (Q : zS → Prop)  (a0 : Nat) (κ : zS) : Prop :=
  ∀ κ1, κ1 = ui κ taTotal a0 (0 : Int32) →
  ∀ _ : zW C n0 κ1,
  w_Ta_split_9 C n0 Q  a0 (0 : Int32) (0 : Int32) κ1
theorem t_Ta_split_0 {C : zC} {n0 : Nat} {Q : zS → Prop}   {a0 : Nat} {κ : zS} (W : zW C n0 κ) (Ta0 : zT κ a0 = 13) (F : w_Ta_split_0 C n0 Q  a0 κ) : zG C n0 13 mTa_split 0 [some (.ref a0), none, none, none, none] [] κ (oV Q noX) := by
  unfold w_Ta_split_0 at F
  refine y_aln dX10_split_0 rfl ?_
  refine y_ic dX10_split_1 zi_0 ?_
  refine pf_X10_35 W dX10_split_2 rfl (Or.inl Ta0) (fun κ1 eκ1 => ?_)
  replace F := F κ1 eκ1
  have Wκ1 : zW C n0 κ1 := zW_ui W eκ1 (fun h => absurd h (by decide))
  have Mκ1 : zM (zn κ) κ κ1 := by rw [eκ1]; exact zM.of rfl rfl rfl
  replace F := F Wκ1
  refine y_ic dX10_split_5 zi_0 ?_
  refine y_isn dX10_split_6 (Nat.le_of_ble_eq_true rfl) rfl ?_
  show zG _ _ _ _ _ [some (.ref a0), some (.int (0 : Int32)), none, none, none] _ _ _
  refine y_ic dX10_split_7 zi_0 ?_
  refine y_isn dX10_split_8 (Nat.le_of_ble_eq_true rfl) rfl ?_
  show zG _ _ _ _ _ [some (.ref a0), some (.int (0 : Int32)), some (.int (0 : Int32)), none, none] _ _ _
  have h2 := (ztm W Mκ1 Ta0)
  exact y_k (t_Ta_split_9  Wκ1 h2 F) ⟨rfl, rfl, rfl, trivial⟩

theorem Ta_split_run {C : zC} {n0 : Nat} {Q : zS → Prop} {a0 : Nat} {κ : zS} (W : zW C n0 κ) (Ta0 : zT κ a0 = 13) (F : w_Ta_split_0 C (zn κ) Q a0 κ) : zRun C 13 mTa_split [.ref a0] κ (oV Q noX) := z_run (m_ent _ 4) (t_Ta_split_0 (W.lo (Nat.le_trans W.1.2.1 W.1.2.2) (Nat.le_refl _)) Ta0 F)

