/-! methods of the class: Ma_obey, Ma_proceed, Ma_act, Ho_copyTo, Ma_load, Ma_settle, At_expand, We_sizeOf, We_isRing, We_tie -/
theorem dX4_obey_0 : decode cX4_obey 0 = .ok (.aload_n 0, 1) := by decide +kernel
theorem dX4_obey_1 : decode cX4_obey 1 = .ok (.getfield 22, 3) := by decide +kernel
theorem dX4_obey_4 : decode cX4_obey 4 = .ok (.iconst 0, 1) := by decide +kernel
theorem dX4_obey_5 : decode cX4_obey 5 = .ok (.iaload, 1) := by decide +kernel
theorem dX4_obey_6 : decode cX4_obey 6 = .ok (.istore_n 3, 1) := by decide +kernel
theorem dX4_obey_7 : decode cX4_obey 7 = .ok (.iload_n 2, 1) := by decide +kernel
theorem dX4_obey_8 : decode cX4_obey 8 = .ok (.tableswitch 224 0 9 #[56, 68, 68, 68, 77, 85, 110, 153, 195, 208], 56) := by decide +kernel
theorem dX4_obey_64 : decode cX4_obey 64 = .ok (.aload_n 0, 1) := by decide +kernel
theorem dX4_obey_65 : decode cX4_obey 65 = .ok (.aload_n 0, 1) := by decide +kernel
theorem dX4_obey_66 : decode cX4_obey 66 = .ok (.getfield 130, 3) := by decide +kernel
theorem dX4_obey_69 : decode cX4_obey 69 = .ok (.iload_n 3, 1) := by decide +kernel
theorem dX4_obey_70 : decode cX4_obey 70 = .ok (.invokevirtual 142, 3) := by decide +kernel
theorem dX4_obey_73 : decode cX4_obey 73 = .ok (.goto 164, 3) := by decide +kernel
theorem dX4_obey_76 : decode cX4_obey 76 = .ok (.aload_n 0, 1) := by decide +kernel
theorem dX4_obey_77 : decode cX4_obey 77 = .ok (.iload_n 1, 1) := by decide +kernel
theorem dX4_obey_78 : decode cX4_obey 78 = .ok (.iload_n 2, 1) := by decide +kernel
theorem dX4_obey_79 : decode cX4_obey 79 = .ok (.invokevirtual 145, 3) := by decide +kernel
theorem dX4_obey_82 : decode cX4_obey 82 = .ok (.goto 155, 3) := by decide +kernel
theorem dX4_obey_85 : decode cX4_obey 85 = .ok (.aload_n 0, 1) := by decide +kernel
theorem dX4_obey_86 : decode cX4_obey 86 = .ok (.iload_n 3, 1) := by decide +kernel
theorem dX4_obey_87 : decode cX4_obey 87 = .ok (.invokevirtual 148, 3) := by decide +kernel
theorem dX4_obey_90 : decode cX4_obey 90 = .ok (.goto 147, 3) := by decide +kernel
theorem dX4_obey_93 : decode cX4_obey 93 = .ok (.aload_n 0, 1) := by decide +kernel
theorem dX4_obey_94 : decode cX4_obey 94 = .ok (.aload_n 0, 1) := by decide +kernel
theorem dX4_obey_95 : decode cX4_obey 95 = .ok (.getfield 11, 3) := by decide +kernel
theorem dX4_obey_98 : decode cX4_obey 98 = .ok (.iload_n 1, 1) := by decide +kernel
theorem dX4_obey_99 : decode cX4_obey 99 = .ok (.iconst 5, 1) := by decide +kernel
theorem dX4_obey_100 : decode cX4_obey 100 = .ok (.invokevirtual 110, 3) := by decide +kernel
theorem dX4_obey_103 : decode cX4_obey 103 = .ok (.aload_n 0, 1) := by decide +kernel
theorem dX4_obey_104 : decode cX4_obey 104 = .ok (.getfield 11, 3) := by decide +kernel
theorem dX4_obey_107 : decode cX4_obey 107 = .ok (.iload_n 1, 1) := by decide +kernel
theorem dX4_obey_108 : decode cX4_obey 108 = .ok (.iconst 4, 1) := by decide +kernel
theorem dX4_obey_109 : decode cX4_obey 109 = .ok (.invokevirtual 110, 3) := by decide +kernel
theorem dX4_obey_112 : decode cX4_obey 112 = .ok (.invokevirtual 151, 3) := by decide +kernel
theorem dX4_obey_115 : decode cX4_obey 115 = .ok (.goto 122, 3) := by decide +kernel
theorem dX4_obey_118 : decode cX4_obey 118 = .ok (.aload_n 0, 1) := by decide +kernel
theorem dX4_obey_119 : decode cX4_obey 119 = .ok (.getfield 11, 3) := by decide +kernel
theorem dX4_obey_122 : decode cX4_obey 122 = .ok (.iload_n 1, 1) := by decide +kernel
theorem dX4_obey_123 : decode cX4_obey 123 = .ok (.iload_n 3, 1) := by decide +kernel
theorem dX4_obey_124 : decode cX4_obey 124 = .ok (.ifCond .eq 8, 3) := by decide +kernel
theorem dX4_obey_127 : decode cX4_obey 127 = .ok (.bipush 6, 2) := by decide +kernel
theorem dX4_obey_129 : decode cX4_obey 129 = .ok (.goto 5, 3) := by decide +kernel
theorem dX4_obey_132 : decode cX4_obey 132 = .ok (.bipush 7, 2) := by decide +kernel
theorem dX4_obey_134 : decode cX4_obey 134 = .ok (.invokevirtual 110, 3) := by decide +kernel
theorem dX4_obey_137 : decode cX4_obey 137 = .ok (.istore 4, 2) := by decide +kernel
theorem dX4_obey_139 : decode cX4_obey 139 = .ok (.aload_n 0, 1) := by decide +kernel
theorem dX4_obey_140 : decode cX4_obey 140 = .ok (.iload 4, 2) := by decide +kernel
theorem dX4_obey_142 : decode cX4_obey 142 = .ok (.iconst (-1), 1) := by decide +kernel
theorem dX4_obey_143 : decode cX4_obey 143 = .ok (.if_icmp .ne 10, 3) := by decide +kernel
theorem dX4_obey_146 : decode cX4_obey 146 = .ok (.aload_n 0, 1) := by decide +kernel
theorem dX4_obey_147 : decode cX4_obey 147 = .ok (.getfield 89, 3) := by decide +kernel
theorem dX4_obey_150 : decode cX4_obey 150 = .ok (.goto 5, 3) := by decide +kernel
theorem dX4_obey_153 : decode cX4_obey 153 = .ok (.iload 4, 2) := by decide +kernel
theorem dX4_obey_155 : decode cX4_obey 155 = .ok (.putfield 89, 3) := by decide +kernel
theorem dX4_obey_158 : decode cX4_obey 158 = .ok (.goto 79, 3) := by decide +kernel
theorem dX4_obey_161 : decode cX4_obey 161 = .ok (.aload_n 0, 1) := by decide +kernel
theorem dX4_obey_162 : decode cX4_obey 162 = .ok (.getfield 11, 3) := by decide +kernel
theorem dX4_obey_165 : decode cX4_obey 165 = .ok (.iload_n 1, 1) := by decide +kernel
theorem dX4_obey_166 : decode cX4_obey 166 = .ok (.bipush 6, 2) := by decide +kernel
theorem dX4_obey_168 : decode cX4_obey 168 = .ok (.invokevirtual 110, 3) := by decide +kernel
theorem dX4_obey_171 : decode cX4_obey 171 = .ok (.istore 5, 2) := by decide +kernel
theorem dX4_obey_173 : decode cX4_obey 173 = .ok (.aload_n 0, 1) := by decide +kernel
theorem dX4_obey_174 : decode cX4_obey 174 = .ok (.iload_n 3, 1) := by decide +kernel
theorem dX4_obey_175 : decode cX4_obey 175 = .ok (.ifCond .ne 10, 3) := by decide +kernel
theorem dX4_obey_178 : decode cX4_obey 178 = .ok (.aload_n 0, 1) := by decide +kernel
theorem dX4_obey_179 : decode cX4_obey 179 = .ok (.getfield 89, 3) := by decide +kernel
theorem dX4_obey_182 : decode cX4_obey 182 = .ok (.goto 15, 3) := by decide +kernel
theorem dX4_obey_185 : decode cX4_obey 185 = .ok (.iload 5, 2) := by decide +kernel
theorem dX4_obey_187 : decode cX4_obey 187 = .ok (.iconst (-1), 1) := by decide +kernel
theorem dX4_obey_188 : decode cX4_obey 188 = .ok (.if_icmp .ne 7, 3) := by decide +kernel
theorem dX4_obey_191 : decode cX4_obey 191 = .ok (.iload_n 1, 1) := by decide +kernel
theorem dX4_obey_192 : decode cX4_obey 192 = .ok (.goto 5, 3) := by decide +kernel
theorem dX4_obey_195 : decode cX4_obey 195 = .ok (.iload 5, 2) := by decide +kernel
theorem dX4_obey_197 : decode cX4_obey 197 = .ok (.putfield 89, 3) := by decide +kernel
theorem dX4_obey_200 : decode cX4_obey 200 = .ok (.goto 37, 3) := by decide +kernel
theorem dX4_obey_203 : decode cX4_obey 203 = .ok (.aload_n 0, 1) := by decide +kernel
theorem dX4_obey_204 : decode cX4_obey 204 = .ok (.iconst (-1), 1) := by decide +kernel
theorem dX4_obey_205 : decode cX4_obey 205 = .ok (.putfield 89, 3) := by decide +kernel
theorem dX4_obey_208 : decode cX4_obey 208 = .ok (.aload_n 0, 1) := by decide +kernel
theorem dX4_obey_209 : decode cX4_obey 209 = .ok (.iload_n 3, 1) := by decide +kernel
theorem dX4_obey_210 : decode cX4_obey 210 = .ok (.putfield 92, 3) := by decide +kernel
theorem dX4_obey_213 : decode cX4_obey 213 = .ok (.goto 24, 3) := by decide +kernel
theorem dX4_obey_216 : decode cX4_obey 216 = .ok (.aload_n 0, 1) := by decide +kernel
theorem dX4_obey_217 : decode cX4_obey 217 = .ok (.iload_n 3, 1) := by decide +kernel
theorem dX4_obey_218 : decode cX4_obey 218 = .ok (.ifCond .ne 7, 3) := by decide +kernel
theorem dX4_obey_221 : decode cX4_obey 221 = .ok (.iconst 3, 1) := by decide +kernel
theorem dX4_obey_222 : decode cX4_obey 222 = .ok (.goto 4, 3) := by decide +kernel
theorem dX4_obey_225 : decode cX4_obey 225 = .ok (.iconst 0, 1) := by decide +kernel
theorem dX4_obey_226 : decode cX4_obey 226 = .ok (.putfield 79, 3) := by decide +kernel
theorem dX4_obey_229 : decode cX4_obey 229 = .ok (.goto 8, 3) := by decide +kernel
theorem dX4_obey_232 : decode cX4_obey 232 = .ok (.aload_n 0, 1) := by decide +kernel
theorem dX4_obey_233 : decode cX4_obey 233 = .ok (.iload_n 3, 1) := by decide +kernel
theorem dX4_obey_234 : decode cX4_obey 234 = .ok (.putfield 73, 3) := by decide +kernel
theorem dX4_obey_237 : decode cX4_obey 237 = .ok (.return_, 1) := by decide +kernel
def w_Ma_obey_134 (C : zC) (n0 : Nat) (Q : zS → Prop)  (a0 : Nat) (s0 : Nat) (s1 : Int32) (s2 : Int32) (κ : zS) : Prop :=
  ∀ _ : zT κ s0 = 5,
  zRun C 0 mCo_column [.ref s0, .int s1, .int s2] κ (oI (fun r2 κ1 =>
    ∀ _ : zW C n0 κ1,
    ∀ _ : zM (zn κ) κ κ1,
    (¬ r2 = (-1 : Int32) →
      ∀ κ4, κ4 = ui κ1 maGoing a0 r2 →
      ∀ _ : zW C n0 κ4,
      Q κ4) ∧
    (r2 = (-1 : Int32) →
      ∀ κ7, κ7 = ui κ1 maGoing a0 (zI κ1 maGoing a0) →
      ∀ _ : zW C n0 κ7,
      Q κ7)) noX)
theorem t_Ma_obey_134 {C : zC} {n0 : Nat} {Q : zS → Prop}   {a0 : Nat} {s0 : Nat} {s1 : Int32} {s2 : Int32} {κ : zS} (W : zW C n0 κ) (Ta0 : zT κ a0 = 7) (Ts0 : zT κ s0 = 5) (F : w_Ma_obey_134 C n0 Q  a0 s0 s1 s2 κ) : zG C n0 3 mMa_obey 134 [some (.ref a0), none, none, none, none, none] [.int s2, .int s1, .ref s0] κ (oV Q noX) := by
  unfold w_Ma_obey_134 at F
  replace F := F Ts0
  refine k_X4_110 W dX4_obey_134 rfl (Nat.le_of_ble_eq_true rfl) (Nat.le_of_ble_eq_true rfl) (Or.inl Ts0) F (fun r2 κ1 Wκ1 Mκ1 F => ?_) (fun _ _ h9 => False.elim h9)
  replace F := F Wκ1 Mκ1
  refine y_is dX4_obey_137 (Nat.le_of_ble_eq_true rfl) rfl ?_
  refine y_aln dX4_obey_139 rfl ?_
  refine y_il dX4_obey_140 rfl ?_
  refine y_ic dX4_obey_142 zi_m1 ?_
  refine y_iin (r2 = (-1 : Int32)) dX4_obey_143 (t := 153) rfl rfl (fun c9 => ?_) (fun c9 => ?_)
  · replace F := F.1 c9
    refine y_il dX4_obey_153 rfl ?_
    have h5 := (ztm W Mκ1 Ta0)
    refine pf_X4_89 Wκ1 dX4_obey_155 rfl (Or.inl h5) (fun κ4 eκ4 => ?_)
    replace F := F κ4 eκ4
    have Wκ4 : zW C n0 κ4 := zW_ui Wκ1 eκ4 (fun h => absurd h (by decide))
    have Mκ4 : zM (zn κ1) κ1 κ4 := by rw [eκ4]; exact zM.of rfl rfl rfl
    replace F := F Wκ4
    refine y_goto dX4_obey_158 (t := 237) rfl ?_
    exact y_rv Wκ4 dX4_obey_237 rfl F
  · replace F := F.2 c9
    refine y_aln dX4_obey_146 rfl ?_
    have h6 := (ztm W Mκ1 Ta0)
    refine gf_X4_89 dX4_obey_147 rfl (Or.inl h6) ?_
    refine y_goto dX4_obey_150 (t := 155) rfl ?_
    refine pf_X4_89 Wκ1 dX4_obey_155 rfl (Or.inl h6) (fun κ7 eκ7 => ?_)
    replace F := F κ7 eκ7
    have Wκ7 : zW C n0 κ7 := zW_ui Wκ1 eκ7 (fun h => absurd h (by decide))
    have Mκ7 : zM (zn κ1) κ1 κ7 := by rw [eκ7]; exact zM.of rfl rfl rfl
    replace F := F Wκ7
    refine y_goto dX4_obey_158 (t := 237) rfl ?_
    exact y_rv Wκ7 dX4_obey_237 rfl F

def w_Ma_obey_0 (C : zC) (n0 : Nat) (Q : zS → Prop)  (a0 : Nat) (a1 : Int32) (a2 : Int32) (κ : zS) : Prop :=
  inb (0 : Int32) (zN κ (zR κ maWorked a0)) ∧
  ∀ v3_1 : Int32, v3_1 = (zA κ (zR κ maWorked a0) ((0 : Int32)).toNatClampNeg) →
  ((a2).toInt < 0 ∨ 9 < (a2).toInt →
    ∀ κ2, κ2 = ui κ maGained a0 v3_1 →
    ∀ _ : zW C n0 κ2,
    Q κ2) ∧
  ((a2).toInt = 0 →
    ∀ _ : zT κ a0 = 7,
    zRun C 0 mMa_put [.ref a0, .int (zI κ maTarget a0), .int v3_1] κ (oV (fun κ3 =>
      ∀ _ : zW C n0 κ3,
      ∀ _ : zM (zn κ) κ κ3,
      Q κ3) noX)) ∧
  ((a2).toInt = 1 →
    ∀ _ : zT κ a0 = 7,
    zRun C 1 mMa_spreadOut [.ref a0, .int a1, .int a2] κ (oV (fun κ6 =>
      ∀ _ : zW C n0 κ6,
      ∀ _ : zM (zn κ) κ κ6,
      Q κ6) noX)) ∧
  ((a2).toInt = 2 →
    ∀ _ : zT κ a0 = 7,
    zRun C 1 mMa_spreadOut [.ref a0, .int a1, .int a2] κ (oV (fun κ9 =>
      ∀ _ : zW C n0 κ9,
      ∀ _ : zM (zn κ) κ κ9,
      Q κ9) noX)) ∧
  ((a2).toInt = 3 →
    ∀ _ : zT κ a0 = 7,
    zRun C 1 mMa_spreadOut [.ref a0, .int a1, .int a2] κ (oV (fun κ12 =>
      ∀ _ : zW C n0 κ12,
      ∀ _ : zM (zn κ) κ κ12,
      Q κ12) noX)) ∧
  ((a2).toInt = 4 →
    ∀ _ : zT κ a0 = 7,
    zRun C 1 mMa_offer [.ref a0, .int v3_1] κ (oV (fun κ15 =>
      ∀ _ : zW C n0 κ15,
      ∀ _ : zM (zn κ) κ κ15,
      Q κ15) noX)) ∧
  ((a2).toInt = 5 →
    ∀ _ : zT κ (zR κ maCode a0) = 5,
    zRun C 0 mCo_column [.ref (zR κ maCode a0), .int a1, .int (5 : Int32)] κ (oI (fun r19 κ18 =>
      ∀ _ : zW C n0 κ18,
      ∀ _ : zM (zn κ) κ κ18,
      ∀ _ : zT κ18 (zR κ18 maCode a0) = 5,
      zRun C 0 mCo_column [.ref (zR κ18 maCode a0), .int a1, .int (4 : Int32)] κ18 (oI (fun r23 κ22 =>
        ∀ _ : zW C n0 κ22,
        ∀ _ : zM (zn κ18) κ18 κ22,
        ∀ _ : zT κ22 a0 = 7,
        zRun C 2 mMa_openCall [.ref a0, .int r19, .int r23] κ22 (oV (fun κ25 =>
          ∀ _ : zW C n0 κ25,
          ∀ _ : zM (zn κ22) κ22 κ25,
          Q κ25) noX)) noX)) noX)) ∧
  ((a2).toInt = 6 →
    (v3_1 = (0 : Int32) →
      w_Ma_obey_134 C n0 Q  a0 (zR κ maCode a0) a1 (7 : Int32) κ) ∧
    (¬ v3_1 = (0 : Int32) →
      w_Ma_obey_134 C n0 Q  a0 (zR κ maCode a0) a1 (6 : Int32) κ)) ∧
  ((a2).toInt = 7 →
    ∀ _ : zT κ (zR κ maCode a0) = 5,
    zRun C 0 mCo_column [.ref (zR κ maCode a0), .int a1, .int (6 : Int32)] κ (oI (fun r30 κ29 =>
      ∀ _ : zW C n0 κ29,
      ∀ _ : zM (zn κ) κ κ29,
      (¬ v3_1 = (0 : Int32) →
        (¬ r30 = (-1 : Int32) →
          ∀ κ32, κ32 = ui κ29 maGoing a0 r30 →
          ∀ _ : zW C n0 κ32,
          Q κ32) ∧
        (r30 = (-1 : Int32) →
          ∀ κ34, κ34 = ui κ29 maGoing a0 a1 →
          ∀ _ : zW C n0 κ34,
          Q κ34)) ∧
      (v3_1 = (0 : Int32) →
        ∀ κ37, κ37 = ui κ29 maGoing a0 (zI κ29 maGoing a0) →
        ∀ _ : zW C n0 κ37,
        Q κ37)) noX)) ∧
  ((a2).toInt = 8 →
    ∀ κ38, κ38 = ui κ maGoing a0 (-1 : Int32) →
    ∀ _ : zW C n0 κ38,
    ∀ κ39, κ39 = ui κ38 maAnswer a0 v3_1 →
    ∀ _ : zW C n0 κ39,
    Q κ39) ∧
  ((a2).toInt = 9 →
    (¬ v3_1 = (0 : Int32) →
      ∀ κ41, κ41 = ui κ maOutcome a0 (0 : Int32) →
      ∀ _ : zW C n0 κ41,
      Q κ41) ∧
    (v3_1 = (0 : Int32) →
      ∀ κ42, κ42 = ui κ maOutcome a0 (3 : Int32) →
      ∀ _ : zW C n0 κ42,
      Q κ42))
theorem t_Ma_obey_0 {C : zC} {n0 : Nat} {Q : zS → Prop}   {a0 : Nat} {a1 : Int32} {a2 : Int32} {κ : zS} (W : zW C n0 κ) (Ta0 : zT κ a0 = 7) (F : w_Ma_obey_0 C n0 Q  a0 a1 a2 κ) : zG C n0 3 mMa_obey 0 [some (.ref a0), some (.int a1), some (.int a2), none, none, none] [] κ (oV Q noX) := by
  unfold w_Ma_obey_0 at F
  refine y_aln dX4_obey_0 rfl ?_
  refine gf_X4_22 W dX4_obey_1 rfl Ta0 ?_
  refine y_ic dX4_obey_4 zi_0 ?_
  refine y_ald dX4_obey_5 (ty_maWorked W Ta0) F.1 ?_
  replace F := F.2
  refine y_isnb dX4_obey_6 (Nat.le_of_ble_eq_true rfl) (fun v3_1 ev3_1 => ?_)
  replace F := F v3_1 ev3_1
  refine y_iln dX4_obey_7 rfl ?_
  by_cases hsw : (a2).toInt < 0 ∨ 9 < (a2).toInt
  · refine y_swd (t := 232) dX4_obey_8 hsw rfl ?_
    replace F := F.1 hsw
    refine y_aln dX4_obey_232 rfl ?_
    refine y_iln dX4_obey_233 rfl ?_
    refine pf_X4_73 W dX4_obey_234 rfl (Or.inl Ta0) (fun κ2 eκ2 => ?_)
    replace F := F κ2 eκ2
    have Wκ2 : zW C n0 κ2 := zW_ui W eκ2 (fun h => absurd h (by decide))
    have Mκ2 : zM (zn κ) κ κ2 := by rw [eκ2]; exact zM.of rfl rfl rfl
    replace F := F Wκ2
    exact y_rv Wκ2 dX4_obey_237 rfl F
  replace F := F.2
  by_cases hs0 : (a2).toInt = 0
  · refine y_p (pc' := 64) dX4_obey_8 rfl (fun lo => sw_at (k := 0) hs0 (eq_true (by decide)) rfl rfl) ?_
    replace F := F.1 hs0
    refine y_aln dX4_obey_64 rfl ?_
    refine y_aln dX4_obey_65 rfl ?_
    refine gf_X4_130 dX4_obey_66 rfl (Or.inl Ta0) ?_
    refine y_iln dX4_obey_69 rfl ?_
    replace F := F Ta0
    refine k_X4_142 W dX4_obey_70 rfl (Nat.le_of_ble_eq_true rfl) (Nat.le_of_ble_eq_true rfl) (Or.inl Ta0) F (fun  κ3 Wκ3 Mκ3 F => ?_) (fun _ _ h9 => False.elim h9)
    replace F := F Wκ3 Mκ3
    refine y_goto dX4_obey_73 (t := 237) rfl ?_
    exact y_rv Wκ3 dX4_obey_237 rfl F
  replace F := F.2
  by_cases hs1 : (a2).toInt = 1
  · refine y_p (pc' := 76) dX4_obey_8 rfl (fun lo => sw_at (k := 0) hs1 (eq_true (by decide)) rfl rfl) ?_
    replace F := F.1 hs1
    refine y_aln dX4_obey_76 rfl ?_
    refine y_iln dX4_obey_77 rfl ?_
    refine y_iln dX4_obey_78 rfl ?_
    replace F := F Ta0
    refine k_X4_145 W dX4_obey_79 rfl (Nat.le_of_ble_eq_true rfl) (Nat.le_of_ble_eq_true rfl) (Or.inl Ta0) F (fun  κ6 Wκ6 Mκ6 F => ?_) (fun _ _ h9 => False.elim h9)
    replace F := F Wκ6 Mκ6
    refine y_goto dX4_obey_82 (t := 237) rfl ?_
    exact y_rv Wκ6 dX4_obey_237 rfl F
  replace F := F.2
  by_cases hs2 : (a2).toInt = 2
  · refine y_p (pc' := 76) dX4_obey_8 rfl (fun lo => sw_at (k := 0) hs2 (eq_true (by decide)) rfl rfl) ?_
    replace F := F.1 hs2
    refine y_aln dX4_obey_76 rfl ?_
    refine y_iln dX4_obey_77 rfl ?_
    refine y_iln dX4_obey_78 rfl ?_
    replace F := F Ta0
    refine k_X4_145 W dX4_obey_79 rfl (Nat.le_of_ble_eq_true rfl) (Nat.le_of_ble_eq_true rfl) (Or.inl Ta0) F (fun  κ9 Wκ9 Mκ9 F => ?_) (fun _ _ h9 => False.elim h9)
    replace F := F Wκ9 Mκ9
    refine y_goto dX4_obey_82 (t := 237) rfl ?_
    exact y_rv Wκ9 dX4_obey_237 rfl F
  replace F := F.2
  by_cases hs3 : (a2).toInt = 3
  · refine y_p (pc' := 76) dX4_obey_8 rfl (fun lo => sw_at (k := 0) hs3 (eq_true (by decide)) rfl rfl) ?_
    replace F := F.1 hs3
    refine y_aln dX4_obey_76 rfl ?_
    refine y_iln dX4_obey_77 rfl ?_
    refine y_iln dX4_obey_78 rfl ?_
    replace F := F Ta0
    refine k_X4_145 W dX4_obey_79 rfl (Nat.le_of_ble_eq_true rfl) (Nat.le_of_ble_eq_true rfl) (Or.inl Ta0) F (fun  κ12 Wκ12 Mκ12 F => ?_) (fun _ _ h9 => False.elim h9)
    replace F := F Wκ12 Mκ12
    refine y_goto dX4_obey_82 (t := 237) rfl ?_
    exact y_rv Wκ12 dX4_obey_237 rfl F
  replace F := F.2
  by_cases hs4 : (a2).toInt = 4
  · refine y_p (pc' := 85) dX4_obey_8 rfl (fun lo => sw_at (k := 0) hs4 (eq_true (by decide)) rfl rfl) ?_
    replace F := F.1 hs4
    refine y_aln dX4_obey_85 rfl ?_
    refine y_iln dX4_obey_86 rfl ?_
    replace F := F Ta0
    refine k_X4_148 W dX4_obey_87 rfl (Nat.le_of_ble_eq_true rfl) (Nat.le_of_ble_eq_true rfl) (Or.inl Ta0) F (fun  κ15 Wκ15 Mκ15 F => ?_) (fun _ _ h9 => False.elim h9)
    replace F := F Wκ15 Mκ15
    refine y_goto dX4_obey_90 (t := 237) rfl ?_
    exact y_rv Wκ15 dX4_obey_237 rfl F
  replace F := F.2
  by_cases hs5 : (a2).toInt = 5
  · refine y_p (pc' := 93) dX4_obey_8 rfl (fun lo => sw_at (k := 0) hs5 (eq_true (by decide)) rfl rfl) ?_
    replace F := F.1 hs5
    refine y_aln dX4_obey_93 rfl ?_
    refine y_aln dX4_obey_94 rfl ?_
    refine gf_X4_11 W dX4_obey_95 rfl Ta0 ?_
    refine y_iln dX4_obey_98 rfl ?_
    refine y_ic dX4_obey_99 zi_5 ?_
    replace F := F (ty_maCode W Ta0)
    refine k_X4_110 W dX4_obey_100 rfl (Nat.le_of_ble_eq_true rfl) (Nat.le_of_ble_eq_true rfl) (Or.inl (ty_maCode W Ta0)) F (fun r19 κ18 Wκ18 Mκ18 F => ?_) (fun _ _ h9 => False.elim h9)
    replace F := F Wκ18 Mκ18
    refine y_aln dX4_obey_103 rfl ?_
    have h21 := (ztm W Mκ18 Ta0)
    refine gf_X4_11 Wκ18 dX4_obey_104 rfl h21 ?_
    refine y_iln dX4_obey_107 rfl ?_
    refine y_ic dX4_obey_108 zi_4 ?_
    replace F := F (ty_maCode Wκ18 h21)
    refine k_X4_110 Wκ18 dX4_obey_109 rfl (Nat.le_of_ble_eq_true rfl) (Nat.le_of_ble_eq_true rfl) (Or.inl (ty_maCode Wκ18 h21)) F (fun r23 κ22 Wκ22 Mκ22 F => ?_) (fun _ _ h9 => False.elim h9)
    replace F := F Wκ22 Mκ22
    have h27 := (ztm Wκ18 Mκ22 h21)
    replace F := F h27
    refine k_X4_151 Wκ22 dX4_obey_112 rfl (Nat.le_of_ble_eq_true rfl) (Nat.le_of_ble_eq_true rfl) (Or.inl h27) F (fun  κ25 Wκ25 Mκ25 F => ?_) (fun _ _ h9 => False.elim h9)
    replace F := F Wκ25 Mκ25
    refine y_goto dX4_obey_115 (t := 237) rfl ?_
    exact y_rv Wκ25 dX4_obey_237 rfl F
  replace F := F.2
  by_cases hs6 : (a2).toInt = 6
  · refine y_p (pc' := 118) dX4_obey_8 rfl (fun lo => sw_at (k := 0) hs6 (eq_true (by decide)) rfl rfl) ?_
    replace F := F.1 hs6
    refine y_aln dX4_obey_118 rfl ?_
    refine gf_X4_11 W dX4_obey_119 rfl Ta0 ?_
    refine y_iln dX4_obey_122 rfl ?_
    refine y_iln dX4_obey_123 rfl ?_
    refine y_i (v3_1 = (0 : Int32)) dX4_obey_124 (t := 132) rfl rfl (fun c9 => ?_) (fun c9 => ?_)
    · replace F := F.1 c9
      refine y_bi1 dX4_obey_132 zb_7 ?_
      exact y_k (t_Ma_obey_134  W Ta0 (ty_maCode W Ta0) F) ⟨rfl, trivial⟩
    · replace F := F.2 c9
      refine y_bi1 dX4_obey_127 zb_6 ?_
      refine y_goto dX4_obey_129 (t := 134) rfl ?_
      exact y_k (t_Ma_obey_134  W Ta0 (ty_maCode W Ta0) F) ⟨rfl, trivial⟩
  replace F := F.2
  by_cases hs7 : (a2).toInt = 7
  · refine y_p (pc' := 161) dX4_obey_8 rfl (fun lo => sw_at (k := 0) hs7 (eq_true (by decide)) rfl rfl) ?_
    replace F := F.1 hs7
    refine y_aln dX4_obey_161 rfl ?_
    refine gf_X4_11 W dX4_obey_162 rfl Ta0 ?_
    refine y_iln dX4_obey_165 rfl ?_
    refine y_bi1 dX4_obey_166 zb_6 ?_
    replace F := F (ty_maCode W Ta0)
    refine k_X4_110 W dX4_obey_168 rfl (Nat.le_of_ble_eq_true rfl) (Nat.le_of_ble_eq_true rfl) (Or.inl (ty_maCode W Ta0)) F (fun r30 κ29 Wκ29 Mκ29 F => ?_) (fun _ _ h9 => False.elim h9)
    replace F := F Wκ29 Mκ29
    refine y_is dX4_obey_171 (Nat.le_of_ble_eq_true rfl) rfl ?_
    refine y_aln dX4_obey_173 rfl ?_
    refine y_iln dX4_obey_174 rfl ?_
    refine y_in (v3_1 = (0 : Int32)) dX4_obey_175 (t := 185) rfl rfl (fun c9 => ?_) (fun c9 => ?_)
    · replace F := F.1 c9
      refine y_il dX4_obey_185 rfl ?_
      refine y_ic dX4_obey_187 zi_m1 ?_
      refine y_iin (r30 = (-1 : Int32)) dX4_obey_188 (t := 195) rfl rfl (fun c9 => ?_) (fun c9 => ?_)
      · replace F := F.1 c9
        refine y_il dX4_obey_195 rfl ?_
        have h33 := (ztm W Mκ29 Ta0)
        refine pf_X4_89 Wκ29 dX4_obey_197 rfl (Or.inl h33) (fun κ32 eκ32 => ?_)
        replace F := F κ32 eκ32
        have Wκ32 : zW C n0 κ32 := zW_ui Wκ29 eκ32 (fun h => absurd h (by decide))
        have Mκ32 : zM (zn κ29) κ29 κ32 := by rw [eκ32]; exact zM.of rfl rfl rfl
        replace F := F Wκ32
        refine y_goto dX4_obey_200 (t := 237) rfl ?_
        exact y_rv Wκ32 dX4_obey_237 rfl F
      · replace F := F.2 c9
        refine y_iln dX4_obey_191 rfl ?_
        refine y_goto dX4_obey_192 (t := 197) rfl ?_
        have h35 := (ztm W Mκ29 Ta0)
        refine pf_X4_89 Wκ29 dX4_obey_197 rfl (Or.inl h35) (fun κ34 eκ34 => ?_)
        replace F := F κ34 eκ34
        have Wκ34 : zW C n0 κ34 := zW_ui Wκ29 eκ34 (fun h => absurd h (by decide))
        have Mκ34 : zM (zn κ29) κ29 κ34 := by rw [eκ34]; exact zM.of rfl rfl rfl
        replace F := F Wκ34
        refine y_goto dX4_obey_200 (t := 237) rfl ?_
        exact y_rv Wκ34 dX4_obey_237 rfl F
    · replace F := F.2 c9
      refine y_aln dX4_obey_178 rfl ?_
      have h36 := (ztm W Mκ29 Ta0)
      refine gf_X4_89 dX4_obey_179 rfl (Or.inl h36) ?_
      refine y_goto dX4_obey_182 (t := 197) rfl ?_
      refine pf_X4_89 Wκ29 dX4_obey_197 rfl (Or.inl h36) (fun κ37 eκ37 => ?_)
      replace F := F κ37 eκ37
      have Wκ37 : zW C n0 κ37 := zW_ui Wκ29 eκ37 (fun h => absurd h (by decide))
      have Mκ37 : zM (zn κ29) κ29 κ37 := by rw [eκ37]; exact zM.of rfl rfl rfl
      replace F := F Wκ37
      refine y_goto dX4_obey_200 (t := 237) rfl ?_
      exact y_rv Wκ37 dX4_obey_237 rfl F
  replace F := F.2
  by_cases hs8 : (a2).toInt = 8
  · refine y_p (pc' := 203) dX4_obey_8 rfl (fun lo => sw_at (k := 0) hs8 (eq_true (by decide)) rfl rfl) ?_
    replace F := F.1 hs8
    refine y_aln dX4_obey_203 rfl ?_
    refine y_ic dX4_obey_204 zi_m1 ?_
    refine pf_X4_89 W dX4_obey_205 rfl (Or.inl Ta0) (fun κ38 eκ38 => ?_)
    replace F := F κ38 eκ38
    have Wκ38 : zW C n0 κ38 := zW_ui W eκ38 (fun h => absurd h (by decide))
    have Mκ38 : zM (zn κ) κ κ38 := by rw [eκ38]; exact zM.of rfl rfl rfl
    replace F := F Wκ38
    refine y_aln dX4_obey_208 rfl ?_
    refine y_iln dX4_obey_209 rfl ?_
    have h40 := (ztm W Mκ38 Ta0)
    refine pf_X4_92 Wκ38 dX4_obey_210 rfl (Or.inl h40) (fun κ39 eκ39 => ?_)
    replace F := F κ39 eκ39
    have Wκ39 : zW C n0 κ39 := zW_ui Wκ38 eκ39 (fun h => absurd h (by decide))
    have Mκ39 : zM (zn κ38) κ38 κ39 := by rw [eκ39]; exact zM.of rfl rfl rfl
    replace F := F Wκ39
    refine y_goto dX4_obey_213 (t := 237) rfl ?_
    exact y_rv Wκ39 dX4_obey_237 rfl F
  replace F := F.2
  have hs9 : (a2).toInt = 9 := by omega
  refine y_p (pc' := 216) dX4_obey_8 rfl (fun lo => sw_at (k := 0) hs9 (eq_true (by decide)) rfl rfl) ?_
  replace F := F hs9
  refine y_aln dX4_obey_216 rfl ?_
  refine y_iln dX4_obey_217 rfl ?_
  refine y_in (v3_1 = (0 : Int32)) dX4_obey_218 (t := 225) rfl rfl (fun c9 => ?_) (fun c9 => ?_)
  · replace F := F.1 c9
    refine y_ic dX4_obey_225 zi_0 ?_
    refine pf_X4_79 W dX4_obey_226 rfl (Or.inl Ta0) (fun κ41 eκ41 => ?_)
    replace F := F κ41 eκ41
    have Wκ41 : zW C n0 κ41 := zW_ui W eκ41 (fun h => absurd h (by decide))
    have Mκ41 : zM (zn κ) κ κ41 := by rw [eκ41]; exact zM.of rfl rfl rfl
    replace F := F Wκ41
    refine y_goto dX4_obey_229 (t := 237) rfl ?_
    exact y_rv Wκ41 dX4_obey_237 rfl F
  · replace F := F.2 c9
    refine y_ic dX4_obey_221 zi_3 ?_
    refine y_goto dX4_obey_222 (t := 226) rfl ?_
    refine pf_X4_79 W dX4_obey_226 rfl (Or.inl Ta0) (fun κ42 eκ42 => ?_)
    replace F := F κ42 eκ42
    have Wκ42 : zW C n0 κ42 := zW_ui W eκ42 (fun h => absurd h (by decide))
    have Mκ42 : zM (zn κ) κ κ42 := by rw [eκ42]; exact zM.of rfl rfl rfl
    replace F := F Wκ42
    refine y_goto dX4_obey_229 (t := 237) rfl ?_
    exact y_rv Wκ42 dX4_obey_237 rfl F

theorem Ma_obey_run {C : zC} {n0 : Nat} {Q : zS → Prop} {a0 : Nat} {a1 : Int32} {a2 : Int32} {κ : zS} (W : zW C n0 κ) (Ta0 : zT κ a0 = 7) (F : w_Ma_obey_0 C (zn κ) Q a0 a1 a2 κ) : zRun C 3 mMa_obey [.ref a0, .int a1, .int a2] κ (oV Q noX) := z_run (m_ent _ 3) (t_Ma_obey_0 (W.lo (Nat.le_trans W.1.2.1 W.1.2.2) (Nat.le_refl _)) Ta0 F)

theorem dX4_proceed_0 : decode cX4_proceed 0 = .ok (.iconst 0, 1) := by decide +kernel
theorem dX4_proceed_1 : decode cX4_proceed 1 = .ok (.istore_n 1, 1) := by decide +kernel
theorem dX4_proceed_2 : decode cX4_proceed 2 = .ok (.iload_n 1, 1) := by decide +kernel
theorem dX4_proceed_3 : decode cX4_proceed 3 = .ok (.bipush 12, 2) := by decide +kernel
theorem dX4_proceed_5 : decode cX4_proceed 5 = .ok (.if_icmp .gt 132, 3) := by decide +kernel
theorem dX4_proceed_8 : decode cX4_proceed 8 = .ok (.aload_n 0, 1) := by decide +kernel
theorem dX4_proceed_9 : decode cX4_proceed 9 = .ok (.getfield 89, 3) := by decide +kernel
theorem dX4_proceed_12 : decode cX4_proceed 12 = .ok (.iconst (-1), 1) := by decide +kernel
theorem dX4_proceed_13 : decode cX4_proceed 13 = .ok (.if_icmp .eq 17, 3) := by decide +kernel
theorem dX4_proceed_16 : decode cX4_proceed 16 = .ok (.aload_n 0, 1) := by decide +kernel
theorem dX4_proceed_17 : decode cX4_proceed 17 = .ok (.getfield 15, 3) := by decide +kernel
theorem dX4_proceed_20 : decode cX4_proceed 20 = .ok (.aload_n 0, 1) := by decide +kernel
theorem dX4_proceed_21 : decode cX4_proceed 21 = .ok (.getfield 67, 3) := by decide +kernel
theorem dX4_proceed_24 : decode cX4_proceed 24 = .ok (.aload_n 0, 1) := by decide +kernel
theorem dX4_proceed_25 : decode cX4_proceed 25 = .ok (.getfield 89, 3) := by decide +kernel
theorem dX4_proceed_28 : decode cX4_proceed 28 = .ok (.iastore, 1) := by decide +kernel
theorem dX4_proceed_29 : decode cX4_proceed 29 = .ok (.return_, 1) := by decide +kernel
theorem dX4_proceed_30 : decode cX4_proceed 30 = .ok (.aload_n 0, 1) := by decide +kernel
theorem dX4_proceed_31 : decode cX4_proceed 31 = .ok (.dup, 1) := by decide +kernel
theorem dX4_proceed_32 : decode cX4_proceed 32 = .ok (.getfield 64, 3) := by decide +kernel
theorem dX4_proceed_35 : decode cX4_proceed 35 = .ok (.iconst 1, 1) := by decide +kernel
theorem dX4_proceed_36 : decode cX4_proceed 36 = .ok (.isub, 1) := by decide +kernel
theorem dX4_proceed_37 : decode cX4_proceed 37 = .ok (.putfield 64, 3) := by decide +kernel
theorem dX4_proceed_40 : decode cX4_proceed 40 = .ok (.aload_n 0, 1) := by decide +kernel
theorem dX4_proceed_41 : decode cX4_proceed 41 = .ok (.getfield 64, 3) := by decide +kernel
theorem dX4_proceed_44 : decode cX4_proceed 44 = .ok (.ifCond .gt 17, 3) := by decide +kernel
theorem dX4_proceed_47 : decode cX4_proceed 47 = .ok (.aload_n 0, 1) := by decide +kernel
theorem dX4_proceed_48 : decode cX4_proceed 48 = .ok (.iconst 1, 1) := by decide +kernel
theorem dX4_proceed_49 : decode cX4_proceed 49 = .ok (.putfield 79, 3) := by decide +kernel
theorem dX4_proceed_52 : decode cX4_proceed 52 = .ok (.aload_n 0, 1) := by decide +kernel
theorem dX4_proceed_53 : decode cX4_proceed 53 = .ok (.aload_n 0, 1) := by decide +kernel
theorem dX4_proceed_54 : decode cX4_proceed 54 = .ok (.getfield 92, 3) := by decide +kernel
theorem dX4_proceed_57 : decode cX4_proceed 57 = .ok (.putfield 160, 3) := by decide +kernel
theorem dX4_proceed_60 : decode cX4_proceed 60 = .ok (.return_, 1) := by decide +kernel
theorem dX4_proceed_61 : decode cX4_proceed 61 = .ok (.aload_n 0, 1) := by decide +kernel
theorem dX4_proceed_62 : decode cX4_proceed 62 = .ok (.dup, 1) := by decide +kernel
theorem dX4_proceed_63 : decode cX4_proceed 63 = .ok (.getfield 67, 3) := by decide +kernel
theorem dX4_proceed_66 : decode cX4_proceed 66 = .ok (.bipush 9, 2) := by decide +kernel
theorem dX4_proceed_68 : decode cX4_proceed 68 = .ok (.isub, 1) := by decide +kernel
theorem dX4_proceed_69 : decode cX4_proceed 69 = .ok (.putfield 67, 3) := by decide +kernel
theorem dX4_proceed_72 : decode cX4_proceed 72 = .ok (.aload_n 0, 1) := by decide +kernel
theorem dX4_proceed_73 : decode cX4_proceed 73 = .ok (.getfield 15, 3) := by decide +kernel
theorem dX4_proceed_76 : decode cX4_proceed 76 = .ok (.aload_n 0, 1) := by decide +kernel
theorem dX4_proceed_77 : decode cX4_proceed 77 = .ok (.getfield 67, 3) := by decide +kernel
theorem dX4_proceed_80 : decode cX4_proceed 80 = .ok (.iaload, 1) := by decide +kernel
theorem dX4_proceed_81 : decode cX4_proceed 81 = .ok (.istore_n 2, 1) := by decide +kernel
theorem dX4_proceed_82 : decode cX4_proceed 82 = .ok (.aload_n 0, 1) := by decide +kernel
theorem dX4_proceed_83 : decode cX4_proceed 83 = .ok (.aload_n 0, 1) := by decide +kernel
theorem dX4_proceed_84 : decode cX4_proceed 84 = .ok (.aload_n 0, 1) := by decide +kernel
theorem dX4_proceed_85 : decode cX4_proceed 85 = .ok (.getfield 11, 3) := by decide +kernel
theorem dX4_proceed_88 : decode cX4_proceed 88 = .ok (.iload_n 2, 1) := by decide +kernel
theorem dX4_proceed_89 : decode cX4_proceed 89 = .ok (.iconst 1, 1) := by decide +kernel
theorem dX4_proceed_90 : decode cX4_proceed 90 = .ok (.invokevirtual 110, 3) := by decide +kernel
theorem dX4_proceed_93 : decode cX4_proceed 93 = .ok (.aload_n 0, 1) := by decide +kernel
theorem dX4_proceed_94 : decode cX4_proceed 94 = .ok (.getfield 11, 3) := by decide +kernel
theorem dX4_proceed_97 : decode cX4_proceed 97 = .ok (.iload_n 2, 1) := by decide +kernel
theorem dX4_proceed_98 : decode cX4_proceed 98 = .ok (.iconst 2, 1) := by decide +kernel
theorem dX4_proceed_99 : decode cX4_proceed 99 = .ok (.invokevirtual 110, 3) := by decide +kernel
theorem dX4_proceed_102 : decode cX4_proceed 102 = .ok (.invokevirtual 127, 3) := by decide +kernel
theorem dX4_proceed_105 : decode cX4_proceed 105 = .ok (.aload_n 0, 1) := by decide +kernel
theorem dX4_proceed_106 : decode cX4_proceed 106 = .ok (.getfield 92, 3) := by decide +kernel
theorem dX4_proceed_109 : decode cX4_proceed 109 = .ok (.invokevirtual 142, 3) := by decide +kernel
theorem dX4_proceed_112 : decode cX4_proceed 112 = .ok (.aload_n 0, 1) := by decide +kernel
theorem dX4_proceed_113 : decode cX4_proceed 113 = .ok (.aload_n 0, 1) := by decide +kernel
theorem dX4_proceed_114 : decode cX4_proceed 114 = .ok (.getfield 11, 3) := by decide +kernel
theorem dX4_proceed_117 : decode cX4_proceed 117 = .ok (.iload_n 2, 1) := by decide +kernel
theorem dX4_proceed_118 : decode cX4_proceed 118 = .ok (.bipush 8, 2) := by decide +kernel
theorem dX4_proceed_120 : decode cX4_proceed 120 = .ok (.invokevirtual 110, 3) := by decide +kernel
theorem dX4_proceed_123 : decode cX4_proceed 123 = .ok (.putfield 89, 3) := by decide +kernel
theorem dX4_proceed_126 : decode cX4_proceed 126 = .ok (.aload_n 0, 1) := by decide +kernel
theorem dX4_proceed_127 : decode cX4_proceed 127 = .ok (.iconst 0, 1) := by decide +kernel
theorem dX4_proceed_128 : decode cX4_proceed 128 = .ok (.putfield 92, 3) := by decide +kernel
theorem dX4_proceed_131 : decode cX4_proceed 131 = .ok (.iinc 1 1, 3) := by decide +kernel
theorem dX4_proceed_134 : decode cX4_proceed 134 = .ok (.goto (-132), 3) := by decide +kernel
theorem dX4_proceed_137 : decode cX4_proceed 137 = .ok (.return_, 1) := by decide +kernel
def w_Ma_proceed_2 (C : zC) (n0 : Nat) (Q : zS → Prop)  (a0 : Nat) (a1 : Int32) (κ : zS) : Prop :=
  ∃ I : Nat → Nat → Int32 → zS → Prop, (∃ n, I n a0 a1 κ) ∧ ∀ n a0 a1 κ, zW C n0 κ → zT κ a0 = 7 → I n a0 a1 κ →
    ((12 : Int32) < a1 →
      Q κ) ∧
    (¬ (12 : Int32) < a1 →
      ((zI κ maGoing a0) = (-1 : Int32) →
        ∀ κ1, κ1 = ui κ maOpen a0 ((zI κ maOpen a0) - (1 : Int32)) →
        ∀ _ : zW C n0 κ1,
        ((0 : Int32) < (zI κ1 maOpen a0) →
          ∀ κ3, κ3 = ui κ1 maFrame a0 ((zI κ1 maFrame a0) - (9 : Int32)) →
          ∀ _ : zW C n0 κ3,
          inb (zI κ3 maFrame a0) (zN κ3 (zR κ3 maMemory a0)) ∧
          ∀ v2_5 : Int32, v2_5 = (zA κ3 (zR κ3 maMemory a0) ((zI κ3 maFrame a0)).toNatClampNeg) →
          ∀ _ : zT κ3 (zR κ3 maCode a0) = 5,
          zRun C 0 mCo_column [.ref (zR κ3 maCode a0), .int v2_5, .int (1 : Int32)] κ3 (oI (fun r7 κ6 =>
            ∀ _ : zW C n0 κ6,
            ∀ _ : zM (zn κ3) κ3 κ6,
            ∀ _ : zT κ6 (zR κ6 maCode a0) = 5,
            zRun C 0 mCo_column [.ref (zR κ6 maCode a0), .int v2_5, .int (2 : Int32)] κ6 (oI (fun r11 κ10 =>
              ∀ _ : zW C n0 κ10,
              ∀ _ : zM (zn κ6) κ6 κ10,
              ∀ _ : zT κ10 a0 = 7,
              zRun C 0 mMa_slot [.ref a0, .int r7, .int r11] κ10 (oI (fun r14 κ13 =>
                ∀ _ : zW C n0 κ13,
                ∀ _ : zM (zn κ10) κ10 κ13,
                ∀ _ : zT κ13 a0 = 7,
                zRun C 0 mMa_put [.ref a0, .int r14, .int (zI κ13 maAnswer a0)] κ13 (oV (fun κ18 =>
                  ∀ _ : zW C n0 κ18,
                  ∀ _ : zM (zn κ13) κ13 κ18,
                  ∀ _ : zT κ18 (zR κ18 maCode a0) = 5,
                  zRun C 0 mCo_column [.ref (zR κ18 maCode a0), .int v2_5, .int (8 : Int32)] κ18 (oI (fun r23 κ22 =>
                    ∀ _ : zW C n0 κ22,
                    ∀ _ : zM (zn κ18) κ18 κ22,
                    ∀ κ25, κ25 = ui κ22 maGoing a0 r23 →
                    ∀ _ : zW C n0 κ25,
                    ∀ κ27, κ27 = ui κ25 maAnswer a0 (0 : Int32) →
                    ∀ _ : zW C n0 κ27,
                    ∀ v1_29 : Int32, v1_29 = a1 + (1 : Int32) →
                    ∃ k < n, I k a0 v1_29 κ27) noX)) noX)) noX)) noX)) noX)) ∧
        (¬ (0 : Int32) < (zI κ1 maOpen a0) →
          ∀ κ31, κ31 = ui κ1 maOutcome a0 (1 : Int32) →
          ∀ _ : zW C n0 κ31,
          ∀ κ33, κ33 = ui κ31 maNumber a0 (zI κ31 maAnswer a0) →
          ∀ _ : zW C n0 κ33,
          Q κ33)) ∧
      (¬ (zI κ maGoing a0) = (-1 : Int32) →
        inb (zI κ maFrame a0) (zN κ (zR κ maMemory a0)) ∧
        ∀ κ34, κ34 = ua κ (zR κ maMemory a0) ((zI κ maFrame a0)).toNatClampNeg (zI κ maGoing a0) →
        ∀ _ : zW C n0 κ34,
        Q κ34))
theorem t_Ma_proceed_2 {C : zC} {n0 : Nat} {Q : zS → Prop}   {a0 : Nat} {a1 : Int32} {κ : zS} (W : zW C n0 κ) (Ta0 : zT κ a0 = 7) (F : w_Ma_proceed_2 C n0 Q  a0 a1 κ) : zG C n0 1 mMa_proceed 2 [some (.ref a0), some (.int a1), none] [] κ (oV Q noX) := by
  obtain ⟨I, ⟨m0, hI0⟩, F0⟩ := F
  have key : ∀ n a0 a1 κ, zW C n0 κ → zT κ a0 = 7 → I n a0 a1 κ → zG C n0 1 mMa_proceed 2 [some (.ref a0), some (.int a1), none] [] κ (oV Q noX) := by
    intro n
    induction n using Nat.strongRecOn with
    | _ n ih =>
      intro a0 a1 κ W Ta0 hI
      have F := F0 n a0 a1 κ W Ta0 hI
      clear hI hI0
      refine y_iln dX4_proceed_2 rfl ?_
      refine y_bi1 dX4_proceed_3 zb_12 ?_
      refine y_ii ((12 : Int32) < a1) dX4_proceed_5 (t := 137) rfl rfl (fun c9 => ?_) (fun c9 => ?_)
      · replace F := F.1 c9
        exact y_rv W dX4_proceed_137 rfl F
      · replace F := F.2 c9
        refine y_aln dX4_proceed_8 rfl ?_
        refine gf_X4_89 dX4_proceed_9 rfl (Or.inl Ta0) ?_
        refine y_ic dX4_proceed_12 zi_m1 ?_
        refine y_ii ((zI κ maGoing a0) = (-1 : Int32)) dX4_proceed_13 (t := 30) rfl rfl (fun c9 => ?_) (fun c9 => ?_)
        · replace F := F.1 c9
          refine y_aln dX4_proceed_30 rfl ?_
          refine y_dup dX4_proceed_31 rfl ?_
          refine gf_X4_64 dX4_proceed_32 rfl (Or.inl Ta0) ?_
          refine y_ic dX4_proceed_35 zi_1 ?_
          refine y_isub dX4_proceed_36 ?_
          refine pf_X4_64 W dX4_proceed_37 rfl (Or.inl Ta0) (fun κ1 eκ1 => ?_)
          replace F := F κ1 eκ1
          have Wκ1 : zW C n0 κ1 := zW_ui W eκ1 (fun h => absurd h (by decide))
          have Mκ1 : zM (zn κ) κ κ1 := by rw [eκ1]; exact zM.of rfl rfl rfl
          replace F := F Wκ1
          refine y_aln dX4_proceed_40 rfl ?_
          have h2 := (ztm W Mκ1 Ta0)
          refine gf_X4_64 dX4_proceed_41 rfl (Or.inl h2) ?_
          refine y_i ((0 : Int32) < (zI κ1 maOpen a0)) dX4_proceed_44 (t := 61) rfl rfl (fun c9 => ?_) (fun c9 => ?_)
          · replace F := F.1 c9
            refine y_aln dX4_proceed_61 rfl ?_
            refine y_dup dX4_proceed_62 rfl ?_
            refine gf_X4_67 dX4_proceed_63 rfl (Or.inl h2) ?_
            refine y_bi1 dX4_proceed_66 zb_9 ?_
            refine y_isub dX4_proceed_68 ?_
            refine pf_X4_67 Wκ1 dX4_proceed_69 rfl (Or.inl h2) (fun κ3 eκ3 => ?_)
            replace F := F κ3 eκ3
            have Wκ3 : zW C n0 κ3 := zW_ui Wκ1 eκ3 (fun h => absurd h (by decide))
            have Mκ3 : zM (zn κ1) κ1 κ3 := by rw [eκ3]; exact zM.of rfl rfl rfl
            replace F := F Wκ3
            refine y_aln dX4_proceed_72 rfl ?_
            have h4 := (ztm Wκ1 Mκ3 h2)
            refine gf_X4_15 Wκ3 dX4_proceed_73 rfl h4 ?_
            refine y_aln dX4_proceed_76 rfl ?_
            refine gf_X4_67 dX4_proceed_77 rfl (Or.inl h4) ?_
            refine y_ald dX4_proceed_80 (ty_maMemory Wκ3 h4) F.1 ?_
            replace F := F.2
            refine y_isnb dX4_proceed_81 (Nat.le_of_ble_eq_true rfl) (fun v2_5 ev2_5 => ?_)
            replace F := F v2_5 ev2_5
            refine y_aln dX4_proceed_82 rfl ?_
            refine y_aln dX4_proceed_83 rfl ?_
            refine y_aln dX4_proceed_84 rfl ?_
            refine gf_X4_11 Wκ3 dX4_proceed_85 rfl h4 ?_
            refine y_iln dX4_proceed_88 rfl ?_
            refine y_ic dX4_proceed_89 zi_1 ?_
            replace F := F (ty_maCode Wκ3 h4)
            refine k_X4_110 Wκ3 dX4_proceed_90 rfl (Nat.le_of_ble_eq_true rfl) (Nat.le_of_ble_eq_true rfl) (Or.inl (ty_maCode Wκ3 h4)) F (fun r7 κ6 Wκ6 Mκ6 F => ?_) (fun _ _ h9 => False.elim h9)
            replace F := F Wκ6 Mκ6
            refine y_aln dX4_proceed_93 rfl ?_
            have h9 := (ztm Wκ3 Mκ6 h4)
            refine gf_X4_11 Wκ6 dX4_proceed_94 rfl h9 ?_
            refine y_iln dX4_proceed_97 rfl ?_
            refine y_ic dX4_proceed_98 zi_2 ?_
            replace F := F (ty_maCode Wκ6 h9)
            refine k_X4_110 Wκ6 dX4_proceed_99 rfl (Nat.le_of_ble_eq_true rfl) (Nat.le_of_ble_eq_true rfl) (Or.inl (ty_maCode Wκ6 h9)) F (fun r11 κ10 Wκ10 Mκ10 F => ?_) (fun _ _ h9 => False.elim h9)
            replace F := F Wκ10 Mκ10
            have h15 := (ztm Wκ6 Mκ10 h9)
            replace F := F h15
            refine k_X4_127 Wκ10 dX4_proceed_102 rfl (Nat.le_of_ble_eq_true rfl) (Nat.le_of_ble_eq_true rfl) (Or.inl h15) F (fun r14 κ13 Wκ13 Mκ13 F => ?_) (fun _ _ h9 => False.elim h9)
            replace F := F Wκ13 Mκ13
            refine y_aln dX4_proceed_105 rfl ?_
            have h17 := (ztm Wκ10 Mκ13 h15)
            refine gf_X4_92 dX4_proceed_106 rfl (Or.inl h17) ?_
            replace F := F h17
            refine k_X4_142 Wκ13 dX4_proceed_109 rfl (Nat.le_of_ble_eq_true rfl) (Nat.le_of_ble_eq_true rfl) (Or.inl h17) F (fun  κ18 Wκ18 Mκ18 F => ?_) (fun _ _ h9 => False.elim h9)
            replace F := F Wκ18 Mκ18
            refine y_aln dX4_proceed_112 rfl ?_
            refine y_aln dX4_proceed_113 rfl ?_
            have h21 := (ztm Wκ13 Mκ18 h17)
            refine gf_X4_11 Wκ18 dX4_proceed_114 rfl h21 ?_
            refine y_iln dX4_proceed_117 rfl ?_
            refine y_bi1 dX4_proceed_118 zb_8 ?_
            replace F := F (ty_maCode Wκ18 h21)
            refine k_X4_110 Wκ18 dX4_proceed_120 rfl (Nat.le_of_ble_eq_true rfl) (Nat.le_of_ble_eq_true rfl) (Or.inl (ty_maCode Wκ18 h21)) F (fun r23 κ22 Wκ22 Mκ22 F => ?_) (fun _ _ h9 => False.elim h9)
            replace F := F Wκ22 Mκ22
            have h26 := (ztm Wκ18 Mκ22 h21)
            refine pf_X4_89 Wκ22 dX4_proceed_123 rfl (Or.inl h26) (fun κ25 eκ25 => ?_)
            replace F := F κ25 eκ25
            have Wκ25 : zW C n0 κ25 := zW_ui Wκ22 eκ25 (fun h => absurd h (by decide))
            have Mκ25 : zM (zn κ22) κ22 κ25 := by rw [eκ25]; exact zM.of rfl rfl rfl
            replace F := F Wκ25
            refine y_aln dX4_proceed_126 rfl ?_
            refine y_ic dX4_proceed_127 zi_0 ?_
            have h28 := (ztm Wκ22 Mκ25 h26)
            refine pf_X4_92 Wκ25 dX4_proceed_128 rfl (Or.inl h28) (fun κ27 eκ27 => ?_)
            replace F := F κ27 eκ27
            have Wκ27 : zW C n0 κ27 := zW_ui Wκ25 eκ27 (fun h => absurd h (by decide))
            have Mκ27 : zM (zn κ25) κ25 κ27 := by rw [eκ27]; exact zM.of rfl rfl rfl
            replace F := F Wκ27
            refine y_incb dX4_proceed_131 zi_1 rfl (Nat.le_of_ble_eq_true rfl) (fun v1_29 ev1_29 => ?_)
            replace F := F v1_29 ev1_29
            refine y_goto dX4_proceed_134 (t := 2) rfl ?_
            have h30 := (ztm Wκ25 Mκ27 h28)
            obtain ⟨k, hk, hI⟩ := F
            exact y_k (ih k hk _ _ _ Wκ27 h30 hI) ⟨rfl, rfl, trivial⟩
          · replace F := F.2 c9
            refine y_aln dX4_proceed_47 rfl ?_
            refine y_ic dX4_proceed_48 zi_1 ?_
            refine pf_X4_79 Wκ1 dX4_proceed_49 rfl (Or.inl h2) (fun κ31 eκ31 => ?_)
            replace F := F κ31 eκ31
            have Wκ31 : zW C n0 κ31 := zW_ui Wκ1 eκ31 (fun h => absurd h (by decide))
            have Mκ31 : zM (zn κ1) κ1 κ31 := by rw [eκ31]; exact zM.of rfl rfl rfl
            replace F := F Wκ31
            refine y_aln dX4_proceed_52 rfl ?_
            refine y_aln dX4_proceed_53 rfl ?_
            have h32 := (ztm Wκ1 Mκ31 h2)
            refine gf_X4_92 dX4_proceed_54 rfl (Or.inl h32) ?_
            refine pf_X4_160 Wκ31 dX4_proceed_57 rfl (Or.inl h32) (fun κ33 eκ33 => ?_)
            replace F := F κ33 eκ33
            have Wκ33 : zW C n0 κ33 := zW_ui Wκ31 eκ33 (fun h => absurd h (by decide))
            have Mκ33 : zM (zn κ31) κ31 κ33 := by rw [eκ33]; exact zM.of rfl rfl rfl
            replace F := F Wκ33
            exact y_rv Wκ33 dX4_proceed_60 rfl F
        · replace F := F.2 c9
          refine y_aln dX4_proceed_16 rfl ?_
          refine gf_X4_15 W dX4_proceed_17 rfl Ta0 ?_
          refine y_aln dX4_proceed_20 rfl ?_
          refine gf_X4_67 dX4_proceed_21 rfl (Or.inl Ta0) ?_
          refine y_aln dX4_proceed_24 rfl ?_
          refine gf_X4_89 dX4_proceed_25 rfl (Or.inl Ta0) ?_
          refine y_ast W dX4_proceed_28 (ty_maMemory W Ta0) F.1 (fun κ34 eκ34 => ?_)
          replace F := F.2 κ34 eκ34
          have Wκ34 : zW C n0 κ34 := zW_ua W eκ34 (fun h => absurd (h.symm.trans (ty_maMemory W Ta0)) (by decide)) (fun h => absurd (h.symm.trans (ty_maMemory W Ta0)) (by decide))
          have Mκ34 : zM (zn κ) κ κ34 := by rw [eκ34]; exact zM.of rfl rfl rfl
          replace F := F Wκ34
          exact y_rv Wκ34 dX4_proceed_29 rfl F
  exact key m0 a0 a1 κ W Ta0 hI0

def w_Ma_proceed_0 (C : zC) (n0 : Nat) (Q : zS → Prop)  (a0 : Nat) (κ : zS) : Prop :=
  w_Ma_proceed_2 C n0 Q  a0 (0 : Int32) κ
theorem t_Ma_proceed_0 {C : zC} {n0 : Nat} {Q : zS → Prop}   {a0 : Nat} {κ : zS} (W : zW C n0 κ) (Ta0 : zT κ a0 = 7) (F : w_Ma_proceed_0 C n0 Q  a0 κ) : zG C n0 1 mMa_proceed 0 [some (.ref a0), none, none] [] κ (oV Q noX) := by
  unfold w_Ma_proceed_0 at F
  refine y_ic dX4_proceed_0 zi_0 ?_
  refine y_isn dX4_proceed_1 (Nat.le_of_ble_eq_true rfl) rfl ?_
  exact y_k (t_Ma_proceed_2  W Ta0 F) ⟨rfl, rfl, trivial⟩

theorem Ma_proceed_run {C : zC} {n0 : Nat} {Q : zS → Prop} {a0 : Nat} {κ : zS} (W : zW C n0 κ) (Ta0 : zT κ a0 = 7) (F : w_Ma_proceed_0 C (zn κ) Q a0 κ) : zRun C 1 mMa_proceed [.ref a0] κ (oV Q noX) := z_run (m_ent _ 2) (t_Ma_proceed_0 (W.lo (Nat.le_trans W.1.2.1 W.1.2.2) (Nat.le_refl _)) Ta0 F)

theorem dX4_act_0 : decode cX4_act 0 = .ok (.aload_n 0, 1) := by decide +kernel
theorem dX4_act_1 : decode cX4_act 1 = .ok (.getfield 15, 3) := by decide +kernel
theorem dX4_act_4 : decode cX4_act 4 = .ok (.aload_n 0, 1) := by decide +kernel
theorem dX4_act_5 : decode cX4_act 5 = .ok (.getfield 67, 3) := by decide +kernel
theorem dX4_act_8 : decode cX4_act 8 = .ok (.iaload, 1) := by decide +kernel
theorem dX4_act_9 : decode cX4_act 9 = .ok (.istore_n 1, 1) := by decide +kernel
theorem dX4_act_10 : decode cX4_act 10 = .ok (.aload_n 0, 1) := by decide +kernel
theorem dX4_act_11 : decode cX4_act 11 = .ok (.iconst (-1), 1) := by decide +kernel
theorem dX4_act_12 : decode cX4_act 12 = .ok (.putfield 76, 3) := by decide +kernel
theorem dX4_act_15 : decode cX4_act 15 = .ok (.aload_n 0, 1) := by decide +kernel
theorem dX4_act_16 : decode cX4_act 16 = .ok (.iconst 0, 1) := by decide +kernel
theorem dX4_act_17 : decode cX4_act 17 = .ok (.putfield 73, 3) := by decide +kernel
theorem dX4_act_20 : decode cX4_act 20 = .ok (.aload_n 0, 1) := by decide +kernel
theorem dX4_act_21 : decode cX4_act 21 = .ok (.iconst 0, 1) := by decide +kernel
theorem dX4_act_22 : decode cX4_act 22 = .ok (.putfield 70, 3) := by decide +kernel
theorem dX4_act_25 : decode cX4_act 25 = .ok (.aload_n 0, 1) := by decide +kernel
theorem dX4_act_26 : decode cX4_act 26 = .ok (.aload_n 0, 1) := by decide +kernel
theorem dX4_act_27 : decode cX4_act 27 = .ok (.getfield 11, 3) := by decide +kernel
theorem dX4_act_30 : decode cX4_act 30 = .ok (.iload_n 1, 1) := by decide +kernel
theorem dX4_act_31 : decode cX4_act 31 = .ok (.iconst 3, 1) := by decide +kernel
theorem dX4_act_32 : decode cX4_act 32 = .ok (.invokevirtual 110, 3) := by decide +kernel
theorem dX4_act_35 : decode cX4_act 35 = .ok (.putfield 113, 3) := by decide +kernel
theorem dX4_act_38 : decode cX4_act 38 = .ok (.aload_n 0, 1) := by decide +kernel
theorem dX4_act_39 : decode cX4_act 39 = .ok (.iload_n 1, 1) := by decide +kernel
theorem dX4_act_40 : decode cX4_act 40 = .ok (.invokevirtual 116, 3) := by decide +kernel
theorem dX4_act_43 : decode cX4_act 43 = .ok (.aload_n 0, 1) := by decide +kernel
theorem dX4_act_44 : decode cX4_act 44 = .ok (.getfield 11, 3) := by decide +kernel
theorem dX4_act_47 : decode cX4_act 47 = .ok (.iload_n 1, 1) := by decide +kernel
theorem dX4_act_48 : decode cX4_act 48 = .ok (.iconst 4, 1) := by decide +kernel
theorem dX4_act_49 : decode cX4_act 49 = .ok (.invokevirtual 110, 3) := by decide +kernel
theorem dX4_act_52 : decode cX4_act 52 = .ok (.istore_n 2, 1) := by decide +kernel
theorem dX4_act_53 : decode cX4_act 53 = .ok (.iconst 0, 1) := by decide +kernel
theorem dX4_act_54 : decode cX4_act 54 = .ok (.istore_n 3, 1) := by decide +kernel
theorem dX4_act_55 : decode cX4_act 55 = .ok (.iload_n 3, 1) := by decide +kernel
theorem dX4_act_56 : decode cX4_act 56 = .ok (.iload_n 2, 1) := by decide +kernel
theorem dX4_act_57 : decode cX4_act 57 = .ok (.if_icmp .ge 35, 3) := by decide +kernel
theorem dX4_act_60 : decode cX4_act 60 = .ok (.iload_n 3, 1) := by decide +kernel
theorem dX4_act_61 : decode cX4_act 61 = .ok (.aload_n 0, 1) := by decide +kernel
theorem dX4_act_62 : decode cX4_act 62 = .ok (.getfield 22, 3) := by decide +kernel
theorem dX4_act_65 : decode cX4_act 65 = .ok (.arraylength, 1) := by decide +kernel
theorem dX4_act_66 : decode cX4_act 66 = .ok (.if_icmp .ge 26, 3) := by decide +kernel
theorem dX4_act_69 : decode cX4_act 69 = .ok (.aload_n 0, 1) := by decide +kernel
theorem dX4_act_70 : decode cX4_act 70 = .ok (.getfield 70, 3) := by decide +kernel
theorem dX4_act_73 : decode cX4_act 73 = .ok (.ifCond .ne 19, 3) := by decide +kernel
theorem dX4_act_76 : decode cX4_act 76 = .ok (.aload_n 0, 1) := by decide +kernel
theorem dX4_act_77 : decode cX4_act 77 = .ok (.getfield 22, 3) := by decide +kernel
theorem dX4_act_80 : decode cX4_act 80 = .ok (.iload_n 3, 1) := by decide +kernel
theorem dX4_act_81 : decode cX4_act 81 = .ok (.aload_n 0, 1) := by decide +kernel
theorem dX4_act_82 : decode cX4_act 82 = .ok (.invokevirtual 120, 3) := by decide +kernel
theorem dX4_act_85 : decode cX4_act 85 = .ok (.iastore, 1) := by decide +kernel
theorem dX4_act_86 : decode cX4_act 86 = .ok (.iinc 3 1, 3) := by decide +kernel
theorem dX4_act_89 : decode cX4_act 89 = .ok (.goto (-34), 3) := by decide +kernel
theorem dX4_act_92 : decode cX4_act 92 = .ok (.aload_n 0, 1) := by decide +kernel
theorem dX4_act_93 : decode cX4_act 93 = .ok (.getfield 70, 3) := by decide +kernel
theorem dX4_act_96 : decode cX4_act 96 = .ok (.ifCond .eq 9, 3) := by decide +kernel
theorem dX4_act_99 : decode cX4_act 99 = .ok (.aload_n 0, 1) := by decide +kernel
theorem dX4_act_100 : decode cX4_act 100 = .ok (.iconst 2, 1) := by decide +kernel
theorem dX4_act_101 : decode cX4_act 101 = .ok (.putfield 79, 3) := by decide +kernel
theorem dX4_act_104 : decode cX4_act 104 = .ok (.return_, 1) := by decide +kernel
theorem dX4_act_105 : decode cX4_act 105 = .ok (.aload_n 0, 1) := by decide +kernel
theorem dX4_act_106 : decode cX4_act 106 = .ok (.aload_n 0, 1) := by decide +kernel
theorem dX4_act_107 : decode cX4_act 107 = .ok (.getfield 11, 3) := by decide +kernel
theorem dX4_act_110 : decode cX4_act 110 = .ok (.iload_n 1, 1) := by decide +kernel
theorem dX4_act_111 : decode cX4_act 111 = .ok (.bipush 8, 2) := by decide +kernel
theorem dX4_act_113 : decode cX4_act 113 = .ok (.invokevirtual 110, 3) := by decide +kernel
theorem dX4_act_116 : decode cX4_act 116 = .ok (.putfield 89, 3) := by decide +kernel
theorem dX4_act_119 : decode cX4_act 119 = .ok (.aload_n 0, 1) := by decide +kernel
theorem dX4_act_120 : decode cX4_act 120 = .ok (.iconst 0, 1) := by decide +kernel
theorem dX4_act_121 : decode cX4_act 121 = .ok (.putfield 92, 3) := by decide +kernel
theorem dX4_act_124 : decode cX4_act 124 = .ok (.aload_n 0, 1) := by decide +kernel
theorem dX4_act_125 : decode cX4_act 125 = .ok (.iload_n 1, 1) := by decide +kernel
theorem dX4_act_126 : decode cX4_act 126 = .ok (.aload_n 0, 1) := by decide +kernel
theorem dX4_act_127 : decode cX4_act 127 = .ok (.getfield 11, 3) := by decide +kernel
theorem dX4_act_130 : decode cX4_act 130 = .ok (.iload_n 1, 1) := by decide +kernel
theorem dX4_act_131 : decode cX4_act 131 = .ok (.iconst 0, 1) := by decide +kernel
theorem dX4_act_132 : decode cX4_act 132 = .ok (.invokevirtual 110, 3) := by decide +kernel
theorem dX4_act_135 : decode cX4_act 135 = .ok (.invokevirtual 123, 3) := by decide +kernel
theorem dX4_act_138 : decode cX4_act 138 = .ok (.aload_n 0, 1) := by decide +kernel
theorem dX4_act_139 : decode cX4_act 139 = .ok (.getfield 76, 3) := by decide +kernel
theorem dX4_act_142 : decode cX4_act 142 = .ok (.iconst (-1), 1) := by decide +kernel
theorem dX4_act_143 : decode cX4_act 143 = .ok (.if_icmp .ne 14, 3) := by decide +kernel
theorem dX4_act_146 : decode cX4_act 146 = .ok (.aload_n 0, 1) := by decide +kernel
theorem dX4_act_147 : decode cX4_act 147 = .ok (.getfield 79, 3) := by decide +kernel
theorem dX4_act_150 : decode cX4_act 150 = .ok (.ifCond .ne 7, 3) := by decide +kernel
theorem dX4_act_153 : decode cX4_act 153 = .ok (.aload_n 0, 1) := by decide +kernel
theorem dX4_act_154 : decode cX4_act 154 = .ok (.invokevirtual 95, 3) := by decide +kernel
theorem dX4_act_157 : decode cX4_act 157 = .ok (.return_, 1) := by decide +kernel
def w_Ma_act_92 (C : zC) (n0 : Nat) (Q : zS → Prop)  (a0 : Nat) (a1 : Int32) (κ : zS) : Prop :=
  ((zI κ maFailure a0) = (0 : Int32) →
    ∀ _ : zT κ (zR κ maCode a0) = 5,
    zRun C 0 mCo_column [.ref (zR κ maCode a0), .int a1, .int (8 : Int32)] κ (oI (fun r2 κ1 =>
      ∀ _ : zW C n0 κ1,
      ∀ _ : zM (zn κ) κ κ1,
      ∀ κ4, κ4 = ui κ1 maGoing a0 r2 →
      ∀ _ : zW C n0 κ4,
      ∀ κ6, κ6 = ui κ4 maAnswer a0 (0 : Int32) →
      ∀ _ : zW C n0 κ6,
      ∀ _ : zT κ6 (zR κ6 maCode a0) = 5,
      zRun C 0 mCo_column [.ref (zR κ6 maCode a0), .int a1, .int (0 : Int32)] κ6 (oI (fun r10 κ9 =>
        ∀ _ : zW C n0 κ9,
        ∀ _ : zM (zn κ6) κ6 κ9,
        ∀ _ : zT κ9 a0 = 7,
        zRun C 3 mMa_obey [.ref a0, .int a1, .int r10] κ9 (oV (fun κ12 =>
          ∀ _ : zW C n0 κ12,
          ∀ _ : zM (zn κ9) κ9 κ12,
          (¬ (zI κ12 maWants a0) = (-1 : Int32) →
            Q κ12) ∧
          ((zI κ12 maWants a0) = (-1 : Int32) →
            (¬ (zI κ12 maOutcome a0) = (0 : Int32) →
              Q κ12) ∧
            ((zI κ12 maOutcome a0) = (0 : Int32) →
              ∀ _ : zT κ12 a0 = 7,
              zRun C 1 mMa_proceed [.ref a0] κ12 (oV (fun κ17 =>
                ∀ _ : zW C n0 κ17,
                ∀ _ : zM (zn κ12) κ12 κ17,
                Q κ17) noX)))) noX)) noX)) noX)) ∧
  (¬ (zI κ maFailure a0) = (0 : Int32) →
    ∀ κ20, κ20 = ui κ maOutcome a0 (2 : Int32) →
    ∀ _ : zW C n0 κ20,
    Q κ20)
theorem t_Ma_act_92 {C : zC} {n0 : Nat} {Q : zS → Prop}   {a0 : Nat} {a1 : Int32} {κ : zS} (W : zW C n0 κ) (Ta0 : zT κ a0 = 7) (F : w_Ma_act_92 C n0 Q  a0 a1 κ) : zG C n0 4 mMa_act 92 [some (.ref a0), some (.int a1), none, none] [] κ (oV Q noX) := by
  unfold w_Ma_act_92 at F
  refine y_aln dX4_act_92 rfl ?_
  refine gf_X4_70 dX4_act_93 rfl (Or.inl Ta0) ?_
  refine y_i ((zI κ maFailure a0) = (0 : Int32)) dX4_act_96 (t := 105) rfl rfl (fun c9 => ?_) (fun c9 => ?_)
  · replace F := F.1 c9
    refine y_aln dX4_act_105 rfl ?_
    refine y_aln dX4_act_106 rfl ?_
    refine gf_X4_11 W dX4_act_107 rfl Ta0 ?_
    refine y_iln dX4_act_110 rfl ?_
    refine y_bi1 dX4_act_111 zb_8 ?_
    replace F := F (ty_maCode W Ta0)
    refine k_X4_110 W dX4_act_113 rfl (Nat.le_of_ble_eq_true rfl) (Nat.le_of_ble_eq_true rfl) (Or.inl (ty_maCode W Ta0)) F (fun r2 κ1 Wκ1 Mκ1 F => ?_) (fun _ _ h9 => False.elim h9)
    replace F := F Wκ1 Mκ1
    have h5 := (ztm W Mκ1 Ta0)
    refine pf_X4_89 Wκ1 dX4_act_116 rfl (Or.inl h5) (fun κ4 eκ4 => ?_)
    replace F := F κ4 eκ4
    have Wκ4 : zW C n0 κ4 := zW_ui Wκ1 eκ4 (fun h => absurd h (by decide))
    have Mκ4 : zM (zn κ1) κ1 κ4 := by rw [eκ4]; exact zM.of rfl rfl rfl
    replace F := F Wκ4
    refine y_aln dX4_act_119 rfl ?_
    refine y_ic dX4_act_120 zi_0 ?_
    have h7 := (ztm Wκ1 Mκ4 h5)
    refine pf_X4_92 Wκ4 dX4_act_121 rfl (Or.inl h7) (fun κ6 eκ6 => ?_)
    replace F := F κ6 eκ6
    have Wκ6 : zW C n0 κ6 := zW_ui Wκ4 eκ6 (fun h => absurd h (by decide))
    have Mκ6 : zM (zn κ4) κ4 κ6 := by rw [eκ6]; exact zM.of rfl rfl rfl
    replace F := F Wκ6
    refine y_aln dX4_act_124 rfl ?_
    refine y_iln dX4_act_125 rfl ?_
    refine y_aln dX4_act_126 rfl ?_
    have h8 := (ztm Wκ4 Mκ6 h7)
    refine gf_X4_11 Wκ6 dX4_act_127 rfl h8 ?_
    refine y_iln dX4_act_130 rfl ?_
    refine y_ic dX4_act_131 zi_0 ?_
    replace F := F (ty_maCode Wκ6 h8)
    refine k_X4_110 Wκ6 dX4_act_132 rfl (Nat.le_of_ble_eq_true rfl) (Nat.le_of_ble_eq_true rfl) (Or.inl (ty_maCode Wκ6 h8)) F (fun r10 κ9 Wκ9 Mκ9 F => ?_) (fun _ _ h9 => False.elim h9)
    replace F := F Wκ9 Mκ9
    have h14 := (ztm Wκ6 Mκ9 h8)
    replace F := F h14
    refine k_X4_123 Wκ9 dX4_act_135 rfl (Nat.le_of_ble_eq_true rfl) (Nat.le_of_ble_eq_true rfl) (Or.inl h14) F (fun  κ12 Wκ12 Mκ12 F => ?_) (fun _ _ h9 => False.elim h9)
    replace F := F Wκ12 Mκ12
    refine y_aln dX4_act_138 rfl ?_
    have h16 := (ztm Wκ9 Mκ12 h14)
    refine gf_X4_76 dX4_act_139 rfl (Or.inl h16) ?_
    refine y_ic dX4_act_142 zi_m1 ?_
    refine y_iin ((zI κ12 maWants a0) = (-1 : Int32)) dX4_act_143 (t := 157) rfl rfl (fun c9 => ?_) (fun c9 => ?_)
    · replace F := F.1 c9
      exact y_rv Wκ12 dX4_act_157 rfl F
    · replace F := F.2 c9
      refine y_aln dX4_act_146 rfl ?_
      refine gf_X4_79 dX4_act_147 rfl (Or.inl h16) ?_
      refine y_in ((zI κ12 maOutcome a0) = (0 : Int32)) dX4_act_150 (t := 157) rfl rfl (fun c9 => ?_) (fun c9 => ?_)
      · replace F := F.1 c9
        exact y_rv Wκ12 dX4_act_157 rfl F
      · replace F := F.2 c9
        refine y_aln dX4_act_153 rfl ?_
        replace F := F h16
        refine k_X4_95 Wκ12 dX4_act_154 rfl (Nat.le_of_ble_eq_true rfl) (Nat.le_of_ble_eq_true rfl) (Or.inl h16) F (fun  κ17 Wκ17 Mκ17 F => ?_) (fun _ _ h9 => False.elim h9)
        replace F := F Wκ17 Mκ17
        exact y_rv Wκ17 dX4_act_157 rfl F
  · replace F := F.2 c9
    refine y_aln dX4_act_99 rfl ?_
    refine y_ic dX4_act_100 zi_2 ?_
    refine pf_X4_79 W dX4_act_101 rfl (Or.inl Ta0) (fun κ20 eκ20 => ?_)
    replace F := F κ20 eκ20
    have Wκ20 : zW C n0 κ20 := zW_ui W eκ20 (fun h => absurd h (by decide))
    have Mκ20 : zM (zn κ) κ κ20 := by rw [eκ20]; exact zM.of rfl rfl rfl
    replace F := F Wκ20
    exact y_rv Wκ20 dX4_act_104 rfl F

def w_Ma_act_55 (C : zC) (n0 : Nat) (Q : zS → Prop)  (a0 : Nat) (a1 : Int32) (a2 : Int32) (a3 : Int32) (κ : zS) : Prop :=
  ∃ I : Nat → Nat → Int32 → Int32 → Int32 → zS → Prop, (∃ n, I n a0 a1 a2 a3 κ) ∧ ∀ n a0 a1 a2 a3 κ, zW C n0 κ → zT κ a0 = 7 → I n a0 a1 a2 a3 κ →
    (a2 ≤ a3 →
      w_Ma_act_92 C n0 Q  a0 a1 κ) ∧
    (¬ a2 ≤ a3 →
      ((Int32.ofNat (zN κ (zR κ maWorked a0))) ≤ a3 →
        w_Ma_act_92 C n0 Q  a0 a1 κ) ∧
      (¬ (Int32.ofNat (zN κ (zR κ maWorked a0))) ≤ a3 →
        (¬ (zI κ maFailure a0) = (0 : Int32) →
          w_Ma_act_92 C n0 Q  a0 a1 κ) ∧
        ((zI κ maFailure a0) = (0 : Int32) →
          ∀ _ : zT κ a0 = 7,
          zRun C 1 mMa_work [.ref a0] κ (oI (fun r2 κ1 =>
            ∀ _ : zW C n0 κ1,
            ∀ _ : zM (zn κ) κ κ1,
            inb a3 (zN κ1 (zR κ maWorked a0)) ∧
            ∀ κ4, κ4 = ua κ1 (zR κ maWorked a0) (a3).toNatClampNeg r2 →
            ∀ _ : zW C n0 κ4,
            ∀ v3_6 : Int32, v3_6 = a3 + (1 : Int32) →
            ∃ k < n, I k a0 a1 a2 v3_6 κ4) noX))))
theorem t_Ma_act_55 {C : zC} {n0 : Nat} {Q : zS → Prop}   {a0 : Nat} {a1 : Int32} {a2 : Int32} {a3 : Int32} {κ : zS} (W : zW C n0 κ) (Ta0 : zT κ a0 = 7) (F : w_Ma_act_55 C n0 Q  a0 a1 a2 a3 κ) : zG C n0 4 mMa_act 55 [some (.ref a0), some (.int a1), some (.int a2), some (.int a3)] [] κ (oV Q noX) := by
  obtain ⟨I, ⟨m0, hI0⟩, F0⟩ := F
  have key : ∀ n a0 a1 a2 a3 κ, zW C n0 κ → zT κ a0 = 7 → I n a0 a1 a2 a3 κ → zG C n0 4 mMa_act 55 [some (.ref a0), some (.int a1), some (.int a2), some (.int a3)] [] κ (oV Q noX) := by
    intro n
    induction n using Nat.strongRecOn with
    | _ n ih =>
      intro a0 a1 a2 a3 κ W Ta0 hI
      have F := F0 n a0 a1 a2 a3 κ W Ta0 hI
      clear hI hI0
      refine y_iln dX4_act_55 rfl ?_
      refine y_iln dX4_act_56 rfl ?_
      refine y_ii (a2 ≤ a3) dX4_act_57 (t := 92) rfl rfl (fun c9 => ?_) (fun c9 => ?_)
      · replace F := F.1 c9
        exact y_k (t_Ma_act_92  W Ta0 F) ⟨rfl, rfl, trivial⟩
      · replace F := F.2 c9
        refine y_iln dX4_act_60 rfl ?_
        refine y_aln dX4_act_61 rfl ?_
        refine gf_X4_22 W dX4_act_62 rfl Ta0 ?_
        refine y_alen (t := 0) dX4_act_65 (ty_maWorked W Ta0) (by decide) ?_
        refine y_ii ((Int32.ofNat (zN κ (zR κ maWorked a0))) ≤ a3) dX4_act_66 (t := 92) rfl rfl (fun c9 => ?_) (fun c9 => ?_)
        · replace F := F.1 c9
          exact y_k (t_Ma_act_92  W Ta0 F) ⟨rfl, rfl, trivial⟩
        · replace F := F.2 c9
          refine y_aln dX4_act_69 rfl ?_
          refine gf_X4_70 dX4_act_70 rfl (Or.inl Ta0) ?_
          refine y_in ((zI κ maFailure a0) = (0 : Int32)) dX4_act_73 (t := 92) rfl rfl (fun c9 => ?_) (fun c9 => ?_)
          · replace F := F.1 c9
            exact y_k (t_Ma_act_92  W Ta0 F) ⟨rfl, rfl, trivial⟩
          · replace F := F.2 c9
            refine y_aln dX4_act_76 rfl ?_
            refine gf_X4_22 W dX4_act_77 rfl Ta0 ?_
            refine y_iln dX4_act_80 rfl ?_
            refine y_aln dX4_act_81 rfl ?_
            replace F := F Ta0
            refine k_X4_120 W dX4_act_82 rfl (Nat.le_of_ble_eq_true rfl) (Nat.le_of_ble_eq_true rfl) (Or.inl Ta0) F (fun r2 κ1 Wκ1 Mκ1 F => ?_) (fun _ _ h9 => False.elim h9)
            replace F := F Wκ1 Mκ1
            have h5 := (ztm W Mκ1 (ty_maWorked W Ta0))
            refine y_ast Wκ1 dX4_act_85 h5 F.1 (fun κ4 eκ4 => ?_)
            replace F := F.2 κ4 eκ4
            have Wκ4 : zW C n0 κ4 := zW_ua Wκ1 eκ4 (fun h => absurd (h.symm.trans h5) (by decide)) (fun h => absurd (h.symm.trans h5) (by decide))
            have Mκ4 : zM (zn κ1) κ1 κ4 := by rw [eκ4]; exact zM.of rfl rfl rfl
            replace F := F Wκ4
            refine y_incb dX4_act_86 zi_1 rfl (Nat.le_of_ble_eq_true rfl) (fun v3_6 ev3_6 => ?_)
            replace F := F v3_6 ev3_6
            refine y_goto dX4_act_89 (t := 55) rfl ?_
            have h7 := (ztm Wκ1 Mκ4 (ztm W Mκ1 Ta0))
            obtain ⟨k, hk, hI⟩ := F
            exact y_k (ih k hk _ _ _ _ _ Wκ4 h7 hI) ⟨rfl, rfl, rfl, rfl, trivial⟩
  exact key m0 a0 a1 a2 a3 κ W Ta0 hI0

def w_Ma_act_0 (C : zC) (n0 : Nat) (Q : zS → Prop)  (a0 : Nat) (κ : zS) : Prop :=
  inb (zI κ maFrame a0) (zN κ (zR κ maMemory a0)) ∧
  ∀ v1_1 : Int32, v1_1 = (zA κ (zR κ maMemory a0) ((zI κ maFrame a0)).toNatClampNeg) →
  ∀ κ2, κ2 = ui κ maWants a0 (-1 : Int32) →
  ∀ _ : zW C n0 κ2,
  ∀ κ3, κ3 = ui κ2 maGained a0 (0 : Int32) →
  ∀ _ : zW C n0 κ3,
  ∀ κ5, κ5 = ui κ3 maFailure a0 (0 : Int32) →
  ∀ _ : zW C n0 κ5,
  ∀ _ : zT κ5 (zR κ5 maCode a0) = 5,
  zRun C 0 mCo_column [.ref (zR κ5 maCode a0), .int v1_1, .int (3 : Int32)] κ5 (oI (fun r9 κ8 =>
    ∀ _ : zW C n0 κ8,
    ∀ _ : zM (zn κ5) κ5 κ8,
    ∀ κ11, κ11 = ui κ8 maPc a0 r9 →
    ∀ _ : zW C n0 κ11,
    ∀ _ : zT κ11 a0 = 7,
    zRun C 2 mMa_aim [.ref a0, .int v1_1] κ11 (oV (fun κ13 =>
      ∀ _ : zW C n0 κ13,
      ∀ _ : zM (zn κ11) κ11 κ13,
      ∀ _ : zT κ13 (zR κ13 maCode a0) = 5,
      zRun C 0 mCo_column [.ref (zR κ13 maCode a0), .int v1_1, .int (4 : Int32)] κ13 (oI (fun r19 κ18 =>
        ∀ _ : zW C n0 κ18,
        ∀ _ : zM (zn κ13) κ13 κ18,
        w_Ma_act_55 C n0 Q  a0 v1_1 r19 (0 : Int32) κ18) noX)) noX)) noX)
theorem t_Ma_act_0 {C : zC} {n0 : Nat} {Q : zS → Prop}   {a0 : Nat} {κ : zS} (W : zW C n0 κ) (Ta0 : zT κ a0 = 7) (F : w_Ma_act_0 C n0 Q  a0 κ) : zG C n0 4 mMa_act 0 [some (.ref a0), none, none, none] [] κ (oV Q noX) := by
  unfold w_Ma_act_0 at F
  refine y_aln dX4_act_0 rfl ?_
  refine gf_X4_15 W dX4_act_1 rfl Ta0 ?_
  refine y_aln dX4_act_4 rfl ?_
  refine gf_X4_67 dX4_act_5 rfl (Or.inl Ta0) ?_
  refine y_ald dX4_act_8 (ty_maMemory W Ta0) F.1 ?_
  replace F := F.2
  refine y_isnb dX4_act_9 (Nat.le_of_ble_eq_true rfl) (fun v1_1 ev1_1 => ?_)
  replace F := F v1_1 ev1_1
  refine y_aln dX4_act_10 rfl ?_
  refine y_ic dX4_act_11 zi_m1 ?_
  refine pf_X4_76 W dX4_act_12 rfl (Or.inl Ta0) (fun κ2 eκ2 => ?_)
  replace F := F κ2 eκ2
  have Wκ2 : zW C n0 κ2 := zW_ui W eκ2 (fun h => absurd h (by decide))
  have Mκ2 : zM (zn κ) κ κ2 := by rw [eκ2]; exact zM.of rfl rfl rfl
  replace F := F Wκ2
  refine y_aln dX4_act_15 rfl ?_
  refine y_ic dX4_act_16 zi_0 ?_
  have h4 := (ztm W Mκ2 Ta0)
  refine pf_X4_73 Wκ2 dX4_act_17 rfl (Or.inl h4) (fun κ3 eκ3 => ?_)
  replace F := F κ3 eκ3
  have Wκ3 : zW C n0 κ3 := zW_ui Wκ2 eκ3 (fun h => absurd h (by decide))
  have Mκ3 : zM (zn κ2) κ2 κ3 := by rw [eκ3]; exact zM.of rfl rfl rfl
  replace F := F Wκ3
  refine y_aln dX4_act_20 rfl ?_
  refine y_ic dX4_act_21 zi_0 ?_
  have h6 := (ztm Wκ2 Mκ3 h4)
  refine pf_X4_70 Wκ3 dX4_act_22 rfl (Or.inl h6) (fun κ5 eκ5 => ?_)
  replace F := F κ5 eκ5
  have Wκ5 : zW C n0 κ5 := zW_ui Wκ3 eκ5 (fun h => absurd h (by decide))
  have Mκ5 : zM (zn κ3) κ3 κ5 := by rw [eκ5]; exact zM.of rfl rfl rfl
  replace F := F Wκ5
  refine y_aln dX4_act_25 rfl ?_
  refine y_aln dX4_act_26 rfl ?_
  have h7 := (ztm Wκ3 Mκ5 h6)
  refine gf_X4_11 Wκ5 dX4_act_27 rfl h7 ?_
  refine y_iln dX4_act_30 rfl ?_
  refine y_ic dX4_act_31 zi_3 ?_
  replace F := F (ty_maCode Wκ5 h7)
  refine k_X4_110 Wκ5 dX4_act_32 rfl (Nat.le_of_ble_eq_true rfl) (Nat.le_of_ble_eq_true rfl) (Or.inl (ty_maCode Wκ5 h7)) F (fun r9 κ8 Wκ8 Mκ8 F => ?_) (fun _ _ h9 => False.elim h9)
  replace F := F Wκ8 Mκ8
  have h12 := (ztm Wκ5 Mκ8 h7)
  refine pf_X4_113 Wκ8 dX4_act_35 rfl (Or.inl h12) (fun κ11 eκ11 => ?_)
  replace F := F κ11 eκ11
  have Wκ11 : zW C n0 κ11 := zW_ui Wκ8 eκ11 (fun h => absurd h (by decide))
  have Mκ11 : zM (zn κ8) κ8 κ11 := by rw [eκ11]; exact zM.of rfl rfl rfl
  replace F := F Wκ11
  refine y_aln dX4_act_38 rfl ?_
  refine y_iln dX4_act_39 rfl ?_
  have h15 := (ztm Wκ8 Mκ11 h12)
  replace F := F h15
  refine k_X4_116 Wκ11 dX4_act_40 rfl (Nat.le_of_ble_eq_true rfl) (Nat.le_of_ble_eq_true rfl) (Or.inl h15) F (fun  κ13 Wκ13 Mκ13 F => ?_) (fun _ _ h9 => False.elim h9)
  replace F := F Wκ13 Mκ13
  refine y_aln dX4_act_43 rfl ?_
  have h17 := (ztm Wκ11 Mκ13 h15)
  refine gf_X4_11 Wκ13 dX4_act_44 rfl h17 ?_
  refine y_iln dX4_act_47 rfl ?_
  refine y_ic dX4_act_48 zi_4 ?_
  replace F := F (ty_maCode Wκ13 h17)
  refine k_X4_110 Wκ13 dX4_act_49 rfl (Nat.le_of_ble_eq_true rfl) (Nat.le_of_ble_eq_true rfl) (Or.inl (ty_maCode Wκ13 h17)) F (fun r19 κ18 Wκ18 Mκ18 F => ?_) (fun _ _ h9 => False.elim h9)
  replace F := F Wκ18 Mκ18
  refine y_isn dX4_act_52 (Nat.le_of_ble_eq_true rfl) rfl ?_
  refine y_ic dX4_act_53 zi_0 ?_
  refine y_isn dX4_act_54 (Nat.le_of_ble_eq_true rfl) rfl ?_
  have h21 := (ztm Wκ13 Mκ18 h17)
  exact y_k (t_Ma_act_55  Wκ18 h21 F) ⟨rfl, rfl, rfl, rfl, trivial⟩

theorem Ma_act_run {C : zC} {n0 : Nat} {Q : zS → Prop} {a0 : Nat} {κ : zS} (W : zW C n0 κ) (Ta0 : zT κ a0 = 7) (F : w_Ma_act_0 C (zn κ) Q a0 κ) : zRun C 4 mMa_act [.ref a0] κ (oV Q noX) := z_run (m_ent _ 3) (t_Ma_act_0 (W.lo (Nat.le_trans W.1.2.1 W.1.2.2) (Nat.le_refl _)) Ta0 F)

theorem dX3_copyTo_0 : decode cX3_copyTo 0 = .ok (.aload_n 0, 1) := by decide +kernel
theorem dX3_copyTo_1 : decode cX3_copyTo 1 = .ok (.iload_n 1, 1) := by decide +kernel
theorem dX3_copyTo_2 : decode cX3_copyTo 2 = .ok (.invokevirtual 40, 3) := by decide +kernel
theorem dX3_copyTo_5 : decode cX3_copyTo 5 = .ok (.aload_n 2, 1) := by decide +kernel
theorem dX3_copyTo_6 : decode cX3_copyTo 6 = .ok (.arraylength, 1) := by decide +kernel
theorem dX3_copyTo_7 : decode cX3_copyTo 7 = .ok (.invokestatic 44, 3) := by decide +kernel
theorem dX3_copyTo_10 : decode cX3_copyTo 10 = .ok (.istore_n 3, 1) := by decide +kernel
theorem dX3_copyTo_11 : decode cX3_copyTo 11 = .ok (.iload_n 3, 1) := by decide +kernel
theorem dX3_copyTo_12 : decode cX3_copyTo 12 = .ok (.ifCond .le 19, 3) := by decide +kernel
theorem dX3_copyTo_15 : decode cX3_copyTo 15 = .ok (.aload_n 0, 1) := by decide +kernel
theorem dX3_copyTo_16 : decode cX3_copyTo 16 = .ok (.getfield 28, 3) := by decide +kernel
theorem dX3_copyTo_19 : decode cX3_copyTo 19 = .ok (.aload_n 0, 1) := by decide +kernel
theorem dX3_copyTo_20 : decode cX3_copyTo 20 = .ok (.getfield 21, 3) := by decide +kernel
theorem dX3_copyTo_23 : decode cX3_copyTo 23 = .ok (.iload_n 1, 1) := by decide +kernel
theorem dX3_copyTo_24 : decode cX3_copyTo 24 = .ok (.iaload, 1) := by decide +kernel
theorem dX3_copyTo_25 : decode cX3_copyTo 25 = .ok (.aload_n 2, 1) := by decide +kernel
theorem dX3_copyTo_26 : decode cX3_copyTo 26 = .ok (.iconst 0, 1) := by decide +kernel
theorem dX3_copyTo_27 : decode cX3_copyTo 27 = .ok (.iload_n 3, 1) := by decide +kernel
theorem dX3_copyTo_28 : decode cX3_copyTo 28 = .ok (.invokestatic 50, 3) := by decide +kernel
theorem dX3_copyTo_31 : decode cX3_copyTo 31 = .ok (.return_, 1) := by decide +kernel
def w_Ho_copyTo_0 (C : zC) (n0 : Nat) (Q : zS → Prop)  (a0 : Nat) (a1 : Int32) (a2 : Nat) (κ : zS) : Prop :=
  ∀ _ : zT κ a0 = 6,
  zRun C 0 mHo_lengthOf [.ref a0, .int a1] κ (oI (fun r2 κ1 =>
    ∀ _ : zW C n0 κ1,
    ∀ _ : zM (zn κ) κ κ1,
    ∀ v3_5 : Int32, v3_5 = (if (Int32.ofNat (zN κ1 a2)) < r2 then (Int32.ofNat (zN κ1 a2)) else r2) →
    (v3_5 ≤ (0 : Int32) →
      Q κ1) ∧
    (¬ v3_5 ≤ (0 : Int32) →
      inb a1 (zN κ1 (zR κ1 hoStarts a0)) ∧
      cpo κ1 (zR κ1 hoPool a0) a2 (zA κ1 (zR κ1 hoStarts a0) (a1).toNatClampNeg) (0 : Int32) v3_5 ∧
      ∀ κ7, κ7 = uc κ1 (zR κ1 hoPool a0) a2 ((zA κ1 (zR κ1 hoStarts a0) (a1).toNatClampNeg)).toNatClampNeg ((0 : Int32)).toNatClampNeg (v3_5).toNatClampNeg →
      ∀ _ : zW C n0 κ7,
      Q κ7)) noX)
theorem t_Ho_copyTo_0 {C : zC} {n0 : Nat} {Q : zS → Prop}   {a0 : Nat} {a1 : Int32} {a2 : Nat} {κ : zS} (W : zW C n0 κ) (Ta0 : zT κ a0 = 6) (Ta2 : zT κ a2 = 20) (F : w_Ho_copyTo_0 C n0 Q  a0 a1 a2 κ) : zG C n0 1 mHo_copyTo 0 [some (.ref a0), some (.int a1), some (.ref a2), none] [] κ (oV Q noX) := by
  unfold w_Ho_copyTo_0 at F
  refine y_aln dX3_copyTo_0 rfl ?_
  refine y_iln dX3_copyTo_1 rfl ?_
  replace F := F Ta0
  refine k_X3_40 W dX3_copyTo_2 rfl (Nat.le_of_ble_eq_true rfl) (Nat.le_of_ble_eq_true rfl) (Or.inl Ta0) F (fun r2 κ1 Wκ1 Mκ1 F => ?_) (fun _ _ h9 => False.elim h9)
  replace F := F Wκ1 Mκ1
  refine y_aln dX3_copyTo_5 rfl ?_
  have h4 := (ztm W Mκ1 Ta2)
  refine y_alen (t := 0) dX3_copyTo_6 h4 (by decide) ?_
  refine y_min dX3_copyTo_7 rfl zbi_X3_44 (Nat.le_of_ble_eq_true rfl) (Nat.le_of_ble_eq_true rfl) ?_
  refine y_isnb dX3_copyTo_10 (Nat.le_of_ble_eq_true rfl) (fun v3_5 ev3_5 => ?_)
  replace F := F v3_5 ev3_5
  refine y_iln dX3_copyTo_11 rfl ?_
  refine y_i (v3_5 ≤ (0 : Int32)) dX3_copyTo_12 (t := 31) rfl rfl (fun c9 => ?_) (fun c9 => ?_)
  · replace F := F.1 c9
    exact y_rv Wκ1 dX3_copyTo_31 rfl F
  · replace F := F.2 c9
    refine y_aln dX3_copyTo_15 rfl ?_
    have h6 := (ztm W Mκ1 Ta0)
    refine gf_X3_28 Wκ1 dX3_copyTo_16 rfl h6 ?_
    refine y_aln dX3_copyTo_19 rfl ?_
    refine gf_X3_21 Wκ1 dX3_copyTo_20 rfl h6 ?_
    refine y_iln dX3_copyTo_23 rfl ?_
    refine y_ald dX3_copyTo_24 (ty_hoStarts Wκ1 h6) F.1 ?_
    replace F := F.2
    refine y_aln dX3_copyTo_25 rfl ?_
    refine y_ic dX3_copyTo_26 zi_0 ?_
    refine y_iln dX3_copyTo_27 rfl ?_
    refine y_cpy (t := 0) Wκ1 dX3_copyTo_28 rfl zbi_X3_50 (ty_hoPool Wκ1 h6) h4 (by decide) (Nat.le_of_ble_eq_true rfl) (Nat.le_of_ble_eq_true rfl) F.1 (fun κ7 eκ7 => ?_)
    replace F := F.2 κ7 eκ7
    have Wκ7 : zW C n0 κ7 := zW_uc Wκ1 eκ7 ((ty_hoPool Wκ1 h6).trans h4.symm)
    have Mκ7 : zM (zn κ1) κ1 κ7 := by rw [eκ7]; exact zM.of rfl rfl rfl
    replace F := F Wκ7
    exact y_rv Wκ7 dX3_copyTo_31 rfl F

theorem Ho_copyTo_run {C : zC} {n0 : Nat} {Q : zS → Prop} {a0 : Nat} {a1 : Int32} {a2 : Nat} {κ : zS} (W : zW C n0 κ) (Ta0 : zT κ a0 = 6) (Ta2 : zT κ a2 = 20) (F : w_Ho_copyTo_0 C (zn κ) Q a0 a1 a2 κ) : zRun C 1 mHo_copyTo [.ref a0, .int a1, .ref a2] κ (oV Q noX) := z_run (m_ent _ 1) (t_Ho_copyTo_0 (W.lo (Nat.le_trans W.1.2.1 W.1.2.2) (Nat.le_refl _)) Ta0 Ta2 F)

theorem dX4_load_0 : decode cX4_load 0 = .ok (.aload_n 1, 1) := by decide +kernel
theorem dX4_load_1 : decode cX4_load 1 = .ok (.iload_n 2, 1) := by decide +kernel
theorem dX4_load_2 : decode cX4_load 2 = .ok (.aload_n 0, 1) := by decide +kernel
theorem dX4_load_3 : decode cX4_load 3 = .ok (.getfield 15, 3) := by decide +kernel
theorem dX4_load_6 : decode cX4_load 6 = .ok (.invokevirtual 98, 3) := by decide +kernel
theorem dX4_load_9 : decode cX4_load 9 = .ok (.aload_n 0, 1) := by decide +kernel
theorem dX4_load_10 : decode cX4_load 10 = .ok (.aload_n 1, 1) := by decide +kernel
theorem dX4_load_11 : decode cX4_load 11 = .ok (.iload_n 2, 1) := by decide +kernel
theorem dX4_load_12 : decode cX4_load 12 = .ok (.invokevirtual 104, 3) := by decide +kernel
theorem dX4_load_15 : decode cX4_load 15 = .ok (.aload_n 0, 1) := by decide +kernel
theorem dX4_load_16 : decode cX4_load 16 = .ok (.getfield 43, 3) := by decide +kernel
theorem dX4_load_19 : decode cX4_load 19 = .ok (.isub, 1) := by decide +kernel
theorem dX4_load_20 : decode cX4_load 20 = .ok (.bipush 9, 2) := by decide +kernel
theorem dX4_load_22 : decode cX4_load 22 = .ok (.idiv, 1) := by decide +kernel
theorem dX4_load_23 : decode cX4_load 23 = .ok (.iconst 1, 1) := by decide +kernel
theorem dX4_load_24 : decode cX4_load 24 = .ok (.invokestatic 107, 3) := by decide +kernel
theorem dX4_load_27 : decode cX4_load 27 = .ok (.putfield 64, 3) := by decide +kernel
theorem dX4_load_30 : decode cX4_load 30 = .ok (.aload_n 0, 1) := by decide +kernel
theorem dX4_load_31 : decode cX4_load 31 = .ok (.aload_n 0, 1) := by decide +kernel
theorem dX4_load_32 : decode cX4_load 32 = .ok (.getfield 43, 3) := by decide +kernel
theorem dX4_load_35 : decode cX4_load 35 = .ok (.aload_n 0, 1) := by decide +kernel
theorem dX4_load_36 : decode cX4_load 36 = .ok (.getfield 64, 3) := by decide +kernel
theorem dX4_load_39 : decode cX4_load 39 = .ok (.iconst 1, 1) := by decide +kernel
theorem dX4_load_40 : decode cX4_load 40 = .ok (.isub, 1) := by decide +kernel
theorem dX4_load_41 : decode cX4_load 41 = .ok (.bipush 9, 2) := by decide +kernel
theorem dX4_load_43 : decode cX4_load 43 = .ok (.imul, 1) := by decide +kernel
theorem dX4_load_44 : decode cX4_load 44 = .ok (.iadd, 1) := by decide +kernel
theorem dX4_load_45 : decode cX4_load 45 = .ok (.putfield 67, 3) := by decide +kernel
theorem dX4_load_48 : decode cX4_load 48 = .ok (.aload_n 0, 1) := by decide +kernel
theorem dX4_load_49 : decode cX4_load 49 = .ok (.iconst 0, 1) := by decide +kernel
theorem dX4_load_50 : decode cX4_load 50 = .ok (.putfield 79, 3) := by decide +kernel
theorem dX4_load_53 : decode cX4_load 53 = .ok (.return_, 1) := by decide +kernel
def w_Ma_load_0 (C : zC) (n0 : Nat) (Q : zS → Prop)  (a0 : Nat) (a1 : Nat) (a2 : Int32) (κ : zS) : Prop :=
  ∀ _ : zT κ a1 = 6,
  ∀ _ : zT κ (zR κ maMemory a0) = 20,
  zRun C 1 mHo_copyTo [.ref a1, .int a2, .ref (zR κ maMemory a0)] κ (oV (fun κ1 =>
    ∀ _ : zW C n0 κ1,
    ∀ _ : zM (zn κ) κ κ1,
    ∀ _ : zT κ1 a1 = 6,
    zRun C 0 mHo_lengthOf [.ref a1, .int a2] κ1 (oI (fun r5 κ4 =>
      ∀ _ : zW C n0 κ4,
      ∀ _ : zM (zn κ1) κ1 κ4,
      ¬ (9 : Int32) = 0 ∧
      ∀ κ9, κ9 = ui κ4 maOpen a0 (if ((r5 - (zI κ4 maShared a0)) / (9 : Int32)) < (1 : Int32) then (1 : Int32) else ((r5 - (zI κ4 maShared a0)) / (9 : Int32))) →
      ∀ _ : zW C n0 κ9,
      ∀ κ11, κ11 = ui κ9 maFrame a0 ((zI κ9 maShared a0) + (((zI κ9 maOpen a0) - (1 : Int32)) * (9 : Int32))) →
      ∀ _ : zW C n0 κ11,
      ∀ κ12, κ12 = ui κ11 maOutcome a0 (0 : Int32) →
      ∀ _ : zW C n0 κ12,
      Q κ12) noX)) noX)
theorem t_Ma_load_0 {C : zC} {n0 : Nat} {Q : zS → Prop}   {a0 : Nat} {a1 : Nat} {a2 : Int32} {κ : zS} (W : zW C n0 κ) (Ta0 : zT κ a0 = 7) (Ta1 : zT κ a1 = 6) (F : w_Ma_load_0 C n0 Q  a0 a1 a2 κ) : zG C n0 2 mMa_load 0 [some (.ref a0), some (.ref a1), some (.int a2)] [] κ (oV Q noX) := by
  unfold w_Ma_load_0 at F
  refine y_aln dX4_load_0 rfl ?_
  refine y_iln dX4_load_1 rfl ?_
  refine y_aln dX4_load_2 rfl ?_
  refine gf_X4_15 W dX4_load_3 rfl Ta0 ?_
  replace F := F Ta1
  replace F := F (ty_maMemory W Ta0)
  refine k_X4_98 W dX4_load_6 rfl (Nat.le_of_ble_eq_true rfl) (Nat.le_of_ble_eq_true rfl) (Or.inl Ta1) F (fun  κ1 Wκ1 Mκ1 F => ?_) (fun _ _ h9 => False.elim h9)
  replace F := F Wκ1 Mκ1
  refine y_aln dX4_load_9 rfl ?_
  refine y_aln dX4_load_10 rfl ?_
  refine y_iln dX4_load_11 rfl ?_
  have h6 := (ztm W Mκ1 Ta1)
  replace F := F h6
  refine k_X4_104 Wκ1 dX4_load_12 rfl (Nat.le_of_ble_eq_true rfl) (Nat.le_of_ble_eq_true rfl) (Or.inl h6) F (fun r5 κ4 Wκ4 Mκ4 F => ?_) (fun _ _ h9 => False.elim h9)
  replace F := F Wκ4 Mκ4
  refine y_aln dX4_load_15 rfl ?_
  have h8 := (ztm Wκ1 Mκ4 (ztm W Mκ1 Ta0))
  refine gf_X4_43 dX4_load_16 rfl (Or.inl h8) ?_
  refine y_isub dX4_load_19 ?_
  refine y_bi1 dX4_load_20 zb_9 ?_
  refine y_div dX4_load_22 F.1 ?_
  replace F := F.2
  refine y_ic dX4_load_23 zi_1 ?_
  refine y_max dX4_load_24 rfl zbi_X4_107 (Nat.le_of_ble_eq_true rfl) (Nat.le_of_ble_eq_true rfl) ?_
  refine pf_X4_64 Wκ4 dX4_load_27 rfl (Or.inl h8) (fun κ9 eκ9 => ?_)
  replace F := F κ9 eκ9
  have Wκ9 : zW C n0 κ9 := zW_ui Wκ4 eκ9 (fun h => absurd h (by decide))
  have Mκ9 : zM (zn κ4) κ4 κ9 := by rw [eκ9]; exact zM.of rfl rfl rfl
  replace F := F Wκ9
  refine y_aln dX4_load_30 rfl ?_
  refine y_aln dX4_load_31 rfl ?_
  have h10 := (ztm Wκ4 Mκ9 h8)
  refine gf_X4_43 dX4_load_32 rfl (Or.inl h10) ?_
  refine y_aln dX4_load_35 rfl ?_
  refine gf_X4_64 dX4_load_36 rfl (Or.inl h10) ?_
  refine y_ic dX4_load_39 zi_1 ?_
  refine y_isub dX4_load_40 ?_
  refine y_bi1 dX4_load_41 zb_9 ?_
  refine y_imul dX4_load_43 ?_
  refine y_iadd dX4_load_44 ?_
  refine pf_X4_67 Wκ9 dX4_load_45 rfl (Or.inl h10) (fun κ11 eκ11 => ?_)
  replace F := F κ11 eκ11
  have Wκ11 : zW C n0 κ11 := zW_ui Wκ9 eκ11 (fun h => absurd h (by decide))
  have Mκ11 : zM (zn κ9) κ9 κ11 := by rw [eκ11]; exact zM.of rfl rfl rfl
  replace F := F Wκ11
  refine y_aln dX4_load_48 rfl ?_
  refine y_ic dX4_load_49 zi_0 ?_
  have h13 := (ztm Wκ9 Mκ11 h10)
  refine pf_X4_79 Wκ11 dX4_load_50 rfl (Or.inl h13) (fun κ12 eκ12 => ?_)
  replace F := F κ12 eκ12
  have Wκ12 : zW C n0 κ12 := zW_ui Wκ11 eκ12 (fun h => absurd h (by decide))
  have Mκ12 : zM (zn κ11) κ11 κ12 := by rw [eκ12]; exact zM.of rfl rfl rfl
  replace F := F Wκ12
  exact y_rv Wκ12 dX4_load_53 rfl F

theorem Ma_load_run {C : zC} {n0 : Nat} {Q : zS → Prop} {a0 : Nat} {a1 : Nat} {a2 : Int32} {κ : zS} (W : zW C n0 κ) (Ta0 : zT κ a0 = 7) (Ta1 : zT κ a1 = 6) (F : w_Ma_load_0 C (zn κ) Q a0 a1 a2 κ) : zRun C 2 mMa_load [.ref a0, .ref a1, .int a2] κ (oV Q noX) := z_run (m_ent _ 0) (t_Ma_load_0 (W.lo (Nat.le_trans W.1.2.1 W.1.2.2) (Nat.le_refl _)) Ta0 Ta1 F)

theorem dX4_settle_0 : decode cX4_settle 0 = .ok (.iload_n 1, 1) := by decide +kernel
theorem dX4_settle_1 : decode cX4_settle 1 = .ok (.ifCond .lt 25, 3) := by decide +kernel
theorem dX4_settle_4 : decode cX4_settle 4 = .ok (.iload_n 1, 1) := by decide +kernel
theorem dX4_settle_5 : decode cX4_settle 5 = .ok (.aload_n 0, 1) := by decide +kernel
theorem dX4_settle_6 : decode cX4_settle 6 = .ok (.getfield 163, 3) := by decide +kernel
theorem dX4_settle_9 : decode cX4_settle 9 = .ok (.if_icmp .ge 17, 3) := by decide +kernel
theorem dX4_settle_12 : decode cX4_settle 12 = .ok (.aload_n 0, 1) := by decide +kernel
theorem dX4_settle_13 : decode cX4_settle 13 = .ok (.aload_n 0, 1) := by decide +kernel
theorem dX4_settle_14 : decode cX4_settle 14 = .ok (.getfield 130, 3) := by decide +kernel
theorem dX4_settle_17 : decode cX4_settle 17 = .ok (.aload_n 0, 1) := by decide +kernel
theorem dX4_settle_18 : decode cX4_settle 18 = .ok (.getfield 25, 3) := by decide +kernel
theorem dX4_settle_21 : decode cX4_settle 21 = .ok (.iload_n 1, 1) := by decide +kernel
theorem dX4_settle_22 : decode cX4_settle 22 = .ok (.iaload, 1) := by decide +kernel
theorem dX4_settle_23 : decode cX4_settle 23 = .ok (.invokevirtual 142, 3) := by decide +kernel
theorem dX4_settle_26 : decode cX4_settle 26 = .ok (.aload_n 0, 1) := by decide +kernel
theorem dX4_settle_27 : decode cX4_settle 27 = .ok (.aload_n 0, 1) := by decide +kernel
theorem dX4_settle_28 : decode cX4_settle 28 = .ok (.getfield 11, 3) := by decide +kernel
theorem dX4_settle_31 : decode cX4_settle 31 = .ok (.aload_n 0, 1) := by decide +kernel
theorem dX4_settle_32 : decode cX4_settle 32 = .ok (.getfield 15, 3) := by decide +kernel
theorem dX4_settle_35 : decode cX4_settle 35 = .ok (.aload_n 0, 1) := by decide +kernel
theorem dX4_settle_36 : decode cX4_settle 36 = .ok (.getfield 67, 3) := by decide +kernel
theorem dX4_settle_39 : decode cX4_settle 39 = .ok (.iaload, 1) := by decide +kernel
theorem dX4_settle_40 : decode cX4_settle 40 = .ok (.bipush 8, 2) := by decide +kernel
theorem dX4_settle_42 : decode cX4_settle 42 = .ok (.invokevirtual 110, 3) := by decide +kernel
theorem dX4_settle_45 : decode cX4_settle 45 = .ok (.putfield 89, 3) := by decide +kernel
theorem dX4_settle_48 : decode cX4_settle 48 = .ok (.aload_n 0, 1) := by decide +kernel
theorem dX4_settle_49 : decode cX4_settle 49 = .ok (.iconst 0, 1) := by decide +kernel
theorem dX4_settle_50 : decode cX4_settle 50 = .ok (.putfield 92, 3) := by decide +kernel
theorem dX4_settle_53 : decode cX4_settle 53 = .ok (.aload_n 0, 1) := by decide +kernel
theorem dX4_settle_54 : decode cX4_settle 54 = .ok (.invokevirtual 95, 3) := by decide +kernel
theorem dX4_settle_57 : decode cX4_settle 57 = .ok (.return_, 1) := by decide +kernel
def w_Ma_settle_26 (C : zC) (n0 : Nat) (Q : zS → Prop)  (a0 : Nat) (κ : zS) : Prop :=
  inb (zI κ maFrame a0) (zN κ (zR κ maMemory a0)) ∧
  ∀ _ : zT κ (zR κ maCode a0) = 5,
  zRun C 0 mCo_column [.ref (zR κ maCode a0), .int (zA κ (zR κ maMemory a0) ((zI κ maFrame a0)).toNatClampNeg), .int (8 : Int32)] κ (oI (fun r2 κ1 =>
    ∀ _ : zW C n0 κ1,
    ∀ _ : zM (zn κ) κ κ1,
    ∀ κ4, κ4 = ui κ1 maGoing a0 r2 →
    ∀ _ : zW C n0 κ4,
    ∀ κ6, κ6 = ui κ4 maAnswer a0 (0 : Int32) →
    ∀ _ : zW C n0 κ6,
    ∀ _ : zT κ6 a0 = 7,
    zRun C 1 mMa_proceed [.ref a0] κ6 (oV (fun κ8 =>
      ∀ _ : zW C n0 κ8,
      ∀ _ : zM (zn κ6) κ6 κ8,
      Q κ8) noX)) noX)
theorem t_Ma_settle_26 {C : zC} {n0 : Nat} {Q : zS → Prop}   {a0 : Nat} {κ : zS} (W : zW C n0 κ) (Ta0 : zT κ a0 = 7) (F : w_Ma_settle_26 C n0 Q  a0 κ) : zG C n0 2 mMa_settle 26 [some (.ref a0), none] [] κ (oV Q noX) := by
  unfold w_Ma_settle_26 at F
  refine y_aln dX4_settle_26 rfl ?_
  refine y_aln dX4_settle_27 rfl ?_
  refine gf_X4_11 W dX4_settle_28 rfl Ta0 ?_
  refine y_aln dX4_settle_31 rfl ?_
  refine gf_X4_15 W dX4_settle_32 rfl Ta0 ?_
  refine y_aln dX4_settle_35 rfl ?_
  refine gf_X4_67 dX4_settle_36 rfl (Or.inl Ta0) ?_
  refine y_ald dX4_settle_39 (ty_maMemory W Ta0) F.1 ?_
  replace F := F.2
  refine y_bi1 dX4_settle_40 zb_8 ?_
  replace F := F (ty_maCode W Ta0)
  refine k_X4_110 W dX4_settle_42 rfl (Nat.le_of_ble_eq_true rfl) (Nat.le_of_ble_eq_true rfl) (Or.inl (ty_maCode W Ta0)) F (fun r2 κ1 Wκ1 Mκ1 F => ?_) (fun _ _ h9 => False.elim h9)
  replace F := F Wκ1 Mκ1
  have h5 := (ztm W Mκ1 Ta0)
  refine pf_X4_89 Wκ1 dX4_settle_45 rfl (Or.inl h5) (fun κ4 eκ4 => ?_)
  replace F := F κ4 eκ4
  have Wκ4 : zW C n0 κ4 := zW_ui Wκ1 eκ4 (fun h => absurd h (by decide))
  have Mκ4 : zM (zn κ1) κ1 κ4 := by rw [eκ4]; exact zM.of rfl rfl rfl
  replace F := F Wκ4
  refine y_aln dX4_settle_48 rfl ?_
  refine y_ic dX4_settle_49 zi_0 ?_
  have h7 := (ztm Wκ1 Mκ4 h5)
  refine pf_X4_92 Wκ4 dX4_settle_50 rfl (Or.inl h7) (fun κ6 eκ6 => ?_)
  replace F := F κ6 eκ6
  have Wκ6 : zW C n0 κ6 := zW_ui Wκ4 eκ6 (fun h => absurd h (by decide))
  have Mκ6 : zM (zn κ4) κ4 κ6 := by rw [eκ6]; exact zM.of rfl rfl rfl
  replace F := F Wκ6
  refine y_aln dX4_settle_53 rfl ?_
  have h10 := (ztm Wκ4 Mκ6 h7)
  replace F := F h10
  refine k_X4_95 Wκ6 dX4_settle_54 rfl (Nat.le_of_ble_eq_true rfl) (Nat.le_of_ble_eq_true rfl) (Or.inl h10) F (fun  κ8 Wκ8 Mκ8 F => ?_) (fun _ _ h9 => False.elim h9)
  replace F := F Wκ8 Mκ8
  exact y_rv Wκ8 dX4_settle_57 rfl F

def w_Ma_settle_0 (C : zC) (n0 : Nat) (Q : zS → Prop)  (a0 : Nat) (a1 : Int32) (κ : zS) : Prop :=
  (a1 < (0 : Int32) →
    w_Ma_settle_26 C n0 Q  a0 κ) ∧
  (¬ a1 < (0 : Int32) →
    ((zI κ maWays a0) ≤ a1 →
      w_Ma_settle_26 C n0 Q  a0 κ) ∧
    (¬ (zI κ maWays a0) ≤ a1 →
      inb a1 (zN κ (zR κ maValues a0)) ∧
      ∀ _ : zT κ a0 = 7,
      zRun C 0 mMa_put [.ref a0, .int (zI κ maTarget a0), .int (zA κ (zR κ maValues a0) (a1).toNatClampNeg)] κ (oV (fun κ1 =>
        ∀ _ : zW C n0 κ1,
        ∀ _ : zM (zn κ) κ κ1,
        w_Ma_settle_26 C n0 Q  a0 κ1) noX)))
theorem t_Ma_settle_0 {C : zC} {n0 : Nat} {Q : zS → Prop}   {a0 : Nat} {a1 : Int32} {κ : zS} (W : zW C n0 κ) (Ta0 : zT κ a0 = 7) (F : w_Ma_settle_0 C n0 Q  a0 a1 κ) : zG C n0 2 mMa_settle 0 [some (.ref a0), some (.int a1)] [] κ (oV Q noX) := by
  unfold w_Ma_settle_0 at F
  refine y_iln dX4_settle_0 rfl ?_
  refine y_i (a1 < (0 : Int32)) dX4_settle_1 (t := 26) rfl rfl (fun c9 => ?_) (fun c9 => ?_)
  · replace F := F.1 c9
    exact y_k (t_Ma_settle_26  W Ta0 F) ⟨rfl, trivial⟩
  · replace F := F.2 c9
    refine y_iln dX4_settle_4 rfl ?_
    refine y_aln dX4_settle_5 rfl ?_
    refine gf_X4_163 dX4_settle_6 rfl (Or.inl Ta0) ?_
    refine y_ii ((zI κ maWays a0) ≤ a1) dX4_settle_9 (t := 26) rfl rfl (fun c9 => ?_) (fun c9 => ?_)
    · replace F := F.1 c9
      exact y_k (t_Ma_settle_26  W Ta0 F) ⟨rfl, trivial⟩
    · replace F := F.2 c9
      refine y_aln dX4_settle_12 rfl ?_
      refine y_aln dX4_settle_13 rfl ?_
      refine gf_X4_130 dX4_settle_14 rfl (Or.inl Ta0) ?_
      refine y_aln dX4_settle_17 rfl ?_
      refine gf_X4_25 W dX4_settle_18 rfl Ta0 ?_
      refine y_iln dX4_settle_21 rfl ?_
      refine y_ald dX4_settle_22 (ty_maValues W Ta0) F.1 ?_
      replace F := F.2
      replace F := F Ta0
      refine k_X4_142 W dX4_settle_23 rfl (Nat.le_of_ble_eq_true rfl) (Nat.le_of_ble_eq_true rfl) (Or.inl Ta0) F (fun  κ1 Wκ1 Mκ1 F => ?_) (fun _ _ h9 => False.elim h9)
      replace F := F Wκ1 Mκ1
      have h4 := (ztm W Mκ1 Ta0)
      exact y_k (t_Ma_settle_26  Wκ1 h4 F) ⟨rfl, trivial⟩

theorem Ma_settle_run {C : zC} {n0 : Nat} {Q : zS → Prop} {a0 : Nat} {a1 : Int32} {κ : zS} (W : zW C n0 κ) (Ta0 : zT κ a0 = 7) (F : w_Ma_settle_0 C (zn κ) Q a0 a1 κ) : zRun C 2 mMa_settle [.ref a0, .int a1] κ (oV Q noX) := z_run (m_ent _ 0) (t_Ma_settle_0 (W.lo (Nat.le_trans W.1.2.1 W.1.2.2) (Nat.le_refl _)) Ta0 F)

theorem dX0_expand_0 : decode cX0_expand 0 = .ok (.aload_n 0, 1) := by decide +kernel
theorem dX0_expand_1 : decode cX0_expand 1 = .ok (.getfield 40, 3) := by decide +kernel
theorem dX0_expand_4 : decode cX0_expand 4 = .ok (.iload_n 1, 1) := by decide +kernel
theorem dX0_expand_5 : decode cX0_expand 5 = .ok (.aload_n 0, 1) := by decide +kernel
theorem dX0_expand_6 : decode cX0_expand 6 = .ok (.getfield 78, 3) := by decide +kernel
theorem dX0_expand_9 : decode cX0_expand 9 = .ok (.iastore, 1) := by decide +kernel
theorem dX0_expand_10 : decode cX0_expand 10 = .ok (.aload_n 0, 1) := by decide +kernel
theorem dX0_expand_11 : decode cX0_expand 11 = .ok (.getfield 9, 3) := by decide +kernel
theorem dX0_expand_14 : decode cX0_expand 14 = .ok (.aload_n 0, 1) := by decide +kernel
theorem dX0_expand_15 : decode cX0_expand 15 = .ok (.getfield 33, 3) := by decide +kernel
theorem dX0_expand_18 : decode cX0_expand 18 = .ok (.iload_n 1, 1) := by decide +kernel
theorem dX0_expand_19 : decode cX0_expand 19 = .ok (.invokevirtual 163, 3) := by decide +kernel
theorem dX0_expand_22 : decode cX0_expand 22 = .ok (.aload_n 0, 1) := by decide +kernel
theorem dX0_expand_23 : decode cX0_expand 23 = .ok (.getfield 9, 3) := by decide +kernel
theorem dX0_expand_26 : decode cX0_expand 26 = .ok (.invokevirtual 167, 3) := by decide +kernel
theorem dX0_expand_29 : decode cX0_expand 29 = .ok (.aload_n 0, 1) := by decide +kernel
theorem dX0_expand_30 : decode cX0_expand 30 = .ok (.getfield 9, 3) := by decide +kernel
theorem dX0_expand_33 : decode cX0_expand 33 = .ok (.getfield 170, 3) := by decide +kernel
theorem dX0_expand_36 : decode cX0_expand 36 = .ok (.iconst 3, 1) := by decide +kernel
theorem dX0_expand_37 : decode cX0_expand 37 = .ok (.if_icmp .ne 7, 3) := by decide +kernel
theorem dX0_expand_40 : decode cX0_expand 40 = .ok (.iconst 1, 1) := by decide +kernel
theorem dX0_expand_41 : decode cX0_expand 41 = .ok (.goto 4, 3) := by decide +kernel
theorem dX0_expand_44 : decode cX0_expand 44 = .ok (.iconst 0, 1) := by decide +kernel
theorem dX0_expand_45 : decode cX0_expand 45 = .ok (.istore_n 3, 1) := by decide +kernel
theorem dX0_expand_46 : decode cX0_expand 46 = .ok (.aload_n 0, 1) := by decide +kernel
theorem dX0_expand_47 : decode cX0_expand 47 = .ok (.getfield 53, 3) := by decide +kernel
theorem dX0_expand_50 : decode cX0_expand 50 = .ok (.iload_n 1, 1) := by decide +kernel
theorem dX0_expand_51 : decode cX0_expand 51 = .ok (.aload_n 0, 1) := by decide +kernel
theorem dX0_expand_52 : decode cX0_expand 52 = .ok (.getfield 9, 3) := by decide +kernel
theorem dX0_expand_55 : decode cX0_expand 55 = .ok (.getfield 170, 3) := by decide +kernel
theorem dX0_expand_58 : decode cX0_expand 58 = .ok (.iconst 4, 1) := by decide +kernel
theorem dX0_expand_59 : decode cX0_expand 59 = .ok (.if_icmp .ne 7, 3) := by decide +kernel
theorem dX0_expand_62 : decode cX0_expand 62 = .ok (.iconst 1, 1) := by decide +kernel
theorem dX0_expand_63 : decode cX0_expand 63 = .ok (.goto 4, 3) := by decide +kernel
theorem dX0_expand_66 : decode cX0_expand 66 = .ok (.iconst 0, 1) := by decide +kernel
theorem dX0_expand_67 : decode cX0_expand 67 = .ok (.bastore, 1) := by decide +kernel
theorem dX0_expand_68 : decode cX0_expand 68 = .ok (.aload_n 0, 1) := by decide +kernel
theorem dX0_expand_69 : decode cX0_expand 69 = .ok (.getfield 44, 3) := by decide +kernel
theorem dX0_expand_72 : decode cX0_expand 72 = .ok (.iload_n 1, 1) := by decide +kernel
theorem dX0_expand_73 : decode cX0_expand 73 = .ok (.iload_n 3, 1) := by decide +kernel
theorem dX0_expand_74 : decode cX0_expand 74 = .ok (.ifCond .eq 13, 3) := by decide +kernel
theorem dX0_expand_77 : decode cX0_expand 77 = .ok (.aload_n 0, 1) := by decide +kernel
theorem dX0_expand_78 : decode cX0_expand 78 = .ok (.getfield 9, 3) := by decide +kernel
theorem dX0_expand_81 : decode cX0_expand 81 = .ok (.getfield 173, 3) := by decide +kernel
theorem dX0_expand_84 : decode cX0_expand 84 = .ok (.goto 17, 3) := by decide +kernel
theorem dX0_expand_87 : decode cX0_expand 87 = .ok (.aload_n 0, 1) := by decide +kernel
theorem dX0_expand_88 : decode cX0_expand 88 = .ok (.getfield 53, 3) := by decide +kernel
theorem dX0_expand_91 : decode cX0_expand 91 = .ok (.iload_n 1, 1) := by decide +kernel
theorem dX0_expand_92 : decode cX0_expand 92 = .ok (.baload, 1) := by decide +kernel
theorem dX0_expand_93 : decode cX0_expand 93 = .ok (.ifCond .eq 7, 3) := by decide +kernel
theorem dX0_expand_96 : decode cX0_expand 96 = .ok (.iconst 0, 1) := by decide +kernel
theorem dX0_expand_97 : decode cX0_expand 97 = .ok (.goto 4, 3) := by decide +kernel
theorem dX0_expand_100 : decode cX0_expand 100 = .ok (.iconst 1, 1) := by decide +kernel
theorem dX0_expand_101 : decode cX0_expand 101 = .ok (.iastore, 1) := by decide +kernel
theorem dX0_expand_102 : decode cX0_expand 102 = .ok (.aload_n 0, 1) := by decide +kernel
theorem dX0_expand_103 : decode cX0_expand 103 = .ok (.getfield 47, 3) := by decide +kernel
theorem dX0_expand_106 : decode cX0_expand 106 = .ok (.iload_n 1, 1) := by decide +kernel
theorem dX0_expand_107 : decode cX0_expand 107 = .ok (.aload_n 0, 1) := by decide +kernel
theorem dX0_expand_108 : decode cX0_expand 108 = .ok (.getfield 9, 3) := by decide +kernel
theorem dX0_expand_111 : decode cX0_expand 111 = .ok (.getfield 174, 3) := by decide +kernel
theorem dX0_expand_114 : decode cX0_expand 114 = .ok (.iastore, 1) := by decide +kernel
theorem dX0_expand_115 : decode cX0_expand 115 = .ok (.iconst 1, 1) := by decide +kernel
theorem dX0_expand_116 : decode cX0_expand 116 = .ok (.istore 4, 2) := by decide +kernel
theorem dX0_expand_118 : decode cX0_expand 118 = .ok (.iload_n 3, 1) := by decide +kernel
theorem dX0_expand_119 : decode cX0_expand 119 = .ok (.ifCond .ne 21, 3) := by decide +kernel
theorem dX0_expand_122 : decode cX0_expand 122 = .ok (.aload_n 0, 1) := by decide +kernel
theorem dX0_expand_123 : decode cX0_expand 123 = .ok (.getfield 53, 3) := by decide +kernel
theorem dX0_expand_126 : decode cX0_expand 126 = .ok (.iload_n 1, 1) := by decide +kernel
theorem dX0_expand_127 : decode cX0_expand 127 = .ok (.baload, 1) := by decide +kernel
theorem dX0_expand_128 : decode cX0_expand 128 = .ok (.ifCond .ne 12, 3) := by decide +kernel
theorem dX0_expand_131 : decode cX0_expand 131 = .ok (.aload_n 0, 1) := by decide +kernel
theorem dX0_expand_132 : decode cX0_expand 132 = .ok (.iload_n 1, 1) := by decide +kernel
theorem dX0_expand_133 : decode cX0_expand 133 = .ok (.iconst 1, 1) := by decide +kernel
theorem dX0_expand_134 : decode cX0_expand 134 = .ok (.iload_n 2, 1) := by decide +kernel
theorem dX0_expand_135 : decode cX0_expand 135 = .ok (.invokevirtual 177, 3) := by decide +kernel
theorem dX0_expand_138 : decode cX0_expand 138 = .ok (.istore 4, 2) := by decide +kernel
theorem dX0_expand_140 : decode cX0_expand 140 = .ok (.iconst 0, 1) := by decide +kernel
theorem dX0_expand_141 : decode cX0_expand 141 = .ok (.istore 5, 2) := by decide +kernel
theorem dX0_expand_143 : decode cX0_expand 143 = .ok (.iload_n 3, 1) := by decide +kernel
theorem dX0_expand_144 : decode cX0_expand 144 = .ok (.ifCond .ne 12, 3) := by decide +kernel
theorem dX0_expand_147 : decode cX0_expand 147 = .ok (.aload_n 0, 1) := by decide +kernel
theorem dX0_expand_148 : decode cX0_expand 148 = .ok (.getfield 53, 3) := by decide +kernel
theorem dX0_expand_151 : decode cX0_expand 151 = .ok (.iload_n 1, 1) := by decide +kernel
theorem dX0_expand_152 : decode cX0_expand 152 = .ok (.baload, 1) := by decide +kernel
theorem dX0_expand_153 : decode cX0_expand 153 = .ok (.ifCond .eq 78, 3) := by decide +kernel
theorem dX0_expand_156 : decode cX0_expand 156 = .ok (.iload 5, 2) := by decide +kernel
theorem dX0_expand_158 : decode cX0_expand 158 = .ok (.aload_n 0, 1) := by decide +kernel
theorem dX0_expand_159 : decode cX0_expand 159 = .ok (.getfield 9, 3) := by decide +kernel
theorem dX0_expand_162 : decode cX0_expand 162 = .ok (.getfield 135, 3) := by decide +kernel
theorem dX0_expand_165 : decode cX0_expand 165 = .ok (.if_icmp .ge 66, 3) := by decide +kernel
theorem dX0_expand_168 : decode cX0_expand 168 = .ok (.iload 4, 2) := by decide +kernel
theorem dX0_expand_170 : decode cX0_expand 170 = .ok (.ifCond .eq 61, 3) := by decide +kernel
theorem dX0_expand_173 : decode cX0_expand 173 = .ok (.aload_n 0, 1) := by decide +kernel
theorem dX0_expand_174 : decode cX0_expand 174 = .ok (.getfield 9, 3) := by decide +kernel
theorem dX0_expand_177 : decode cX0_expand 177 = .ok (.getfield 181, 3) := by decide +kernel
theorem dX0_expand_180 : decode cX0_expand 180 = .ok (.iload 5, 2) := by decide +kernel
theorem dX0_expand_182 : decode cX0_expand 182 = .ok (.iaload, 1) := by decide +kernel
theorem dX0_expand_183 : decode cX0_expand 183 = .ok (.ifCond .le 42, 3) := by decide +kernel
theorem dX0_expand_186 : decode cX0_expand 186 = .ok (.aload_n 0, 1) := by decide +kernel
theorem dX0_expand_187 : decode cX0_expand 187 = .ok (.getfield 9, 3) := by decide +kernel
theorem dX0_expand_190 : decode cX0_expand 190 = .ok (.aload_n 0, 1) := by decide +kernel
theorem dX0_expand_191 : decode cX0_expand 191 = .ok (.getfield 33, 3) := by decide +kernel
theorem dX0_expand_194 : decode cX0_expand 194 = .ok (.iload_n 1, 1) := by decide +kernel
theorem dX0_expand_195 : decode cX0_expand 195 = .ok (.invokevirtual 163, 3) := by decide +kernel
theorem dX0_expand_198 : decode cX0_expand 198 = .ok (.aload_n 0, 1) := by decide +kernel
theorem dX0_expand_199 : decode cX0_expand 199 = .ok (.getfield 9, 3) := by decide +kernel
theorem dX0_expand_202 : decode cX0_expand 202 = .ok (.iload 5, 2) := by decide +kernel
theorem dX0_expand_204 : decode cX0_expand 204 = .ok (.invokevirtual 182, 3) := by decide +kernel
theorem dX0_expand_207 : decode cX0_expand 207 = .ok (.aload_n 0, 1) := by decide +kernel
theorem dX0_expand_208 : decode cX0_expand 208 = .ok (.iload_n 1, 1) := by decide +kernel
theorem dX0_expand_209 : decode cX0_expand 209 = .ok (.aload_n 0, 1) := by decide +kernel
theorem dX0_expand_210 : decode cX0_expand 210 = .ok (.getfield 9, 3) := by decide +kernel
theorem dX0_expand_213 : decode cX0_expand 213 = .ok (.getfield 181, 3) := by decide +kernel
theorem dX0_expand_216 : decode cX0_expand 216 = .ok (.iload 5, 2) := by decide +kernel
theorem dX0_expand_218 : decode cX0_expand 218 = .ok (.iaload, 1) := by decide +kernel
theorem dX0_expand_219 : decode cX0_expand 219 = .ok (.iload_n 2, 1) := by decide +kernel
theorem dX0_expand_220 : decode cX0_expand 220 = .ok (.invokevirtual 177, 3) := by decide +kernel
theorem dX0_expand_223 : decode cX0_expand 223 = .ok (.istore 4, 2) := by decide +kernel
theorem dX0_expand_225 : decode cX0_expand 225 = .ok (.iinc 5 1, 3) := by decide +kernel
theorem dX0_expand_228 : decode cX0_expand 228 = .ok (.goto (-85), 3) := by decide +kernel
theorem dX0_expand_231 : decode cX0_expand 231 = .ok (.aload_n 0, 1) := by decide +kernel
theorem dX0_expand_232 : decode cX0_expand 232 = .ok (.getfield 40, 3) := by decide +kernel
theorem dX0_expand_235 : decode cX0_expand 235 = .ok (.iload_n 1, 1) := by decide +kernel
theorem dX0_expand_236 : decode cX0_expand 236 = .ok (.iconst 1, 1) := by decide +kernel
theorem dX0_expand_237 : decode cX0_expand 237 = .ok (.iadd, 1) := by decide +kernel
theorem dX0_expand_238 : decode cX0_expand 238 = .ok (.aload_n 0, 1) := by decide +kernel
theorem dX0_expand_239 : decode cX0_expand 239 = .ok (.getfield 78, 3) := by decide +kernel
theorem dX0_expand_242 : decode cX0_expand 242 = .ok (.iastore, 1) := by decide +kernel
theorem dX0_expand_243 : decode cX0_expand 243 = .ok (.iload 4, 2) := by decide +kernel
theorem dX0_expand_245 : decode cX0_expand 245 = .ok (.ireturn, 1) := by decide +kernel
def w_At_expand_231 (C : zC) (n0 : Nat) (Q : Int32 → zS → Prop)  (a0 : Nat) (a1 : Int32) (a4 : Int32) (κ : zS) : Prop :=
  inb (a1 + (1 : Int32)) (zN κ (zR κ atFirsts a0)) ∧
  ∀ κ1, κ1 = ua κ (zR κ atFirsts a0) ((a1 + (1 : Int32))).toNatClampNeg (zI κ atNexts a0) →
  ∀ _ : zW C n0 κ1,
  nb a4 ∧ Q a4 κ1
theorem t_At_expand_231 {C : zC} {n0 : Nat} {Q : Int32 → zS → Prop}   {a0 : Nat} {a1 : Int32} {a4 : Int32} {κ : zS} (W : zW C n0 κ) (Ta0 : zT κ a0 = 3) (F : w_At_expand_231 C n0 Q  a0 a1 a4 κ) : zG C n0 5 mAt_expand 231 [some (.ref a0), some (.int a1), none, none, some (.int a4), none] [] κ (oI Q noX) := by
  unfold w_At_expand_231 at F
  refine y_aln dX0_expand_231 rfl ?_
  refine gf_X0_40 W dX0_expand_232 rfl Ta0 ?_
  refine y_iln dX0_expand_235 rfl ?_
  refine y_ic dX0_expand_236 zi_1 ?_
  refine y_iadd dX0_expand_237 ?_
  refine y_aln dX0_expand_238 rfl ?_
  refine gf_X0_78 dX0_expand_239 rfl (Or.inl Ta0) ?_
  refine y_ast W dX0_expand_242 (ty_atFirsts W Ta0) F.1 (fun κ1 eκ1 => ?_)
  replace F := F.2 κ1 eκ1
  have Wκ1 : zW C n0 κ1 := zW_ua W eκ1 (fun h => absurd (h.symm.trans (ty_atFirsts W Ta0)) (by decide)) (fun h => absurd (h.symm.trans (ty_atFirsts W Ta0)) (by decide))
  have Mκ1 : zM (zn κ) κ κ1 := by rw [eκ1]; exact zM.of rfl rfl rfl
  replace F := F Wκ1
  refine y_il dX0_expand_243 rfl ?_
  exact y_ri Wκ1 dX0_expand_245 rfl (nb_nar F.1) F.2

def w_At_expand_156 (C : zC) (n0 : Nat) (Q : Int32 → zS → Prop) (B143 : Nat → Int32 → Int32 → Int32 → Int32 → Int32 → zS → Prop) (a0 : Nat) (a1 : Int32) (a2 : Int32) (a3 : Int32) (a4 : Int32) (a5 : Int32) (κ : zS) : Prop :=
  ((zI κ maWays (zR κ atMachine a0)) ≤ a5 →
    w_At_expand_231 C n0 Q  a0 a1 a4 κ) ∧
  (¬ (zI κ maWays (zR κ atMachine a0)) ≤ a5 →
    (a4 = (0 : Int32) →
      w_At_expand_231 C n0 Q  a0 a1 a4 κ) ∧
    (¬ a4 = (0 : Int32) →
      inb a5 (zN κ (zR κ maWeights (zR κ atMachine a0))) ∧
      ((zA κ (zR κ maWeights (zR κ atMachine a0)) (a5).toNatClampNeg) ≤ (0 : Int32) →
        ∀ v5_1 : Int32, v5_1 = a5 + (1 : Int32) →
        B143 a0 a1 a2 a3 a4 v5_1 κ) ∧
      (¬ (zA κ (zR κ maWeights (zR κ atMachine a0)) (a5).toNatClampNeg) ≤ (0 : Int32) →
        ∀ _ : zT κ (zR κ atMachine a0) = 7,
        ∀ _ : zT κ (zR κ atStates a0) = 6,
        zRun C 2 mMa_load [.ref (zR κ atMachine a0), .ref (zR κ atStates a0), .int a1] κ (oV (fun κ2 =>
          ∀ _ : zW C n0 κ2,
          ∀ _ : zM (zn κ) κ κ2,
          ∀ _ : zT κ2 (zR κ2 atMachine a0) = 7,
          zRun C 2 mMa_settle [.ref (zR κ2 atMachine a0), .int a5] κ2 (oV (fun κ6 =>
            ∀ _ : zW C n0 κ6,
            ∀ _ : zM (zn κ2) κ2 κ6,
            inb a5 (zN κ6 (zR κ6 maWeights (zR κ6 atMachine a0))) ∧
            ∀ _ : zT κ6 a0 = 3,
            zRun C 3 mAt_lead [.ref a0, .int a1, .int (zA κ6 (zR κ6 maWeights (zR κ6 atMachine a0)) (a5).toNatClampNeg), .int a2] κ6 (oI (fun r11 κ10 =>
              ∀ _ : zW C n0 κ10,
              ∀ _ : zM (zn κ6) κ6 κ10,
              ∀ v5_13 : Int32, v5_13 = a5 + (1 : Int32) →
              B143 a0 a1 a2 a3 r11 v5_13 κ10) noX)) noX)) noX))))
theorem t_At_expand_156 {C : zC} {n0 : Nat} {Q : Int32 → zS → Prop} {B143 : Nat → Int32 → Int32 → Int32 → Int32 → Int32 → zS → Prop} (hB143 : ∀ a0' a1' a2' a3' a4' a5' τ, zW C n0 τ → zT τ a0' = 3 → B143 a0' a1' a2' a3' a4' a5' τ → zG C n0 5 mAt_expand 143 [some (.ref a0'), some (.int a1'), some (.int a2'), some (.int a3'), some (.int a4'), some (.int a5')] [] τ (oI Q noX)) {a0 : Nat} {a1 : Int32} {a2 : Int32} {a3 : Int32} {a4 : Int32} {a5 : Int32} {κ : zS} (W : zW C n0 κ) (Ta0 : zT κ a0 = 3) (F : w_At_expand_156 C n0 Q B143 a0 a1 a2 a3 a4 a5 κ) : zG C n0 5 mAt_expand 156 [some (.ref a0), some (.int a1), some (.int a2), some (.int a3), some (.int a4), some (.int a5)] [] κ (oI Q noX) := by
  unfold w_At_expand_156 at F
  refine y_il dX0_expand_156 rfl ?_
  refine y_aln dX0_expand_158 rfl ?_
  refine gf_X0_9 W dX0_expand_159 rfl Ta0 ?_
  refine gf_X0_135 dX0_expand_162 rfl (Or.inl (ty_atMachine W Ta0)) ?_
  refine y_ii ((zI κ maWays (zR κ atMachine a0)) ≤ a5) dX0_expand_165 (t := 231) rfl rfl (fun c9 => ?_) (fun c9 => ?_)
  · replace F := F.1 c9
    exact y_k (t_At_expand_231  W Ta0 F) ⟨rfl, rfl, rfl, trivial⟩
  · replace F := F.2 c9
    refine y_il dX0_expand_168 rfl ?_
    refine y_i (a4 = (0 : Int32)) dX0_expand_170 (t := 231) rfl rfl (fun c9 => ?_) (fun c9 => ?_)
    · replace F := F.1 c9
      exact y_k (t_At_expand_231  W Ta0 F) ⟨rfl, rfl, rfl, trivial⟩
    · replace F := F.2 c9
      refine y_aln dX0_expand_173 rfl ?_
      refine gf_X0_9 W dX0_expand_174 rfl Ta0 ?_
      refine gf_X0_181 W dX0_expand_177 rfl (ty_atMachine W Ta0) ?_
      refine y_il dX0_expand_180 rfl ?_
      refine y_ald dX0_expand_182 (ty_maWeights W (ty_atMachine W Ta0)) F.1 ?_
      replace F := F.2
      refine y_i ((zA κ (zR κ maWeights (zR κ atMachine a0)) (a5).toNatClampNeg) ≤ (0 : Int32)) dX0_expand_183 (t := 225) rfl rfl (fun c9 => ?_) (fun c9 => ?_)
      · replace F := F.1 c9
        refine y_incb dX0_expand_225 zi_1 rfl (Nat.le_of_ble_eq_true rfl) (fun v5_1 ev5_1 => ?_)
        replace F := F v5_1 ev5_1
        refine y_goto dX0_expand_228 (t := 143) rfl ?_
        exact y_k (hB143 _ _ _ _ _ _ _ W Ta0 F) ⟨rfl, rfl, rfl, rfl, rfl, rfl, trivial⟩
      · replace F := F.2 c9
        refine y_aln dX0_expand_186 rfl ?_
        refine gf_X0_9 W dX0_expand_187 rfl Ta0 ?_
        refine y_aln dX0_expand_190 rfl ?_
        refine gf_X0_33 W dX0_expand_191 rfl Ta0 ?_
        refine y_iln dX0_expand_194 rfl ?_
        replace F := F (ty_atMachine W Ta0)
        replace F := F (ty_atStates W Ta0)
        refine k_X0_163 W dX0_expand_195 rfl (Nat.le_of_ble_eq_true rfl) (Nat.le_of_ble_eq_true rfl) (Or.inl (ty_atMachine W Ta0)) F (fun  κ2 Wκ2 Mκ2 F => ?_) (fun _ _ h9 => False.elim h9)
        replace F := F Wκ2 Mκ2
        refine y_aln dX0_expand_198 rfl ?_
        have h5 := (ztm W Mκ2 Ta0)
        refine gf_X0_9 Wκ2 dX0_expand_199 rfl h5 ?_
        refine y_il dX0_expand_202 rfl ?_
        replace F := F (ty_atMachine Wκ2 h5)
        refine k_X0_182 Wκ2 dX0_expand_204 rfl (Nat.le_of_ble_eq_true rfl) (Nat.le_of_ble_eq_true rfl) (Or.inl (ty_atMachine Wκ2 h5)) F (fun  κ6 Wκ6 Mκ6 F => ?_) (fun _ _ h9 => False.elim h9)
        replace F := F Wκ6 Mκ6
        refine y_aln dX0_expand_207 rfl ?_
        refine y_iln dX0_expand_208 rfl ?_
        refine y_aln dX0_expand_209 rfl ?_
        have h9 := (ztm Wκ2 Mκ6 h5)
        refine gf_X0_9 Wκ6 dX0_expand_210 rfl h9 ?_
        refine gf_X0_181 Wκ6 dX0_expand_213 rfl (ty_atMachine Wκ6 h9) ?_
        refine y_il dX0_expand_216 rfl ?_
        refine y_ald dX0_expand_218 (ty_maWeights Wκ6 (ty_atMachine Wκ6 h9)) F.1 ?_
        replace F := F.2
        refine y_iln dX0_expand_219 rfl ?_
        replace F := F h9
        refine k_X0_177 Wκ6 dX0_expand_220 rfl (Nat.le_of_ble_eq_true rfl) (Nat.le_of_ble_eq_true rfl) (Or.inl h9) F (fun r11 κ10 Wκ10 Mκ10 F => ?_) (fun _ _ h9 => False.elim h9)
        replace F := F Wκ10 Mκ10
        refine y_is dX0_expand_223 (Nat.le_of_ble_eq_true rfl) rfl ?_
        refine y_incb dX0_expand_225 zi_1 rfl (Nat.le_of_ble_eq_true rfl) (fun v5_13 ev5_13 => ?_)
        replace F := F v5_13 ev5_13
        refine y_goto dX0_expand_228 (t := 143) rfl ?_
        have h14 := (ztm Wκ6 Mκ10 h9)
        exact y_k (hB143 _ _ _ _ _ _ _ Wκ10 h14 F) ⟨rfl, rfl, rfl, rfl, rfl, rfl, trivial⟩

def w_At_expand_143 (C : zC) (n0 : Nat) (Q : Int32 → zS → Prop)  (a0 : Nat) (a1 : Int32) (a2 : Int32) (a3 : Int32) (a4 : Int32) (a5 : Int32) (κ : zS) : Prop :=
  ∃ I : Nat → Nat → Int32 → Int32 → Int32 → Int32 → Int32 → zS → Prop, (∃ n, I n a0 a1 a2 a3 a4 a5 κ) ∧ ∀ n a0 a1 a2 a3 a4 a5 κ, zW C n0 κ → zT κ a0 = 3 → I n a0 a1 a2 a3 a4 a5 κ →
    (¬ a3 = (0 : Int32) →
      w_At_expand_156 C n0 Q (fun a0' a1' a2' a3' a4' a5' τ => ∃ k < n, I k a0' a1' a2' a3' a4' a5' τ) a0 a1 a2 a3 a4 a5 κ) ∧
    (a3 = (0 : Int32) →
      inb a1 (zN κ (zR κ atChooses a0)) ∧
      ((zA κ (zR κ atChooses a0) (a1).toNatClampNeg) = (0 : Int32) →
        w_At_expand_231 C n0 Q  a0 a1 a4 κ) ∧
      (¬ (zA κ (zR κ atChooses a0) (a1).toNatClampNeg) = (0 : Int32) →
        w_At_expand_156 C n0 Q (fun a0' a1' a2' a3' a4' a5' τ => ∃ k < n, I k a0' a1' a2' a3' a4' a5' τ) a0 a1 a2 a3 a4 a5 κ))
theorem t_At_expand_143 {C : zC} {n0 : Nat} {Q : Int32 → zS → Prop}   {a0 : Nat} {a1 : Int32} {a2 : Int32} {a3 : Int32} {a4 : Int32} {a5 : Int32} {κ : zS} (W : zW C n0 κ) (Ta0 : zT κ a0 = 3) (F : w_At_expand_143 C n0 Q  a0 a1 a2 a3 a4 a5 κ) : zG C n0 5 mAt_expand 143 [some (.ref a0), some (.int a1), some (.int a2), some (.int a3), some (.int a4), some (.int a5)] [] κ (oI Q noX) := by
  obtain ⟨I, ⟨m0, hI0⟩, F0⟩ := F
  have key : ∀ n a0 a1 a2 a3 a4 a5 κ, zW C n0 κ → zT κ a0 = 3 → I n a0 a1 a2 a3 a4 a5 κ → zG C n0 5 mAt_expand 143 [some (.ref a0), some (.int a1), some (.int a2), some (.int a3), some (.int a4), some (.int a5)] [] κ (oI Q noX) := by
    intro n
    induction n using Nat.strongRecOn with
    | _ n ih =>
      intro a0 a1 a2 a3 a4 a5 κ W Ta0 hI
      have F := F0 n a0 a1 a2 a3 a4 a5 κ W Ta0 hI
      clear hI hI0
      refine y_iln dX0_expand_143 rfl ?_
      refine y_in (a3 = (0 : Int32)) dX0_expand_144 (t := 156) rfl rfl (fun c9 => ?_) (fun c9 => ?_)
      · replace F := F.1 c9
        exact y_k (t_At_expand_156 (fun a0' a1' a2' a3' a4' a5' τ w9 f09 hb => by obtain ⟨k, hk, hI⟩ := hb; exact ih k hk a0' a1' a2' a3' a4' a5' τ w9 f09 hI) W Ta0 F) ⟨rfl, rfl, rfl, rfl, rfl, rfl, trivial⟩
      · replace F := F.2 c9
        refine y_aln dX0_expand_147 rfl ?_
        refine gf_X0_53 W dX0_expand_148 rfl Ta0 ?_
        refine y_iln dX0_expand_151 rfl ?_
        refine y_zld dX0_expand_152 (ty_atChooses W Ta0) F.1 ?_
        replace F := F.2
        refine y_i ((zA κ (zR κ atChooses a0) (a1).toNatClampNeg) = (0 : Int32)) dX0_expand_153 (t := 231) rfl rfl (fun c9 => ?_) (fun c9 => ?_)
        · replace F := F.1 c9
          exact y_k (t_At_expand_231  W Ta0 F) ⟨rfl, rfl, rfl, trivial⟩
        · replace F := F.2 c9
          exact y_k (t_At_expand_156 (fun a0' a1' a2' a3' a4' a5' τ w9 f09 hb => by obtain ⟨k, hk, hI⟩ := hb; exact ih k hk a0' a1' a2' a3' a4' a5' τ w9 f09 hI) W Ta0 F) ⟨rfl, rfl, rfl, rfl, rfl, rfl, trivial⟩
  exact key m0 a0 a1 a2 a3 a4 a5 κ W Ta0 hI0

def w_At_expand_101 (C : zC) (n0 : Nat) (Q : Int32 → zS → Prop)  (a0 : Nat) (a1 : Int32) (a2 : Int32) (a3 : Int32) (s0 : Nat) (s1 : Int32) (s2 : Int32) (κ : zS) : Prop :=
  inb s1 (zN κ s0) ∧
  ∀ κ1, κ1 = ua κ s0 (s1).toNatClampNeg s2 →
  ∀ _ : zW C n0 κ1,
  inb a1 (zN κ1 (zR κ1 atGains a0)) ∧
  ∀ κ3, κ3 = ua κ1 (zR κ1 atGains a0) (a1).toNatClampNeg (zI κ1 maGained (zR κ1 atMachine a0)) →
  ∀ _ : zW C n0 κ3,
  (¬ a3 = (0 : Int32) →
    w_At_expand_143 C n0 Q  a0 a1 a2 a3 (1 : Int32) (0 : Int32) κ3) ∧
  (a3 = (0 : Int32) →
    inb a1 (zN κ3 (zR κ3 atChooses a0)) ∧
    (¬ (zA κ3 (zR κ3 atChooses a0) (a1).toNatClampNeg) = (0 : Int32) →
      w_At_expand_143 C n0 Q  a0 a1 a2 a3 (1 : Int32) (0 : Int32) κ3) ∧
    ((zA κ3 (zR κ3 atChooses a0) (a1).toNatClampNeg) = (0 : Int32) →
      ∀ _ : zT κ3 a0 = 3,
      zRun C 3 mAt_lead [.ref a0, .int a1, .int (1 : Int32), .int a2] κ3 (oI (fun r7 κ6 =>
        ∀ _ : zW C n0 κ6,
        ∀ _ : zM (zn κ3) κ3 κ6,
        w_At_expand_143 C n0 Q  a0 a1 a2 a3 r7 (0 : Int32) κ6) noX)))
theorem t_At_expand_101 {C : zC} {n0 : Nat} {Q : Int32 → zS → Prop}   {a0 : Nat} {a1 : Int32} {a2 : Int32} {a3 : Int32} {s0 : Nat} {s1 : Int32} {s2 : Int32} {κ : zS} (W : zW C n0 κ) (Ta0 : zT κ a0 = 3) (Ts0 : zT κ s0 = 20) (F : w_At_expand_101 C n0 Q  a0 a1 a2 a3 s0 s1 s2 κ) : zG C n0 5 mAt_expand 101 [some (.ref a0), some (.int a1), some (.int a2), some (.int a3), none, none] [.int s2, .int s1, .ref s0] κ (oI Q noX) := by
  unfold w_At_expand_101 at F
  refine y_ast W dX0_expand_101 Ts0 F.1 (fun κ1 eκ1 => ?_)
  replace F := F.2 κ1 eκ1
  have Wκ1 : zW C n0 κ1 := zW_ua W eκ1 (fun h => absurd (h.symm.trans Ts0) (by decide)) (fun h => absurd (h.symm.trans Ts0) (by decide))
  have Mκ1 : zM (zn κ) κ κ1 := by rw [eκ1]; exact zM.of rfl rfl rfl
  replace F := F Wκ1
  refine y_aln dX0_expand_102 rfl ?_
  have h2 := (ztm W Mκ1 Ta0)
  refine gf_X0_47 Wκ1 dX0_expand_103 rfl h2 ?_
  refine y_iln dX0_expand_106 rfl ?_
  refine y_aln dX0_expand_107 rfl ?_
  refine gf_X0_9 Wκ1 dX0_expand_108 rfl h2 ?_
  refine gf_X0_174 dX0_expand_111 rfl (Or.inl (ty_atMachine Wκ1 h2)) ?_
  refine y_ast Wκ1 dX0_expand_114 (ty_atGains Wκ1 h2) F.1 (fun κ3 eκ3 => ?_)
  replace F := F.2 κ3 eκ3
  have Wκ3 : zW C n0 κ3 := zW_ua Wκ1 eκ3 (fun h => absurd (h.symm.trans (ty_atGains Wκ1 h2)) (by decide)) (fun h => absurd (h.symm.trans (ty_atGains Wκ1 h2)) (by decide))
  have Mκ3 : zM (zn κ1) κ1 κ3 := by rw [eκ3]; exact zM.of rfl rfl rfl
  replace F := F Wκ3
  refine y_ic dX0_expand_115 zi_1 ?_
  refine y_is dX0_expand_116 (Nat.le_of_ble_eq_true rfl) rfl ?_
  refine y_iln dX0_expand_118 rfl ?_
  refine y_in (a3 = (0 : Int32)) dX0_expand_119 (t := 140) rfl rfl (fun c9 => ?_) (fun c9 => ?_)
  · replace F := F.1 c9
    refine y_ic dX0_expand_140 zi_0 ?_
    refine y_is dX0_expand_141 (Nat.le_of_ble_eq_true rfl) rfl ?_
    have h4 := (ztm Wκ1 Mκ3 h2)
    exact y_k (t_At_expand_143  Wκ3 h4 F) ⟨rfl, rfl, rfl, rfl, rfl, rfl, trivial⟩
  · replace F := F.2 c9
    refine y_aln dX0_expand_122 rfl ?_
    have h5 := (ztm Wκ1 Mκ3 h2)
    refine gf_X0_53 Wκ3 dX0_expand_123 rfl h5 ?_
    refine y_iln dX0_expand_126 rfl ?_
    refine y_zld dX0_expand_127 (ty_atChooses Wκ3 h5) F.1 ?_
    replace F := F.2
    refine y_in ((zA κ3 (zR κ3 atChooses a0) (a1).toNatClampNeg) = (0 : Int32)) dX0_expand_128 (t := 140) rfl rfl (fun c9 => ?_) (fun c9 => ?_)
    · replace F := F.1 c9
      refine y_ic dX0_expand_140 zi_0 ?_
      refine y_is dX0_expand_141 (Nat.le_of_ble_eq_true rfl) rfl ?_
      exact y_k (t_At_expand_143  Wκ3 h5 F) ⟨rfl, rfl, rfl, rfl, rfl, rfl, trivial⟩
    · replace F := F.2 c9
      refine y_aln dX0_expand_131 rfl ?_
      refine y_iln dX0_expand_132 rfl ?_
      refine y_ic dX0_expand_133 zi_1 ?_
      refine y_iln dX0_expand_134 rfl ?_
      replace F := F h5
      refine k_X0_177 Wκ3 dX0_expand_135 rfl (Nat.le_of_ble_eq_true rfl) (Nat.le_of_ble_eq_true rfl) (Or.inl h5) F (fun r7 κ6 Wκ6 Mκ6 F => ?_) (fun _ _ h9 => False.elim h9)
      replace F := F Wκ6 Mκ6
      refine y_is dX0_expand_138 (Nat.le_of_ble_eq_true rfl) rfl ?_
      refine y_ic dX0_expand_140 zi_0 ?_
      refine y_is dX0_expand_141 (Nat.le_of_ble_eq_true rfl) rfl ?_
      have h9 := (ztm Wκ3 Mκ6 h5)
      exact y_k (t_At_expand_143  Wκ6 h9 F) ⟨rfl, rfl, rfl, rfl, rfl, rfl, trivial⟩

def w_At_expand_67 (C : zC) (n0 : Nat) (Q : Int32 → zS → Prop)  (a0 : Nat) (a1 : Int32) (a2 : Int32) (a3 : Int32) (s0 : Nat) (s1 : Int32) (s2 : Int32) (κ : zS) : Prop :=
  inb s1 (zN κ s0) ∧
  ∀ κ1, κ1 = ua κ s0 (s1).toNatClampNeg (vp_nar .boolean s2) →
  ∀ _ : zW C n0 κ1,
  (a3 = (0 : Int32) →
    inb a1 (zN κ1 (zR κ1 atChooses a0)) ∧
    ((zA κ1 (zR κ1 atChooses a0) (a1).toNatClampNeg) = (0 : Int32) →
      w_At_expand_101 C n0 Q  a0 a1 a2 a3 (zR κ1 atTotals a0) a1 (1 : Int32) κ1) ∧
    (¬ (zA κ1 (zR κ1 atChooses a0) (a1).toNatClampNeg) = (0 : Int32) →
      w_At_expand_101 C n0 Q  a0 a1 a2 a3 (zR κ1 atTotals a0) a1 (0 : Int32) κ1)) ∧
  (¬ a3 = (0 : Int32) →
    w_At_expand_101 C n0 Q  a0 a1 a2 a3 (zR κ1 atTotals a0) a1 (zI κ1 maTotal (zR κ1 atMachine a0)) κ1)
theorem t_At_expand_67 {C : zC} {n0 : Nat} {Q : Int32 → zS → Prop}   {a0 : Nat} {a1 : Int32} {a2 : Int32} {a3 : Int32} {s0 : Nat} {s1 : Int32} {s2 : Int32} {κ : zS} (W : zW C n0 κ) (Ta0 : zT κ a0 = 3) (Ts0 : zT κ s0 = 23) (F : w_At_expand_67 C n0 Q  a0 a1 a2 a3 s0 s1 s2 κ) : zG C n0 5 mAt_expand 67 [some (.ref a0), some (.int a1), some (.int a2), some (.int a3), none, none] [.int s2, .int s1, .ref s0] κ (oI Q noX) := by
  unfold w_At_expand_67 at F
  refine y_zst W dX0_expand_67 Ts0 F.1 (fun κ1 eκ1 => ?_)
  replace F := F.2 κ1 eκ1
  have Wκ1 : zW C n0 κ1 := zW_ua W eκ1 (fun _ => nb_nr) (fun h => absurd (h.symm.trans Ts0) (by decide))
  have Mκ1 : zM (zn κ) κ κ1 := by rw [eκ1]; exact zM.of rfl rfl rfl
  replace F := F Wκ1
  refine y_aln dX0_expand_68 rfl ?_
  have h2 := (ztm W Mκ1 Ta0)
  refine gf_X0_44 Wκ1 dX0_expand_69 rfl h2 ?_
  refine y_iln dX0_expand_72 rfl ?_
  refine y_iln dX0_expand_73 rfl ?_
  refine y_i (a3 = (0 : Int32)) dX0_expand_74 (t := 87) rfl rfl (fun c9 => ?_) (fun c9 => ?_)
  · replace F := F.1 c9
    refine y_aln dX0_expand_87 rfl ?_
    refine gf_X0_53 Wκ1 dX0_expand_88 rfl h2 ?_
    refine y_iln dX0_expand_91 rfl ?_
    refine y_zld dX0_expand_92 (ty_atChooses Wκ1 h2) F.1 ?_
    replace F := F.2
    refine y_i ((zA κ1 (zR κ1 atChooses a0) (a1).toNatClampNeg) = (0 : Int32)) dX0_expand_93 (t := 100) rfl rfl (fun c9 => ?_) (fun c9 => ?_)
    · replace F := F.1 c9
      refine y_ic dX0_expand_100 zi_1 ?_
      exact y_k (t_At_expand_101  Wκ1 h2 (ty_atTotals Wκ1 h2) F) ⟨rfl, rfl, rfl, rfl, trivial⟩
    · replace F := F.2 c9
      refine y_ic dX0_expand_96 zi_0 ?_
      refine y_goto dX0_expand_97 (t := 101) rfl ?_
      exact y_k (t_At_expand_101  Wκ1 h2 (ty_atTotals Wκ1 h2) F) ⟨rfl, rfl, rfl, rfl, trivial⟩
  · replace F := F.2 c9
    refine y_aln dX0_expand_77 rfl ?_
    refine gf_X0_9 Wκ1 dX0_expand_78 rfl h2 ?_
    refine gf_X0_173 dX0_expand_81 rfl (Or.inl (ty_atMachine Wκ1 h2)) ?_
    refine y_goto dX0_expand_84 (t := 101) rfl ?_
    exact y_k (t_At_expand_101  Wκ1 h2 (ty_atTotals Wκ1 h2) F) ⟨rfl, rfl, rfl, rfl, trivial⟩

def w_At_expand_45 (C : zC) (n0 : Nat) (Q : Int32 → zS → Prop)  (a0 : Nat) (a1 : Int32) (a2 : Int32) (s0 : Int32) (κ : zS) : Prop :=
  (¬ (zI κ maWants (zR κ atMachine a0)) = (4 : Int32) →
    w_At_expand_67 C n0 Q  a0 a1 a2 s0 (zR κ atChooses a0) a1 (0 : Int32) κ) ∧
  ((zI κ maWants (zR κ atMachine a0)) = (4 : Int32) →
    w_At_expand_67 C n0 Q  a0 a1 a2 s0 (zR κ atChooses a0) a1 (1 : Int32) κ)
theorem t_At_expand_45 {C : zC} {n0 : Nat} {Q : Int32 → zS → Prop}   {a0 : Nat} {a1 : Int32} {a2 : Int32} {s0 : Int32} {κ : zS} (W : zW C n0 κ) (Ta0 : zT κ a0 = 3) (F : w_At_expand_45 C n0 Q  a0 a1 a2 s0 κ) : zG C n0 5 mAt_expand 45 [some (.ref a0), some (.int a1), some (.int a2), none, none, none] [.int s0] κ (oI Q noX) := by
  unfold w_At_expand_45 at F
  refine y_isn dX0_expand_45 (Nat.le_of_ble_eq_true rfl) rfl ?_
  refine y_aln dX0_expand_46 rfl ?_
  refine gf_X0_53 W dX0_expand_47 rfl Ta0 ?_
  refine y_iln dX0_expand_50 rfl ?_
  refine y_aln dX0_expand_51 rfl ?_
  refine gf_X0_9 W dX0_expand_52 rfl Ta0 ?_
  refine gf_X0_170 dX0_expand_55 rfl (Or.inl (ty_atMachine W Ta0)) ?_
  refine y_ic dX0_expand_58 zi_4 ?_
  refine y_iin ((zI κ maWants (zR κ atMachine a0)) = (4 : Int32)) dX0_expand_59 (t := 66) rfl rfl (fun c9 => ?_) (fun c9 => ?_)
  · replace F := F.1 c9
    refine y_ic dX0_expand_66 zi_0 ?_
    exact y_k (t_At_expand_67  W Ta0 (ty_atChooses W Ta0) F) ⟨rfl, rfl, rfl, rfl, trivial⟩
  · replace F := F.2 c9
    refine y_ic dX0_expand_62 zi_1 ?_
    refine y_goto dX0_expand_63 (t := 67) rfl ?_
    exact y_k (t_At_expand_67  W Ta0 (ty_atChooses W Ta0) F) ⟨rfl, rfl, rfl, rfl, trivial⟩

def w_At_expand_0 (C : zC) (n0 : Nat) (Q : Int32 → zS → Prop)  (a0 : Nat) (a1 : Int32) (a2 : Int32) (κ : zS) : Prop :=
  inb a1 (zN κ (zR κ atFirsts a0)) ∧
  ∀ κ1, κ1 = ua κ (zR κ atFirsts a0) (a1).toNatClampNeg (zI κ atNexts a0) →
  ∀ _ : zW C n0 κ1,
  ∀ _ : zT κ1 (zR κ1 atMachine a0) = 7,
  ∀ _ : zT κ1 (zR κ1 atStates a0) = 6,
  zRun C 2 mMa_load [.ref (zR κ1 atMachine a0), .ref (zR κ1 atStates a0), .int a1] κ1 (oV (fun κ3 =>
    ∀ _ : zW C n0 κ3,
    ∀ _ : zM (zn κ1) κ1 κ3,
    ∀ _ : zT κ3 (zR κ3 atMachine a0) = 7,
    zRun C 4 mMa_act [.ref (zR κ3 atMachine a0)] κ3 (oV (fun κ7 =>
      ∀ _ : zW C n0 κ7,
      ∀ _ : zM (zn κ3) κ3 κ7,
      (¬ (zI κ7 maWants (zR κ7 atMachine a0)) = (3 : Int32) →
        w_At_expand_45 C n0 Q  a0 a1 a2 (0 : Int32) κ7) ∧
      ((zI κ7 maWants (zR κ7 atMachine a0)) = (3 : Int32) →
        w_At_expand_45 C n0 Q  a0 a1 a2 (1 : Int32) κ7)) noX)) noX)
theorem t_At_expand_0 {C : zC} {n0 : Nat} {Q : Int32 → zS → Prop}   {a0 : Nat} {a1 : Int32} {a2 : Int32} {κ : zS} (W : zW C n0 κ) (Ta0 : zT κ a0 = 3) (F : w_At_expand_0 C n0 Q  a0 a1 a2 κ) : zG C n0 5 mAt_expand 0 [some (.ref a0), some (.int a1), some (.int a2), none, none, none] [] κ (oI Q noX) := by
  unfold w_At_expand_0 at F
  refine y_aln dX0_expand_0 rfl ?_
  refine gf_X0_40 W dX0_expand_1 rfl Ta0 ?_
  refine y_iln dX0_expand_4 rfl ?_
  refine y_aln dX0_expand_5 rfl ?_
  refine gf_X0_78 dX0_expand_6 rfl (Or.inl Ta0) ?_
  refine y_ast W dX0_expand_9 (ty_atFirsts W Ta0) F.1 (fun κ1 eκ1 => ?_)
  replace F := F.2 κ1 eκ1
  have Wκ1 : zW C n0 κ1 := zW_ua W eκ1 (fun h => absurd (h.symm.trans (ty_atFirsts W Ta0)) (by decide)) (fun h => absurd (h.symm.trans (ty_atFirsts W Ta0)) (by decide))
  have Mκ1 : zM (zn κ) κ κ1 := by rw [eκ1]; exact zM.of rfl rfl rfl
  replace F := F Wκ1
  refine y_aln dX0_expand_10 rfl ?_
  have h2 := (ztm W Mκ1 Ta0)
  refine gf_X0_9 Wκ1 dX0_expand_11 rfl h2 ?_
  refine y_aln dX0_expand_14 rfl ?_
  refine gf_X0_33 Wκ1 dX0_expand_15 rfl h2 ?_
  refine y_iln dX0_expand_18 rfl ?_
  replace F := F (ty_atMachine Wκ1 h2)
  replace F := F (ty_atStates Wκ1 h2)
  refine k_X0_163 Wκ1 dX0_expand_19 rfl (Nat.le_of_ble_eq_true rfl) (Nat.le_of_ble_eq_true rfl) (Or.inl (ty_atMachine Wκ1 h2)) F (fun  κ3 Wκ3 Mκ3 F => ?_) (fun _ _ h9 => False.elim h9)
  replace F := F Wκ3 Mκ3
  refine y_aln dX0_expand_22 rfl ?_
  have h6 := (ztm Wκ1 Mκ3 h2)
  refine gf_X0_9 Wκ3 dX0_expand_23 rfl h6 ?_
  replace F := F (ty_atMachine Wκ3 h6)
  refine k_X0_167 Wκ3 dX0_expand_26 rfl (Nat.le_of_ble_eq_true rfl) (Nat.le_of_ble_eq_true rfl) (Or.inl (ty_atMachine Wκ3 h6)) F (fun  κ7 Wκ7 Mκ7 F => ?_) (fun _ _ h9 => False.elim h9)
  replace F := F Wκ7 Mκ7
  refine y_aln dX0_expand_29 rfl ?_
  have h10 := (ztm Wκ3 Mκ7 h6)
  refine gf_X0_9 Wκ7 dX0_expand_30 rfl h10 ?_
  refine gf_X0_170 dX0_expand_33 rfl (Or.inl (ty_atMachine Wκ7 h10)) ?_
  refine y_ic dX0_expand_36 zi_3 ?_
  refine y_iin ((zI κ7 maWants (zR κ7 atMachine a0)) = (3 : Int32)) dX0_expand_37 (t := 44) rfl rfl (fun c9 => ?_) (fun c9 => ?_)
  · replace F := F.1 c9
    refine y_ic dX0_expand_44 zi_0 ?_
    exact y_k (t_At_expand_45  Wκ7 h10 F) ⟨rfl, rfl, rfl, trivial⟩
  · replace F := F.2 c9
    refine y_ic dX0_expand_40 zi_1 ?_
    refine y_goto dX0_expand_41 (t := 45) rfl ?_
    exact y_k (t_At_expand_45  Wκ7 h10 F) ⟨rfl, rfl, rfl, trivial⟩

theorem At_expand_run {C : zC} {n0 : Nat} {Q : Int32 → zS → Prop} {a0 : Nat} {a1 : Int32} {a2 : Int32} {κ : zS} (W : zW C n0 κ) (Ta0 : zT κ a0 = 3) (F : w_At_expand_0 C (zn κ) Q a0 a1 a2 κ) : zRun C 5 mAt_expand [.ref a0, .int a1, .int a2] κ (oI Q noX) := z_run (m_ent _ 3) (t_At_expand_0 (W.lo (Nat.le_trans W.1.2.1 W.1.2.2) (Nat.le_refl _)) Ta0 F)

theorem dX11_sizeOf_0 : decode cX11_sizeOf 0 = .ok (.aload_n 0, 1) := by decide +kernel
theorem dX11_sizeOf_1 : decode cX11_sizeOf 1 = .ok (.getfield 31, 3) := by decide +kernel
theorem dX11_sizeOf_4 : decode cX11_sizeOf 4 = .ok (.iload_n 1, 1) := by decide +kernel
theorem dX11_sizeOf_5 : decode cX11_sizeOf 5 = .ok (.iconst 1, 1) := by decide +kernel
theorem dX11_sizeOf_6 : decode cX11_sizeOf 6 = .ok (.iadd, 1) := by decide +kernel
theorem dX11_sizeOf_7 : decode cX11_sizeOf 7 = .ok (.iaload, 1) := by decide +kernel
theorem dX11_sizeOf_8 : decode cX11_sizeOf 8 = .ok (.aload_n 0, 1) := by decide +kernel
theorem dX11_sizeOf_9 : decode cX11_sizeOf 9 = .ok (.getfield 31, 3) := by decide +kernel
theorem dX11_sizeOf_12 : decode cX11_sizeOf 12 = .ok (.iload_n 1, 1) := by decide +kernel
theorem dX11_sizeOf_13 : decode cX11_sizeOf 13 = .ok (.iaload, 1) := by decide +kernel
theorem dX11_sizeOf_14 : decode cX11_sizeOf 14 = .ok (.isub, 1) := by decide +kernel
theorem dX11_sizeOf_15 : decode cX11_sizeOf 15 = .ok (.ireturn, 1) := by decide +kernel
def w_We_sizeOf_0 (C : zC) (n0 : Nat) (Q : Int32 → zS → Prop)  (a0 : Nat) (a1 : Int32) (κ : zS) : Prop :=
  inb (a1 + (1 : Int32)) (zN κ (zR κ weKnotFirsts a0)) ∧
  inb a1 (zN κ (zR κ weKnotFirsts a0)) ∧
  Q ((zA κ (zR κ weKnotFirsts a0) ((a1 + (1 : Int32))).toNatClampNeg) - (zA κ (zR κ weKnotFirsts a0) (a1).toNatClampNeg)) κ
theorem t_We_sizeOf_0 {C : zC} {n0 : Nat} {Q : Int32 → zS → Prop}   {a0 : Nat} {a1 : Int32} {κ : zS} (W : zW C n0 κ) (Ta0 : zT κ a0 = 14) (F : w_We_sizeOf_0 C n0 Q  a0 a1 κ) : zG C n0 0 mWe_sizeOf 0 [some (.ref a0), some (.int a1)] [] κ (oI Q noX) := by
  unfold w_We_sizeOf_0 at F
  refine y_aln dX11_sizeOf_0 rfl ?_
  refine gf_X11_31 W dX11_sizeOf_1 rfl Ta0 ?_
  refine y_iln dX11_sizeOf_4 rfl ?_
  refine y_ic dX11_sizeOf_5 zi_1 ?_
  refine y_iadd dX11_sizeOf_6 ?_
  refine y_ald dX11_sizeOf_7 (ty_weKnotFirsts W Ta0) F.1 ?_
  replace F := F.2
  refine y_aln dX11_sizeOf_8 rfl ?_
  refine gf_X11_31 W dX11_sizeOf_9 rfl Ta0 ?_
  refine y_iln dX11_sizeOf_12 rfl ?_
  refine y_ald dX11_sizeOf_13 (ty_weKnotFirsts W Ta0) F.1 ?_
  replace F := F.2
  refine y_isub dX11_sizeOf_14 ?_
  exact y_ri W dX11_sizeOf_15 rfl in_nar F

theorem We_sizeOf_run {C : zC} {n0 : Nat} {Q : Int32 → zS → Prop} {a0 : Nat} {a1 : Int32} {κ : zS} (W : zW C n0 κ) (Ta0 : zT κ a0 = 14) (F : w_We_sizeOf_0 C (zn κ) Q a0 a1 κ) : zRun C 0 mWe_sizeOf [.ref a0, .int a1] κ (oI Q noX) := z_run (m_ent _ 0) (t_We_sizeOf_0 (W.lo (Nat.le_trans W.1.2.1 W.1.2.2) (Nat.le_refl _)) Ta0 F)

theorem dX11_isRing_0 : decode cX11_isRing 0 = .ok (.aload_n 0, 1) := by decide +kernel
theorem dX11_isRing_1 : decode cX11_isRing 1 = .ok (.iload_n 1, 1) := by decide +kernel
theorem dX11_isRing_2 : decode cX11_isRing 2 = .ok (.invokevirtual 129, 3) := by decide +kernel
theorem dX11_isRing_5 : decode cX11_isRing 5 = .ok (.iconst 1, 1) := by decide +kernel
theorem dX11_isRing_6 : decode cX11_isRing 6 = .ok (.if_icmp .le 5, 3) := by decide +kernel
theorem dX11_isRing_9 : decode cX11_isRing 9 = .ok (.iconst 1, 1) := by decide +kernel
theorem dX11_isRing_10 : decode cX11_isRing 10 = .ok (.ireturn, 1) := by decide +kernel
theorem dX11_isRing_11 : decode cX11_isRing 11 = .ok (.aload_n 0, 1) := by decide +kernel
theorem dX11_isRing_12 : decode cX11_isRing 12 = .ok (.getfield 37, 3) := by decide +kernel
theorem dX11_isRing_15 : decode cX11_isRing 15 = .ok (.aload_n 0, 1) := by decide +kernel
theorem dX11_isRing_16 : decode cX11_isRing 16 = .ok (.getfield 31, 3) := by decide +kernel
theorem dX11_isRing_19 : decode cX11_isRing 19 = .ok (.iload_n 1, 1) := by decide +kernel
theorem dX11_isRing_20 : decode cX11_isRing 20 = .ok (.iaload, 1) := by decide +kernel
theorem dX11_isRing_21 : decode cX11_isRing 21 = .ok (.iaload, 1) := by decide +kernel
theorem dX11_isRing_22 : decode cX11_isRing 22 = .ok (.istore_n 2, 1) := by decide +kernel
theorem dX11_isRing_23 : decode cX11_isRing 23 = .ok (.aload_n 0, 1) := by decide +kernel
theorem dX11_isRing_24 : decode cX11_isRing 24 = .ok (.getfield 9, 3) := by decide +kernel
theorem dX11_isRing_27 : decode cX11_isRing 27 = .ok (.iload_n 2, 1) := by decide +kernel
theorem dX11_isRing_28 : decode cX11_isRing 28 = .ok (.iaload, 1) := by decide +kernel
theorem dX11_isRing_29 : decode cX11_isRing 29 = .ok (.istore_n 3, 1) := by decide +kernel
theorem dX11_isRing_30 : decode cX11_isRing 30 = .ok (.iload_n 3, 1) := by decide +kernel
theorem dX11_isRing_31 : decode cX11_isRing 31 = .ok (.aload_n 0, 1) := by decide +kernel
theorem dX11_isRing_32 : decode cX11_isRing 32 = .ok (.getfield 9, 3) := by decide +kernel
theorem dX11_isRing_35 : decode cX11_isRing 35 = .ok (.iload_n 2, 1) := by decide +kernel
theorem dX11_isRing_36 : decode cX11_isRing 36 = .ok (.iconst 1, 1) := by decide +kernel
theorem dX11_isRing_37 : decode cX11_isRing 37 = .ok (.iadd, 1) := by decide +kernel
theorem dX11_isRing_38 : decode cX11_isRing 38 = .ok (.iaload, 1) := by decide +kernel
theorem dX11_isRing_39 : decode cX11_isRing 39 = .ok (.if_icmp .ge 21, 3) := by decide +kernel
theorem dX11_isRing_42 : decode cX11_isRing 42 = .ok (.aload_n 0, 1) := by decide +kernel
theorem dX11_isRing_43 : decode cX11_isRing 43 = .ok (.getfield 15, 3) := by decide +kernel
theorem dX11_isRing_46 : decode cX11_isRing 46 = .ok (.iload_n 3, 1) := by decide +kernel
theorem dX11_isRing_47 : decode cX11_isRing 47 = .ok (.iaload, 1) := by decide +kernel
theorem dX11_isRing_48 : decode cX11_isRing 48 = .ok (.iload_n 2, 1) := by decide +kernel
theorem dX11_isRing_49 : decode cX11_isRing 49 = .ok (.if_icmp .ne 5, 3) := by decide +kernel
theorem dX11_isRing_52 : decode cX11_isRing 52 = .ok (.iconst 1, 1) := by decide +kernel
theorem dX11_isRing_53 : decode cX11_isRing 53 = .ok (.ireturn, 1) := by decide +kernel
theorem dX11_isRing_54 : decode cX11_isRing 54 = .ok (.iinc 3 1, 3) := by decide +kernel
theorem dX11_isRing_57 : decode cX11_isRing 57 = .ok (.goto (-27), 3) := by decide +kernel
theorem dX11_isRing_60 : decode cX11_isRing 60 = .ok (.iconst 0, 1) := by decide +kernel
theorem dX11_isRing_61 : decode cX11_isRing 61 = .ok (.ireturn, 1) := by decide +kernel
def w_We_isRing_30 (C : zC) (n0 : Nat) (Q : Int32 → zS → Prop)  (a0 : Nat) (a2 : Int32) (a3 : Int32) (κ : zS) : Prop :=
  ∃ I : Nat → Nat → Int32 → Int32 → zS → Prop, (∃ n, I n a0 a2 a3 κ) ∧ ∀ n a0 a2 a3 κ, zW C n0 κ → zT κ a0 = 14 → I n a0 a2 a3 κ →
    inb (a2 + (1 : Int32)) (zN κ (zR κ weFirsts a0)) ∧
    ((zA κ (zR κ weFirsts a0) ((a2 + (1 : Int32))).toNatClampNeg) ≤ a3 →
      Q (0 : Int32) κ) ∧
    (¬ (zA κ (zR κ weFirsts a0) ((a2 + (1 : Int32))).toNatClampNeg) ≤ a3 →
      inb a3 (zN κ (zR κ weTargets a0)) ∧
      (¬ (zA κ (zR κ weTargets a0) (a3).toNatClampNeg) = a2 →
        ∀ v3_1 : Int32, v3_1 = a3 + (1 : Int32) →
        ∃ k < n, I k a0 a2 v3_1 κ) ∧
      ((zA κ (zR κ weTargets a0) (a3).toNatClampNeg) = a2 →
        Q (1 : Int32) κ))
theorem t_We_isRing_30 {C : zC} {n0 : Nat} {Q : Int32 → zS → Prop}   {a0 : Nat} {a2 : Int32} {a3 : Int32} {κ : zS} (W : zW C n0 κ) (Ta0 : zT κ a0 = 14) (F : w_We_isRing_30 C n0 Q  a0 a2 a3 κ) : zG C n0 1 mWe_isRing 30 [some (.ref a0), none, some (.int a2), some (.int a3)] [] κ (oI Q noX) := by
  obtain ⟨I, ⟨m0, hI0⟩, F0⟩ := F
  have key : ∀ n a0 a2 a3 κ, zW C n0 κ → zT κ a0 = 14 → I n a0 a2 a3 κ → zG C n0 1 mWe_isRing 30 [some (.ref a0), none, some (.int a2), some (.int a3)] [] κ (oI Q noX) := by
    intro n
    induction n using Nat.strongRecOn with
    | _ n ih =>
      intro a0 a2 a3 κ W Ta0 hI
      have F := F0 n a0 a2 a3 κ W Ta0 hI
      clear hI hI0
      refine y_iln dX11_isRing_30 rfl ?_
      refine y_aln dX11_isRing_31 rfl ?_
      refine gf_X11_9 W dX11_isRing_32 rfl Ta0 ?_
      refine y_iln dX11_isRing_35 rfl ?_
      refine y_ic dX11_isRing_36 zi_1 ?_
      refine y_iadd dX11_isRing_37 ?_
      refine y_ald dX11_isRing_38 (ty_weFirsts W Ta0) F.1 ?_
      replace F := F.2
      refine y_ii ((zA κ (zR κ weFirsts a0) ((a2 + (1 : Int32))).toNatClampNeg) ≤ a3) dX11_isRing_39 (t := 60) rfl rfl (fun c9 => ?_) (fun c9 => ?_)
      · replace F := F.1 c9
        refine y_ic dX11_isRing_60 zi_0 ?_
        exact y_ri W dX11_isRing_61 rfl (nb_nar nb_0) F
      · replace F := F.2 c9
        refine y_aln dX11_isRing_42 rfl ?_
        refine gf_X11_15 W dX11_isRing_43 rfl Ta0 ?_
        refine y_iln dX11_isRing_46 rfl ?_
        refine y_ald dX11_isRing_47 (ty_weTargets W Ta0) F.1 ?_
        replace F := F.2
        refine y_iln dX11_isRing_48 rfl ?_
        refine y_iin ((zA κ (zR κ weTargets a0) (a3).toNatClampNeg) = a2) dX11_isRing_49 (t := 54) rfl rfl (fun c9 => ?_) (fun c9 => ?_)
        · replace F := F.1 c9
          refine y_incb dX11_isRing_54 zi_1 rfl (Nat.le_of_ble_eq_true rfl) (fun v3_1 ev3_1 => ?_)
          replace F := F v3_1 ev3_1
          refine y_goto dX11_isRing_57 (t := 30) rfl ?_
          obtain ⟨k, hk, hI⟩ := F
          exact y_k (ih k hk _ _ _ _ W Ta0 hI) ⟨rfl, rfl, rfl, trivial⟩
        · replace F := F.2 c9
          refine y_ic dX11_isRing_52 zi_1 ?_
          exact y_ri W dX11_isRing_53 rfl (nb_nar nb_1) F
  exact key m0 a0 a2 a3 κ W Ta0 hI0

def w_We_isRing_0 (C : zC) (n0 : Nat) (Q : Int32 → zS → Prop)  (a0 : Nat) (a1 : Int32) (κ : zS) : Prop :=
  ∀ _ : zT κ a0 = 14,
  zRun C 0 mWe_sizeOf [.ref a0, .int a1] κ (oI (fun r2 κ1 =>
    ∀ _ : zW C n0 κ1,
    ∀ _ : zM (zn κ) κ κ1,
    (r2 ≤ (1 : Int32) →
      inb a1 (zN κ1 (zR κ1 weKnotFirsts a0)) ∧
      inb (zA κ1 (zR κ1 weKnotFirsts a0) (a1).toNatClampNeg) (zN κ1 (zR κ1 weOrder a0)) ∧
      ∀ v2_5 : Int32, v2_5 = (zA κ1 (zR κ1 weOrder a0) ((zA κ1 (zR κ1 weKnotFirsts a0) (a1).toNatClampNeg)).toNatClampNeg) →
      inb v2_5 (zN κ1 (zR κ1 weFirsts a0)) ∧
      ∀ v3_6 : Int32, v3_6 = (zA κ1 (zR κ1 weFirsts a0) (v2_5).toNatClampNeg) →
      w_We_isRing_30 C n0 Q  a0 v2_5 v3_6 κ1) ∧
    (¬ r2 ≤ (1 : Int32) →
      Q (1 : Int32) κ1)) noX)
theorem t_We_isRing_0 {C : zC} {n0 : Nat} {Q : Int32 → zS → Prop}   {a0 : Nat} {a1 : Int32} {κ : zS} (W : zW C n0 κ) (Ta0 : zT κ a0 = 14) (F : w_We_isRing_0 C n0 Q  a0 a1 κ) : zG C n0 1 mWe_isRing 0 [some (.ref a0), some (.int a1), none, none] [] κ (oI Q noX) := by
  unfold w_We_isRing_0 at F
  refine y_aln dX11_isRing_0 rfl ?_
  refine y_iln dX11_isRing_1 rfl ?_
  replace F := F Ta0
  refine k_X11_129 W dX11_isRing_2 rfl (Nat.le_of_ble_eq_true rfl) (Nat.le_of_ble_eq_true rfl) (Or.inl Ta0) F (fun r2 κ1 Wκ1 Mκ1 F => ?_) (fun _ _ h9 => False.elim h9)
  replace F := F Wκ1 Mκ1
  refine y_ic dX11_isRing_5 zi_1 ?_
  refine y_ii (r2 ≤ (1 : Int32)) dX11_isRing_6 (t := 11) rfl rfl (fun c9 => ?_) (fun c9 => ?_)
  · replace F := F.1 c9
    refine y_aln dX11_isRing_11 rfl ?_
    have h4 := (ztm W Mκ1 Ta0)
    refine gf_X11_37 Wκ1 dX11_isRing_12 rfl h4 ?_
    refine y_aln dX11_isRing_15 rfl ?_
    refine gf_X11_31 Wκ1 dX11_isRing_16 rfl h4 ?_
    refine y_iln dX11_isRing_19 rfl ?_
    refine y_ald dX11_isRing_20 (ty_weKnotFirsts Wκ1 h4) F.1 ?_
    replace F := F.2
    refine y_ald dX11_isRing_21 (ty_weOrder Wκ1 h4) F.1 ?_
    replace F := F.2
    refine y_isnb dX11_isRing_22 (Nat.le_of_ble_eq_true rfl) (fun v2_5 ev2_5 => ?_)
    replace F := F v2_5 ev2_5
    refine y_aln dX11_isRing_23 rfl ?_
    refine gf_X11_9 Wκ1 dX11_isRing_24 rfl h4 ?_
    refine y_iln dX11_isRing_27 rfl ?_
    refine y_ald dX11_isRing_28 (ty_weFirsts Wκ1 h4) F.1 ?_
    replace F := F.2
    refine y_isnb dX11_isRing_29 (Nat.le_of_ble_eq_true rfl) (fun v3_6 ev3_6 => ?_)
    replace F := F v3_6 ev3_6
    exact y_k (t_We_isRing_30  Wκ1 h4 F) ⟨rfl, rfl, rfl, trivial⟩
  · replace F := F.2 c9
    refine y_ic dX11_isRing_9 zi_1 ?_
    exact y_ri Wκ1 dX11_isRing_10 rfl (nb_nar nb_1) F

theorem We_isRing_run {C : zC} {n0 : Nat} {Q : Int32 → zS → Prop} {a0 : Nat} {a1 : Int32} {κ : zS} (W : zW C n0 κ) (Ta0 : zT κ a0 = 14) (F : w_We_isRing_0 C (zn κ) Q a0 a1 κ) : zRun C 1 mWe_isRing [.ref a0, .int a1] κ (oI Q noX) := z_run (m_ent _ 2) (t_We_isRing_0 (W.lo (Nat.le_trans W.1.2.1 W.1.2.2) (Nat.le_refl _)) Ta0 F)

theorem dX11_tie_0 : decode cX11_tie 0 = .ok (.aload_n 0, 1) := by decide +kernel
theorem dX11_tie_1 : decode cX11_tie 1 = .ok (.getfield 31, 3) := by decide +kernel
theorem dX11_tie_4 : decode cX11_tie 4 = .ok (.aload_n 0, 1) := by decide +kernel
theorem dX11_tie_5 : decode cX11_tie 5 = .ok (.getfield 105, 3) := by decide +kernel
theorem dX11_tie_8 : decode cX11_tie 8 = .ok (.aload_n 0, 1) := by decide +kernel
theorem dX11_tie_9 : decode cX11_tie 9 = .ok (.getfield 108, 3) := by decide +kernel
theorem dX11_tie_12 : decode cX11_tie 12 = .ok (.iastore, 1) := by decide +kernel
theorem dX11_tie_13 : decode cX11_tie 13 = .ok (.iconst 1, 1) := by decide +kernel
theorem dX11_tie_14 : decode cX11_tie 14 = .ok (.istore_n 2, 1) := by decide +kernel
theorem dX11_tie_15 : decode cX11_tie 15 = .ok (.iconst 0, 1) := by decide +kernel
theorem dX11_tie_16 : decode cX11_tie 16 = .ok (.istore_n 3, 1) := by decide +kernel
theorem dX11_tie_17 : decode cX11_tie 17 = .ok (.iload_n 2, 1) := by decide +kernel
theorem dX11_tie_18 : decode cX11_tie 18 = .ok (.ifCond .eq 89, 3) := by decide +kernel
theorem dX11_tie_21 : decode cX11_tie 21 = .ok (.aload_n 0, 1) := by decide +kernel
theorem dX11_tie_22 : decode cX11_tie 22 = .ok (.getfield 111, 3) := by decide +kernel
theorem dX11_tie_25 : decode cX11_tie 25 = .ok (.ifCond .le 82, 3) := by decide +kernel
theorem dX11_tie_28 : decode cX11_tie 28 = .ok (.iload_n 3, 1) := by decide +kernel
theorem dX11_tie_29 : decode cX11_tie 29 = .ok (.aload_n 0, 1) := by decide +kernel
theorem dX11_tie_30 : decode cX11_tie 30 = .ok (.getfield 70, 3) := by decide +kernel
theorem dX11_tie_33 : decode cX11_tie 33 = .ok (.if_icmp .ge 74, 3) := by decide +kernel
theorem dX11_tie_36 : decode cX11_tie 36 = .ok (.aload_n 0, 1) := by decide +kernel
theorem dX11_tie_37 : decode cX11_tie 37 = .ok (.dup, 1) := by decide +kernel
theorem dX11_tie_38 : decode cX11_tie 38 = .ok (.getfield 111, 3) := by decide +kernel
theorem dX11_tie_41 : decode cX11_tie 41 = .ok (.iconst 1, 1) := by decide +kernel
theorem dX11_tie_42 : decode cX11_tie 42 = .ok (.isub, 1) := by decide +kernel
theorem dX11_tie_43 : decode cX11_tie 43 = .ok (.putfield 111, 3) := by decide +kernel
theorem dX11_tie_46 : decode cX11_tie 46 = .ok (.aload_n 0, 1) := by decide +kernel
theorem dX11_tie_47 : decode cX11_tie 47 = .ok (.getfield 52, 3) := by decide +kernel
theorem dX11_tie_50 : decode cX11_tie 50 = .ok (.aload_n 0, 1) := by decide +kernel
theorem dX11_tie_51 : decode cX11_tie 51 = .ok (.getfield 111, 3) := by decide +kernel
theorem dX11_tie_54 : decode cX11_tie 54 = .ok (.iaload, 1) := by decide +kernel
theorem dX11_tie_55 : decode cX11_tie 55 = .ok (.istore 4, 2) := by decide +kernel
theorem dX11_tie_57 : decode cX11_tie 57 = .ok (.aload_n 0, 1) := by decide +kernel
theorem dX11_tie_58 : decode cX11_tie 58 = .ok (.getfield 34, 3) := by decide +kernel
theorem dX11_tie_61 : decode cX11_tie 61 = .ok (.iload 4, 2) := by decide +kernel
theorem dX11_tie_63 : decode cX11_tie 63 = .ok (.aload_n 0, 1) := by decide +kernel
theorem dX11_tie_64 : decode cX11_tie 64 = .ok (.getfield 105, 3) := by decide +kernel
theorem dX11_tie_67 : decode cX11_tie 67 = .ok (.iastore, 1) := by decide +kernel
theorem dX11_tie_68 : decode cX11_tie 68 = .ok (.aload_n 0, 1) := by decide +kernel
theorem dX11_tie_69 : decode cX11_tie 69 = .ok (.getfield 37, 3) := by decide +kernel
theorem dX11_tie_72 : decode cX11_tie 72 = .ok (.aload_n 0, 1) := by decide +kernel
theorem dX11_tie_73 : decode cX11_tie 73 = .ok (.getfield 108, 3) := by decide +kernel
theorem dX11_tie_76 : decode cX11_tie 76 = .ok (.iload 4, 2) := by decide +kernel
theorem dX11_tie_78 : decode cX11_tie 78 = .ok (.iastore, 1) := by decide +kernel
theorem dX11_tie_79 : decode cX11_tie 79 = .ok (.aload_n 0, 1) := by decide +kernel
theorem dX11_tie_80 : decode cX11_tie 80 = .ok (.dup, 1) := by decide +kernel
theorem dX11_tie_81 : decode cX11_tie 81 = .ok (.getfield 108, 3) := by decide +kernel
theorem dX11_tie_84 : decode cX11_tie 84 = .ok (.iconst 1, 1) := by decide +kernel
theorem dX11_tie_85 : decode cX11_tie 85 = .ok (.iadd, 1) := by decide +kernel
theorem dX11_tie_86 : decode cX11_tie 86 = .ok (.putfield 108, 3) := by decide +kernel
theorem dX11_tie_89 : decode cX11_tie 89 = .ok (.iload 4, 2) := by decide +kernel
theorem dX11_tie_91 : decode cX11_tie 91 = .ok (.iload_n 1, 1) := by decide +kernel
theorem dX11_tie_92 : decode cX11_tie 92 = .ok (.if_icmp .eq 7, 3) := by decide +kernel
theorem dX11_tie_95 : decode cX11_tie 95 = .ok (.iconst 1, 1) := by decide +kernel
theorem dX11_tie_96 : decode cX11_tie 96 = .ok (.goto 4, 3) := by decide +kernel
theorem dX11_tie_99 : decode cX11_tie 99 = .ok (.iconst 0, 1) := by decide +kernel
theorem dX11_tie_100 : decode cX11_tie 100 = .ok (.istore_n 2, 1) := by decide +kernel
theorem dX11_tie_101 : decode cX11_tie 101 = .ok (.iinc 3 1, 3) := by decide +kernel
theorem dX11_tie_104 : decode cX11_tie 104 = .ok (.goto (-87), 3) := by decide +kernel
theorem dX11_tie_107 : decode cX11_tie 107 = .ok (.aload_n 0, 1) := by decide +kernel
theorem dX11_tie_108 : decode cX11_tie 108 = .ok (.dup, 1) := by decide +kernel
theorem dX11_tie_109 : decode cX11_tie 109 = .ok (.getfield 105, 3) := by decide +kernel
theorem dX11_tie_112 : decode cX11_tie 112 = .ok (.iconst 1, 1) := by decide +kernel
theorem dX11_tie_113 : decode cX11_tie 113 = .ok (.iadd, 1) := by decide +kernel
theorem dX11_tie_114 : decode cX11_tie 114 = .ok (.putfield 105, 3) := by decide +kernel
theorem dX11_tie_117 : decode cX11_tie 117 = .ok (.return_, 1) := by decide +kernel
def w_We_tie_100 (C : zC) (n0 : Nat) (Q : zS → Prop) (B17 : Nat → Int32 → Int32 → Int32 → zS → Prop) (a0 : Nat) (a1 : Int32) (a3 : Int32) (s0 : Int32) (κ : zS) : Prop :=
  ∀ v3_1 : Int32, v3_1 = a3 + (1 : Int32) →
  B17 a0 a1 s0 v3_1 κ
theorem t_We_tie_100 {C : zC} {n0 : Nat} {Q : zS → Prop} {B17 : Nat → Int32 → Int32 → Int32 → zS → Prop} (hB17 : ∀ a0' a1' a2' a3' τ, zW C n0 τ → zT τ a0' = 14 → B17 a0' a1' a2' a3' τ → zG C n0 0 mWe_tie 17 [some (.ref a0'), some (.int a1'), some (.int a2'), some (.int a3'), none] [] τ (oV Q noX)) {a0 : Nat} {a1 : Int32} {a3 : Int32} {s0 : Int32} {κ : zS} (W : zW C n0 κ) (Ta0 : zT κ a0 = 14) (F : w_We_tie_100 C n0 Q B17 a0 a1 a3 s0 κ) : zG C n0 0 mWe_tie 100 [some (.ref a0), some (.int a1), none, some (.int a3), none] [.int s0] κ (oV Q noX) := by
  unfold w_We_tie_100 at F
  refine y_isn dX11_tie_100 (Nat.le_of_ble_eq_true rfl) rfl ?_
  refine y_incb dX11_tie_101 zi_1 rfl (Nat.le_of_ble_eq_true rfl) (fun v3_1 ev3_1 => ?_)
  replace F := F v3_1 ev3_1
  refine y_goto dX11_tie_104 (t := 17) rfl ?_
  exact y_k (hB17 _ _ _ _ _ W Ta0 F) ⟨rfl, rfl, rfl, rfl, trivial⟩

def w_We_tie_107 (C : zC) (n0 : Nat) (Q : zS → Prop)  (a0 : Nat) (κ : zS) : Prop :=
  ∀ κ1, κ1 = ui κ weKnots a0 ((zI κ weKnots a0) + (1 : Int32)) →
  ∀ _ : zW C n0 κ1,
  Q κ1
theorem t_We_tie_107 {C : zC} {n0 : Nat} {Q : zS → Prop}   {a0 : Nat} {κ : zS} (W : zW C n0 κ) (Ta0 : zT κ a0 = 14) (F : w_We_tie_107 C n0 Q  a0 κ) : zG C n0 0 mWe_tie 107 [some (.ref a0), none, none, none, none] [] κ (oV Q noX) := by
  unfold w_We_tie_107 at F
  refine y_aln dX11_tie_107 rfl ?_
  refine y_dup dX11_tie_108 rfl ?_
  refine gf_X11_105 dX11_tie_109 rfl (Or.inl Ta0) ?_
  refine y_ic dX11_tie_112 zi_1 ?_
  refine y_iadd dX11_tie_113 ?_
  refine pf_X11_105 W dX11_tie_114 rfl (Or.inl Ta0) (fun κ1 eκ1 => ?_)
  replace F := F κ1 eκ1
  have Wκ1 : zW C n0 κ1 := zW_ui W eκ1 (fun h => absurd h (by decide))
  have Mκ1 : zM (zn κ) κ κ1 := by rw [eκ1]; exact zM.of rfl rfl rfl
  replace F := F Wκ1
  exact y_rv Wκ1 dX11_tie_117 rfl F

def w_We_tie_17 (C : zC) (n0 : Nat) (Q : zS → Prop)  (a0 : Nat) (a1 : Int32) (a2 : Int32) (a3 : Int32) (κ : zS) : Prop :=
  ∃ I : Nat → Nat → Int32 → Int32 → Int32 → zS → Prop, (∃ n, I n a0 a1 a2 a3 κ) ∧ ∀ n a0 a1 a2 a3 κ, zW C n0 κ → zT κ a0 = 14 → I n a0 a1 a2 a3 κ →
    (a2 = (0 : Int32) →
      w_We_tie_107 C n0 Q  a0 κ) ∧
    (¬ a2 = (0 : Int32) →
      ((zI κ weHeaped a0) ≤ (0 : Int32) →
        w_We_tie_107 C n0 Q  a0 κ) ∧
      (¬ (zI κ weHeaped a0) ≤ (0 : Int32) →
        ((zI κ weTotal a0) ≤ a3 →
          w_We_tie_107 C n0 Q  a0 κ) ∧
        (¬ (zI κ weTotal a0) ≤ a3 →
          ∀ κ1, κ1 = ui κ weHeaped a0 ((zI κ weHeaped a0) - (1 : Int32)) →
          ∀ _ : zW C n0 κ1,
          inb (zI κ1 weHeaped a0) (zN κ1 (zR κ1 weHeap a0)) ∧
          ∀ v4_3 : Int32, v4_3 = (zA κ1 (zR κ1 weHeap a0) ((zI κ1 weHeaped a0)).toNatClampNeg) →
          inb v4_3 (zN κ1 (zR κ1 weKnotOf a0)) ∧
          ∀ κ4, κ4 = ua κ1 (zR κ1 weKnotOf a0) (v4_3).toNatClampNeg (zI κ1 weKnots a0) →
          ∀ _ : zW C n0 κ4,
          inb (zI κ4 wePlaced a0) (zN κ4 (zR κ4 weOrder a0)) ∧
          ∀ κ6, κ6 = ua κ4 (zR κ4 weOrder a0) ((zI κ4 wePlaced a0)).toNatClampNeg v4_3 →
          ∀ _ : zW C n0 κ6,
          ∀ κ8, κ8 = ui κ6 wePlaced a0 ((zI κ6 wePlaced a0) + (1 : Int32)) →
          ∀ _ : zW C n0 κ8,
          (v4_3 = a1 →
            w_We_tie_100 C n0 Q (fun a0' a1' a2' a3' τ => ∃ k < n, I k a0' a1' a2' a3' τ) a0 a1 a3 (0 : Int32) κ8) ∧
          (¬ v4_3 = a1 →
            w_We_tie_100 C n0 Q (fun a0' a1' a2' a3' τ => ∃ k < n, I k a0' a1' a2' a3' τ) a0 a1 a3 (1 : Int32) κ8))))
theorem t_We_tie_17 {C : zC} {n0 : Nat} {Q : zS → Prop}   {a0 : Nat} {a1 : Int32} {a2 : Int32} {a3 : Int32} {κ : zS} (W : zW C n0 κ) (Ta0 : zT κ a0 = 14) (F : w_We_tie_17 C n0 Q  a0 a1 a2 a3 κ) : zG C n0 0 mWe_tie 17 [some (.ref a0), some (.int a1), some (.int a2), some (.int a3), none] [] κ (oV Q noX) := by
  obtain ⟨I, ⟨m0, hI0⟩, F0⟩ := F
  have key : ∀ n a0 a1 a2 a3 κ, zW C n0 κ → zT κ a0 = 14 → I n a0 a1 a2 a3 κ → zG C n0 0 mWe_tie 17 [some (.ref a0), some (.int a1), some (.int a2), some (.int a3), none] [] κ (oV Q noX) := by
    intro n
    induction n using Nat.strongRecOn with
    | _ n ih =>
      intro a0 a1 a2 a3 κ W Ta0 hI
      have F := F0 n a0 a1 a2 a3 κ W Ta0 hI
      clear hI hI0
      refine y_iln dX11_tie_17 rfl ?_
      refine y_i (a2 = (0 : Int32)) dX11_tie_18 (t := 107) rfl rfl (fun c9 => ?_) (fun c9 => ?_)
      · replace F := F.1 c9
        exact y_k (t_We_tie_107  W Ta0 F) ⟨rfl, trivial⟩
      · replace F := F.2 c9
        refine y_aln dX11_tie_21 rfl ?_
        refine gf_X11_111 dX11_tie_22 rfl (Or.inl Ta0) ?_
        refine y_i ((zI κ weHeaped a0) ≤ (0 : Int32)) dX11_tie_25 (t := 107) rfl rfl (fun c9 => ?_) (fun c9 => ?_)
        · replace F := F.1 c9
          exact y_k (t_We_tie_107  W Ta0 F) ⟨rfl, trivial⟩
        · replace F := F.2 c9
          refine y_iln dX11_tie_28 rfl ?_
          refine y_aln dX11_tie_29 rfl ?_
          refine gf_X11_70 dX11_tie_30 rfl (Or.inl Ta0) ?_
          refine y_ii ((zI κ weTotal a0) ≤ a3) dX11_tie_33 (t := 107) rfl rfl (fun c9 => ?_) (fun c9 => ?_)
          · replace F := F.1 c9
            exact y_k (t_We_tie_107  W Ta0 F) ⟨rfl, trivial⟩
          · replace F := F.2 c9
            refine y_aln dX11_tie_36 rfl ?_
            refine y_dup dX11_tie_37 rfl ?_
            refine gf_X11_111 dX11_tie_38 rfl (Or.inl Ta0) ?_
            refine y_ic dX11_tie_41 zi_1 ?_
            refine y_isub dX11_tie_42 ?_
            refine pf_X11_111 W dX11_tie_43 rfl (Or.inl Ta0) (fun κ1 eκ1 => ?_)
            replace F := F κ1 eκ1
            have Wκ1 : zW C n0 κ1 := zW_ui W eκ1 (fun h => absurd h (by decide))
            have Mκ1 : zM (zn κ) κ κ1 := by rw [eκ1]; exact zM.of rfl rfl rfl
            replace F := F Wκ1
            refine y_aln dX11_tie_46 rfl ?_
            have h2 := (ztm W Mκ1 Ta0)
            refine gf_X11_52 Wκ1 dX11_tie_47 rfl h2 ?_
            refine y_aln dX11_tie_50 rfl ?_
            refine gf_X11_111 dX11_tie_51 rfl (Or.inl h2) ?_
            refine y_ald dX11_tie_54 (ty_weHeap Wκ1 h2) F.1 ?_
            replace F := F.2
            refine y_isb dX11_tie_55 (Nat.le_of_ble_eq_true rfl) (fun v4_3 ev4_3 => ?_)
            replace F := F v4_3 ev4_3
            refine y_aln dX11_tie_57 rfl ?_
            refine gf_X11_34 Wκ1 dX11_tie_58 rfl h2 ?_
            refine y_il dX11_tie_61 rfl ?_
            refine y_aln dX11_tie_63 rfl ?_
            refine gf_X11_105 dX11_tie_64 rfl (Or.inl h2) ?_
            refine y_ast Wκ1 dX11_tie_67 (ty_weKnotOf Wκ1 h2) F.1 (fun κ4 eκ4 => ?_)
            replace F := F.2 κ4 eκ4
            have Wκ4 : zW C n0 κ4 := zW_ua Wκ1 eκ4 (fun h => absurd (h.symm.trans (ty_weKnotOf Wκ1 h2)) (by decide)) (fun h => absurd (h.symm.trans (ty_weKnotOf Wκ1 h2)) (by decide))
            have Mκ4 : zM (zn κ1) κ1 κ4 := by rw [eκ4]; exact zM.of rfl rfl rfl
            replace F := F Wκ4
            refine y_aln dX11_tie_68 rfl ?_
            have h5 := (ztm Wκ1 Mκ4 h2)
            refine gf_X11_37 Wκ4 dX11_tie_69 rfl h5 ?_
            refine y_aln dX11_tie_72 rfl ?_
            refine gf_X11_108 dX11_tie_73 rfl (Or.inl h5) ?_
            refine y_il dX11_tie_76 rfl ?_
            refine y_ast Wκ4 dX11_tie_78 (ty_weOrder Wκ4 h5) F.1 (fun κ6 eκ6 => ?_)
            replace F := F.2 κ6 eκ6
            have Wκ6 : zW C n0 κ6 := zW_ua Wκ4 eκ6 (fun h => absurd (h.symm.trans (ty_weOrder Wκ4 h5)) (by decide)) (fun h => absurd (h.symm.trans (ty_weOrder Wκ4 h5)) (by decide))
            have Mκ6 : zM (zn κ4) κ4 κ6 := by rw [eκ6]; exact zM.of rfl rfl rfl
            replace F := F Wκ6
            refine y_aln dX11_tie_79 rfl ?_
            refine y_dup dX11_tie_80 rfl ?_
            have h7 := (ztm Wκ4 Mκ6 h5)
            refine gf_X11_108 dX11_tie_81 rfl (Or.inl h7) ?_
            refine y_ic dX11_tie_84 zi_1 ?_
            refine y_iadd dX11_tie_85 ?_
            refine pf_X11_108 Wκ6 dX11_tie_86 rfl (Or.inl h7) (fun κ8 eκ8 => ?_)
            replace F := F κ8 eκ8
            have Wκ8 : zW C n0 κ8 := zW_ui Wκ6 eκ8 (fun h => absurd h (by decide))
            have Mκ8 : zM (zn κ6) κ6 κ8 := by rw [eκ8]; exact zM.of rfl rfl rfl
            replace F := F Wκ8
            refine y_il dX11_tie_89 rfl ?_
            refine y_iln dX11_tie_91 rfl ?_
            refine y_ii (v4_3 = a1) dX11_tie_92 (t := 99) rfl rfl (fun c9 => ?_) (fun c9 => ?_)
            · replace F := F.1 c9
              refine y_ic dX11_tie_99 zi_0 ?_
              have h9 := (ztm Wκ6 Mκ8 h7)
              exact y_k (t_We_tie_100 (fun a0' a1' a2' a3' τ w9 f09 hb => by obtain ⟨k, hk, hI⟩ := hb; exact ih k hk a0' a1' a2' a3' τ w9 f09 hI) Wκ8 h9 F) ⟨rfl, rfl, rfl, trivial⟩
            · replace F := F.2 c9
              refine y_ic dX11_tie_95 zi_1 ?_
              refine y_goto dX11_tie_96 (t := 100) rfl ?_
              have h10 := (ztm Wκ6 Mκ8 h7)
              exact y_k (t_We_tie_100 (fun a0' a1' a2' a3' τ w9 f09 hb => by obtain ⟨k, hk, hI⟩ := hb; exact ih k hk a0' a1' a2' a3' τ w9 f09 hI) Wκ8 h10 F) ⟨rfl, rfl, rfl, trivial⟩
  exact key m0 a0 a1 a2 a3 κ W Ta0 hI0

def w_We_tie_0 (C : zC) (n0 : Nat) (Q : zS → Prop)  (a0 : Nat) (a1 : Int32) (κ : zS) : Prop :=
  inb (zI κ weKnots a0) (zN κ (zR κ weKnotFirsts a0)) ∧
  ∀ κ1, κ1 = ua κ (zR κ weKnotFirsts a0) ((zI κ weKnots a0)).toNatClampNeg (zI κ wePlaced a0) →
  ∀ _ : zW C n0 κ1,
  w_We_tie_17 C n0 Q  a0 a1 (1 : Int32) (0 : Int32) κ1
theorem t_We_tie_0 {C : zC} {n0 : Nat} {Q : zS → Prop}   {a0 : Nat} {a1 : Int32} {κ : zS} (W : zW C n0 κ) (Ta0 : zT κ a0 = 14) (F : w_We_tie_0 C n0 Q  a0 a1 κ) : zG C n0 0 mWe_tie 0 [some (.ref a0), some (.int a1), none, none, none] [] κ (oV Q noX) := by
  unfold w_We_tie_0 at F
  refine y_aln dX11_tie_0 rfl ?_
  refine gf_X11_31 W dX11_tie_1 rfl Ta0 ?_
  refine y_aln dX11_tie_4 rfl ?_
  refine gf_X11_105 dX11_tie_5 rfl (Or.inl Ta0) ?_
  refine y_aln dX11_tie_8 rfl ?_
  refine gf_X11_108 dX11_tie_9 rfl (Or.inl Ta0) ?_
  refine y_ast W dX11_tie_12 (ty_weKnotFirsts W Ta0) F.1 (fun κ1 eκ1 => ?_)
  replace F := F.2 κ1 eκ1
  have Wκ1 : zW C n0 κ1 := zW_ua W eκ1 (fun h => absurd (h.symm.trans (ty_weKnotFirsts W Ta0)) (by decide)) (fun h => absurd (h.symm.trans (ty_weKnotFirsts W Ta0)) (by decide))
  have Mκ1 : zM (zn κ) κ κ1 := by rw [eκ1]; exact zM.of rfl rfl rfl
  replace F := F Wκ1
  refine y_ic dX11_tie_13 zi_1 ?_
  refine y_isn dX11_tie_14 (Nat.le_of_ble_eq_true rfl) rfl ?_
  refine y_ic dX11_tie_15 zi_0 ?_
  refine y_isn dX11_tie_16 (Nat.le_of_ble_eq_true rfl) rfl ?_
  have h2 := (ztm W Mκ1 Ta0)
  exact y_k (t_We_tie_17  Wκ1 h2 F) ⟨rfl, rfl, rfl, rfl, trivial⟩

theorem We_tie_run {C : zC} {n0 : Nat} {Q : zS → Prop} {a0 : Nat} {a1 : Int32} {κ : zS} (W : zW C n0 κ) (Ta0 : zT κ a0 = 14) (F : w_We_tie_0 C (zn κ) Q a0 a1 κ) : zRun C 0 mWe_tie [.ref a0, .int a1] κ (oV Q noX) := z_run (m_ent _ 3) (t_We_tie_0 (W.lo (Nat.le_trans W.1.2.1 W.1.2.2) (Nat.le_refl _)) Ta0 F)

