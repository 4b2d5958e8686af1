/-! methods of the class: Nu_small, Nu_takeAt, Ca_divide, Nu_bits, Nu_high, Ca_leap -/
theorem dX5_small_0 : decode cX5_small 0 = .ok (.aload_n 0, 1) := by decide +kernel
theorem dX5_small_1 : decode cX5_small 1 = .ok (.getfield 25, 3) := by decide +kernel
theorem dX5_small_4 : decode cX5_small 4 = .ok (.ifCond .ne 7, 3) := by decide +kernel
theorem dX5_small_7 : decode cX5_small 7 = .ok (.lconst 0, 1) := by decide +kernel
theorem dX5_small_8 : decode cX5_small 8 = .ok (.goto 39, 3) := by decide +kernel
theorem dX5_small_11 : decode cX5_small 11 = .ok (.aload_n 0, 1) := by decide +kernel
theorem dX5_small_12 : decode cX5_small 12 = .ok (.getfield 25, 3) := by decide +kernel
theorem dX5_small_15 : decode cX5_small 15 = .ok (.iconst 1, 1) := by decide +kernel
theorem dX5_small_16 : decode cX5_small 16 = .ok (.if_icmp .ne 13, 3) := by decide +kernel
theorem dX5_small_19 : decode cX5_small 19 = .ok (.aload_n 0, 1) := by decide +kernel
theorem dX5_small_20 : decode cX5_small 20 = .ok (.getfield 13, 3) := by decide +kernel
theorem dX5_small_23 : decode cX5_small 23 = .ok (.iconst 0, 1) := by decide +kernel
theorem dX5_small_24 : decode cX5_small 24 = .ok (.iaload, 1) := by decide +kernel
theorem dX5_small_25 : decode cX5_small 25 = .ok (.i2l, 1) := by decide +kernel
theorem dX5_small_26 : decode cX5_small 26 = .ok (.goto 21, 3) := by decide +kernel
theorem dX5_small_29 : decode cX5_small 29 = .ok (.aload_n 0, 1) := by decide +kernel
theorem dX5_small_30 : decode cX5_small 30 = .ok (.getfield 13, 3) := by decide +kernel
theorem dX5_small_33 : decode cX5_small 33 = .ok (.iconst 1, 1) := by decide +kernel
theorem dX5_small_34 : decode cX5_small 34 = .ok (.iaload, 1) := by decide +kernel
theorem dX5_small_35 : decode cX5_small 35 = .ok (.i2l, 1) := by decide +kernel
theorem dX5_small_36 : decode cX5_small 36 = .ok (.bipush 31, 2) := by decide +kernel
theorem dX5_small_38 : decode cX5_small 38 = .ok (.lshl, 1) := by decide +kernel
theorem dX5_small_39 : decode cX5_small 39 = .ok (.aload_n 0, 1) := by decide +kernel
theorem dX5_small_40 : decode cX5_small 40 = .ok (.getfield 13, 3) := by decide +kernel
theorem dX5_small_43 : decode cX5_small 43 = .ok (.iconst 0, 1) := by decide +kernel
theorem dX5_small_44 : decode cX5_small 44 = .ok (.iaload, 1) := by decide +kernel
theorem dX5_small_45 : decode cX5_small 45 = .ok (.i2l, 1) := by decide +kernel
theorem dX5_small_46 : decode cX5_small 46 = .ok (.lor, 1) := by decide +kernel
theorem dX5_small_47 : decode cX5_small 47 = .ok (.lreturn, 1) := by decide +kernel
def w_Nu_small_0 (C : zC) (n0 : Nat) (Q : Int64 → zS → Prop)  (a0 : Nat) (κ : zS) : Prop :=
  (¬ (zI κ nuLength a0) = (0 : Int32) →
    (¬ (zI κ nuLength a0) = (1 : Int32) →
      inb (1 : Int32) (zN κ (zR κ nuLimbs a0)) ∧
      inb (0 : Int32) (zN κ (zR κ nuLimbs a0)) ∧
      Q (((Int32.toInt64 (zA κ (zR κ nuLimbs a0) ((1 : Int32)).toNatClampNeg)) <<< (Int32.toInt64 (31 : Int32) &&& 63)) ||| (Int32.toInt64 (zA κ (zR κ nuLimbs a0) ((0 : Int32)).toNatClampNeg))) κ) ∧
    ((zI κ nuLength a0) = (1 : Int32) →
      inb (0 : Int32) (zN κ (zR κ nuLimbs a0)) ∧
      Q (Int32.toInt64 (zA κ (zR κ nuLimbs a0) ((0 : Int32)).toNatClampNeg)) κ)) ∧
  ((zI κ nuLength a0) = (0 : Int32) →
    Q (0 : Int64) κ)
theorem t_Nu_small_0 {C : zC} {n0 : Nat} {Q : Int64 → zS → Prop}   {a0 : Nat} {κ : zS} (W : zW C n0 κ) (Ta0 : zT κ a0 = 8) (F : w_Nu_small_0 C n0 Q  a0 κ) : zG C n0 0 mNu_small 0 [some (.ref a0)] [] κ (oJ Q noX) := by
  unfold w_Nu_small_0 at F
  refine y_aln dX5_small_0 rfl ?_
  refine gf_X5_25 dX5_small_1 rfl (Or.inl Ta0) ?_
  refine y_in ((zI κ nuLength a0) = (0 : Int32)) dX5_small_4 (t := 11) rfl rfl (fun c9 => ?_) (fun c9 => ?_)
  · replace F := F.1 c9
    refine y_aln dX5_small_11 rfl ?_
    refine gf_X5_25 dX5_small_12 rfl (Or.inl Ta0) ?_
    refine y_ic dX5_small_15 zi_1 ?_
    refine y_iin ((zI κ nuLength a0) = (1 : Int32)) dX5_small_16 (t := 29) rfl rfl (fun c9 => ?_) (fun c9 => ?_)
    · replace F := F.1 c9
      refine y_aln dX5_small_29 rfl ?_
      refine gf_X5_13 W dX5_small_30 rfl Ta0 ?_
      refine y_ic dX5_small_33 zi_1 ?_
      refine y_ald dX5_small_34 (ty_nuLimbs W Ta0) F.1 ?_
      replace F := F.2
      refine y_i2l dX5_small_35 ?_
      refine y_bi1 dX5_small_36 zb_31 ?_
      refine y_lshl dX5_small_38 ?_
      refine y_aln dX5_small_39 rfl ?_
      refine gf_X5_13 W dX5_small_40 rfl Ta0 ?_
      refine y_ic dX5_small_43 zi_0 ?_
      refine y_ald dX5_small_44 (ty_nuLimbs W Ta0) F.1 ?_
      replace F := F.2
      refine y_i2l dX5_small_45 ?_
      refine y_lor dX5_small_46 ?_
      exact y_rl W dX5_small_47 rfl F
    · replace F := F.2 c9
      refine y_aln dX5_small_19 rfl ?_
      refine gf_X5_13 W dX5_small_20 rfl Ta0 ?_
      refine y_ic dX5_small_23 zi_0 ?_
      refine y_ald dX5_small_24 (ty_nuLimbs W Ta0) F.1 ?_
      replace F := F.2
      refine y_i2l dX5_small_25 ?_
      refine y_goto dX5_small_26 (t := 47) rfl ?_
      exact y_rl W dX5_small_47 rfl F
  · replace F := F.2 c9
    refine y_lc dX5_small_7 zl_0 ?_
    refine y_goto dX5_small_8 (t := 47) rfl ?_
    exact y_rl W dX5_small_47 rfl F

theorem Nu_small_run {C : zC} {n0 : Nat} {Q : Int64 → zS → Prop} {a0 : Nat} {κ : zS} (W : zW C n0 κ) (Ta0 : zT κ a0 = 8) (F : w_Nu_small_0 C (zn κ) Q a0 κ) : zRun C 0 mNu_small [.ref a0] κ (oJ Q noX) := z_run (m_ent _ 0) (t_Nu_small_0 (W.lo (Nat.le_trans W.1.2.1 W.1.2.2) (Nat.le_refl _)) Ta0 F)

theorem dX5_takeAt_0 : decode cX5_takeAt 0 = .ok (.lconst 0, 1) := by decide +kernel
theorem dX5_takeAt_1 : decode cX5_takeAt 1 = .ok (.lstore 6, 2) := by decide +kernel
theorem dX5_takeAt_3 : decode cX5_takeAt 3 = .ok (.iconst 0, 1) := by decide +kernel
theorem dX5_takeAt_4 : decode cX5_takeAt 4 = .ok (.istore 8, 2) := by decide +kernel
theorem dX5_takeAt_6 : decode cX5_takeAt 6 = .ok (.iconst 0, 1) := by decide +kernel
theorem dX5_takeAt_7 : decode cX5_takeAt 7 = .ok (.istore 9, 2) := by decide +kernel
theorem dX5_takeAt_9 : decode cX5_takeAt 9 = .ok (.iload 9, 2) := by decide +kernel
theorem dX5_takeAt_11 : decode cX5_takeAt 11 = .ok (.iload 5, 2) := by decide +kernel
theorem dX5_takeAt_13 : decode cX5_takeAt 13 = .ok (.if_icmp .ge 79, 3) := by decide +kernel
theorem dX5_takeAt_16 : decode cX5_takeAt 16 = .ok (.lload_n 3, 1) := by decide +kernel
theorem dX5_takeAt_17 : decode cX5_takeAt 17 = .ok (.aload_n 2, 1) := by decide +kernel
theorem dX5_takeAt_18 : decode cX5_takeAt 18 = .ok (.getfield 13, 3) := by decide +kernel
theorem dX5_takeAt_21 : decode cX5_takeAt 21 = .ok (.iload 9, 2) := by decide +kernel
theorem dX5_takeAt_23 : decode cX5_takeAt 23 = .ok (.iaload, 1) := by decide +kernel
theorem dX5_takeAt_24 : decode cX5_takeAt 24 = .ok (.i2l, 1) := by decide +kernel
theorem dX5_takeAt_25 : decode cX5_takeAt 25 = .ok (.lmul, 1) := by decide +kernel
theorem dX5_takeAt_26 : decode cX5_takeAt 26 = .ok (.lload 6, 2) := by decide +kernel
theorem dX5_takeAt_28 : decode cX5_takeAt 28 = .ok (.ladd, 1) := by decide +kernel
theorem dX5_takeAt_29 : decode cX5_takeAt 29 = .ok (.lstore 10, 2) := by decide +kernel
theorem dX5_takeAt_31 : decode cX5_takeAt 31 = .ok (.lload 10, 2) := by decide +kernel
theorem dX5_takeAt_33 : decode cX5_takeAt 33 = .ok (.bipush 31, 2) := by decide +kernel
theorem dX5_takeAt_35 : decode cX5_takeAt 35 = .ok (.lushr, 1) := by decide +kernel
theorem dX5_takeAt_36 : decode cX5_takeAt 36 = .ok (.lstore 6, 2) := by decide +kernel
theorem dX5_takeAt_38 : decode cX5_takeAt 38 = .ok (.aload_n 0, 1) := by decide +kernel
theorem dX5_takeAt_39 : decode cX5_takeAt 39 = .ok (.getfield 13, 3) := by decide +kernel
theorem dX5_takeAt_42 : decode cX5_takeAt 42 = .ok (.iload_n 1, 1) := by decide +kernel
theorem dX5_takeAt_43 : decode cX5_takeAt 43 = .ok (.iload 9, 2) := by decide +kernel
theorem dX5_takeAt_45 : decode cX5_takeAt 45 = .ok (.iadd, 1) := by decide +kernel
theorem dX5_takeAt_46 : decode cX5_takeAt 46 = .ok (.iaload, 1) := by decide +kernel
theorem dX5_takeAt_47 : decode cX5_takeAt 47 = .ok (.lload 10, 2) := by decide +kernel
theorem dX5_takeAt_49 : decode cX5_takeAt 49 = .ok (.ldc2_w 29, 3) := by decide +kernel
theorem dX5_takeAt_52 : decode cX5_takeAt 52 = .ok (.land, 1) := by decide +kernel
theorem dX5_takeAt_53 : decode cX5_takeAt 53 = .ok (.l2i, 1) := by decide +kernel
theorem dX5_takeAt_54 : decode cX5_takeAt 54 = .ok (.isub, 1) := by decide +kernel
theorem dX5_takeAt_55 : decode cX5_takeAt 55 = .ok (.iload 8, 2) := by decide +kernel
theorem dX5_takeAt_57 : decode cX5_takeAt 57 = .ok (.isub, 1) := by decide +kernel
theorem dX5_takeAt_58 : decode cX5_takeAt 58 = .ok (.istore 12, 2) := by decide +kernel
theorem dX5_takeAt_60 : decode cX5_takeAt 60 = .ok (.iload 12, 2) := by decide +kernel
theorem dX5_takeAt_62 : decode cX5_takeAt 62 = .ok (.ifCond .ge 7, 3) := by decide +kernel
theorem dX5_takeAt_65 : decode cX5_takeAt 65 = .ok (.iconst 1, 1) := by decide +kernel
theorem dX5_takeAt_66 : decode cX5_takeAt 66 = .ok (.goto 4, 3) := by decide +kernel
theorem dX5_takeAt_69 : decode cX5_takeAt 69 = .ok (.iconst 0, 1) := by decide +kernel
theorem dX5_takeAt_70 : decode cX5_takeAt 70 = .ok (.istore 8, 2) := by decide +kernel
theorem dX5_takeAt_72 : decode cX5_takeAt 72 = .ok (.aload_n 0, 1) := by decide +kernel
theorem dX5_takeAt_73 : decode cX5_takeAt 73 = .ok (.getfield 13, 3) := by decide +kernel
theorem dX5_takeAt_76 : decode cX5_takeAt 76 = .ok (.iload_n 1, 1) := by decide +kernel
theorem dX5_takeAt_77 : decode cX5_takeAt 77 = .ok (.iload 9, 2) := by decide +kernel
theorem dX5_takeAt_79 : decode cX5_takeAt 79 = .ok (.iadd, 1) := by decide +kernel
theorem dX5_takeAt_80 : decode cX5_takeAt 80 = .ok (.iload 12, 2) := by decide +kernel
theorem dX5_takeAt_82 : decode cX5_takeAt 82 = .ok (.ldc 52, 2) := by decide +kernel
theorem dX5_takeAt_84 : decode cX5_takeAt 84 = .ok (.iand, 1) := by decide +kernel
theorem dX5_takeAt_85 : decode cX5_takeAt 85 = .ok (.iastore, 1) := by decide +kernel
theorem dX5_takeAt_86 : decode cX5_takeAt 86 = .ok (.iinc 9 1, 3) := by decide +kernel
theorem dX5_takeAt_89 : decode cX5_takeAt 89 = .ok (.goto (-80), 3) := by decide +kernel
theorem dX5_takeAt_92 : decode cX5_takeAt 92 = .ok (.aload_n 0, 1) := by decide +kernel
theorem dX5_takeAt_93 : decode cX5_takeAt 93 = .ok (.getfield 13, 3) := by decide +kernel
theorem dX5_takeAt_96 : decode cX5_takeAt 96 = .ok (.iload_n 1, 1) := by decide +kernel
theorem dX5_takeAt_97 : decode cX5_takeAt 97 = .ok (.iload 5, 2) := by decide +kernel
theorem dX5_takeAt_99 : decode cX5_takeAt 99 = .ok (.iadd, 1) := by decide +kernel
theorem dX5_takeAt_100 : decode cX5_takeAt 100 = .ok (.iaload, 1) := by decide +kernel
theorem dX5_takeAt_101 : decode cX5_takeAt 101 = .ok (.i2l, 1) := by decide +kernel
theorem dX5_takeAt_102 : decode cX5_takeAt 102 = .ok (.lload 6, 2) := by decide +kernel
theorem dX5_takeAt_104 : decode cX5_takeAt 104 = .ok (.lsub, 1) := by decide +kernel
theorem dX5_takeAt_105 : decode cX5_takeAt 105 = .ok (.iload 8, 2) := by decide +kernel
theorem dX5_takeAt_107 : decode cX5_takeAt 107 = .ok (.i2l, 1) := by decide +kernel
theorem dX5_takeAt_108 : decode cX5_takeAt 108 = .ok (.lsub, 1) := by decide +kernel
theorem dX5_takeAt_109 : decode cX5_takeAt 109 = .ok (.lstore 9, 2) := by decide +kernel
theorem dX5_takeAt_111 : decode cX5_takeAt 111 = .ok (.lload 9, 2) := by decide +kernel
theorem dX5_takeAt_113 : decode cX5_takeAt 113 = .ok (.lconst 0, 1) := by decide +kernel
theorem dX5_takeAt_114 : decode cX5_takeAt 114 = .ok (.lcmp, 1) := by decide +kernel
theorem dX5_takeAt_115 : decode cX5_takeAt 115 = .ok (.ifCond .lt 17, 3) := by decide +kernel
theorem dX5_takeAt_118 : decode cX5_takeAt 118 = .ok (.aload_n 0, 1) := by decide +kernel
theorem dX5_takeAt_119 : decode cX5_takeAt 119 = .ok (.getfield 13, 3) := by decide +kernel
theorem dX5_takeAt_122 : decode cX5_takeAt 122 = .ok (.iload_n 1, 1) := by decide +kernel
theorem dX5_takeAt_123 : decode cX5_takeAt 123 = .ok (.iload 5, 2) := by decide +kernel
theorem dX5_takeAt_125 : decode cX5_takeAt 125 = .ok (.iadd, 1) := by decide +kernel
theorem dX5_takeAt_126 : decode cX5_takeAt 126 = .ok (.lload 9, 2) := by decide +kernel
theorem dX5_takeAt_128 : decode cX5_takeAt 128 = .ok (.l2i, 1) := by decide +kernel
theorem dX5_takeAt_129 : decode cX5_takeAt 129 = .ok (.iastore, 1) := by decide +kernel
theorem dX5_takeAt_130 : decode cX5_takeAt 130 = .ok (.lload_n 3, 1) := by decide +kernel
theorem dX5_takeAt_131 : decode cX5_takeAt 131 = .ok (.lreturn, 1) := by decide +kernel
theorem dX5_takeAt_132 : decode cX5_takeAt 132 = .ok (.iconst 0, 1) := by decide +kernel
theorem dX5_takeAt_133 : decode cX5_takeAt 133 = .ok (.istore 11, 2) := by decide +kernel
theorem dX5_takeAt_135 : decode cX5_takeAt 135 = .ok (.iconst 0, 1) := by decide +kernel
theorem dX5_takeAt_136 : decode cX5_takeAt 136 = .ok (.istore 12, 2) := by decide +kernel
theorem dX5_takeAt_138 : decode cX5_takeAt 138 = .ok (.iload 12, 2) := by decide +kernel
theorem dX5_takeAt_140 : decode cX5_takeAt 140 = .ok (.iload 5, 2) := by decide +kernel
theorem dX5_takeAt_142 : decode cX5_takeAt 142 = .ok (.if_icmp .ge 58, 3) := by decide +kernel
theorem dX5_takeAt_145 : decode cX5_takeAt 145 = .ok (.aload_n 0, 1) := by decide +kernel
theorem dX5_takeAt_146 : decode cX5_takeAt 146 = .ok (.getfield 13, 3) := by decide +kernel
theorem dX5_takeAt_149 : decode cX5_takeAt 149 = .ok (.iload_n 1, 1) := by decide +kernel
theorem dX5_takeAt_150 : decode cX5_takeAt 150 = .ok (.iload 12, 2) := by decide +kernel
theorem dX5_takeAt_152 : decode cX5_takeAt 152 = .ok (.iadd, 1) := by decide +kernel
theorem dX5_takeAt_153 : decode cX5_takeAt 153 = .ok (.iaload, 1) := by decide +kernel
theorem dX5_takeAt_154 : decode cX5_takeAt 154 = .ok (.i2l, 1) := by decide +kernel
theorem dX5_takeAt_155 : decode cX5_takeAt 155 = .ok (.aload_n 2, 1) := by decide +kernel
theorem dX5_takeAt_156 : decode cX5_takeAt 156 = .ok (.getfield 13, 3) := by decide +kernel
theorem dX5_takeAt_159 : decode cX5_takeAt 159 = .ok (.iload 12, 2) := by decide +kernel
theorem dX5_takeAt_161 : decode cX5_takeAt 161 = .ok (.iaload, 1) := by decide +kernel
theorem dX5_takeAt_162 : decode cX5_takeAt 162 = .ok (.i2l, 1) := by decide +kernel
theorem dX5_takeAt_163 : decode cX5_takeAt 163 = .ok (.ladd, 1) := by decide +kernel
theorem dX5_takeAt_164 : decode cX5_takeAt 164 = .ok (.iload 11, 2) := by decide +kernel
theorem dX5_takeAt_166 : decode cX5_takeAt 166 = .ok (.i2l, 1) := by decide +kernel
theorem dX5_takeAt_167 : decode cX5_takeAt 167 = .ok (.ladd, 1) := by decide +kernel
theorem dX5_takeAt_168 : decode cX5_takeAt 168 = .ok (.lstore 13, 2) := by decide +kernel
theorem dX5_takeAt_170 : decode cX5_takeAt 170 = .ok (.aload_n 0, 1) := by decide +kernel
theorem dX5_takeAt_171 : decode cX5_takeAt 171 = .ok (.getfield 13, 3) := by decide +kernel
theorem dX5_takeAt_174 : decode cX5_takeAt 174 = .ok (.iload_n 1, 1) := by decide +kernel
theorem dX5_takeAt_175 : decode cX5_takeAt 175 = .ok (.iload 12, 2) := by decide +kernel
theorem dX5_takeAt_177 : decode cX5_takeAt 177 = .ok (.iadd, 1) := by decide +kernel
theorem dX5_takeAt_178 : decode cX5_takeAt 178 = .ok (.lload 13, 2) := by decide +kernel
theorem dX5_takeAt_180 : decode cX5_takeAt 180 = .ok (.ldc2_w 29, 3) := by decide +kernel
theorem dX5_takeAt_183 : decode cX5_takeAt 183 = .ok (.land, 1) := by decide +kernel
theorem dX5_takeAt_184 : decode cX5_takeAt 184 = .ok (.l2i, 1) := by decide +kernel
theorem dX5_takeAt_185 : decode cX5_takeAt 185 = .ok (.iastore, 1) := by decide +kernel
theorem dX5_takeAt_186 : decode cX5_takeAt 186 = .ok (.lload 13, 2) := by decide +kernel
theorem dX5_takeAt_188 : decode cX5_takeAt 188 = .ok (.bipush 31, 2) := by decide +kernel
theorem dX5_takeAt_190 : decode cX5_takeAt 190 = .ok (.lushr, 1) := by decide +kernel
theorem dX5_takeAt_191 : decode cX5_takeAt 191 = .ok (.l2i, 1) := by decide +kernel
theorem dX5_takeAt_192 : decode cX5_takeAt 192 = .ok (.istore 11, 2) := by decide +kernel
theorem dX5_takeAt_194 : decode cX5_takeAt 194 = .ok (.iinc 12 1, 3) := by decide +kernel
theorem dX5_takeAt_197 : decode cX5_takeAt 197 = .ok (.goto (-59), 3) := by decide +kernel
theorem dX5_takeAt_200 : decode cX5_takeAt 200 = .ok (.aload_n 0, 1) := by decide +kernel
theorem dX5_takeAt_201 : decode cX5_takeAt 201 = .ok (.getfield 13, 3) := by decide +kernel
theorem dX5_takeAt_204 : decode cX5_takeAt 204 = .ok (.iload_n 1, 1) := by decide +kernel
theorem dX5_takeAt_205 : decode cX5_takeAt 205 = .ok (.iload 5, 2) := by decide +kernel
theorem dX5_takeAt_207 : decode cX5_takeAt 207 = .ok (.iadd, 1) := by decide +kernel
theorem dX5_takeAt_208 : decode cX5_takeAt 208 = .ok (.iconst 0, 1) := by decide +kernel
theorem dX5_takeAt_209 : decode cX5_takeAt 209 = .ok (.iastore, 1) := by decide +kernel
theorem dX5_takeAt_210 : decode cX5_takeAt 210 = .ok (.lload_n 3, 1) := by decide +kernel
theorem dX5_takeAt_211 : decode cX5_takeAt 211 = .ok (.lconst 1, 1) := by decide +kernel
theorem dX5_takeAt_212 : decode cX5_takeAt 212 = .ok (.lsub, 1) := by decide +kernel
theorem dX5_takeAt_213 : decode cX5_takeAt 213 = .ok (.lreturn, 1) := by decide +kernel
def w_Nu_takeAt_70 (C : zC) (n0 : Nat) (Q : Int64 → zS → Prop) (B9 : Nat → Int32 → Nat → Int64 → Int32 → Int64 → Int32 → Int32 → zS → Prop) (a0 : Nat) (a1 : Int32) (a2 : Nat) (a3 : Int64) (a5 : Int32) (a6 : Int64) (a9 : Int32) (a12 : Int32) (s0 : Int32) (κ : zS) : Prop :=
  inb (a1 + a9) (zN κ (zR κ nuLimbs a0)) ∧
  ∀ κ1, κ1 = ua κ (zR κ nuLimbs a0) ((a1 + a9)).toNatClampNeg (a12 &&& (2147483647 : Int32)) →
  ∀ _ : zW C n0 κ1,
  ∀ v9_2 : Int32, v9_2 = a9 + (1 : Int32) →
  B9 a0 a1 a2 a3 a5 a6 s0 v9_2 κ1
theorem t_Nu_takeAt_70 {C : zC} {n0 : Nat} {Q : Int64 → zS → Prop} {B9 : Nat → Int32 → Nat → Int64 → Int32 → Int64 → Int32 → Int32 → zS → Prop} (hB9 : ∀ a0' a1' a2' a3' a5' a6' a8' a9' τ, zW C n0 τ → zT τ a0' = 8 → zT τ a2' = 8 → B9 a0' a1' a2' a3' a5' a6' a8' a9' τ → zG C n0 0 mNu_takeAt 9 [some (.ref a0'), some (.int a1'), some (.ref a2'), some (.long a3'), none, some (.int a5'), some (.long a6'), none, some (.int a8'), some (.int a9'), none, none, none, none, none] [] τ (oJ Q noX)) {a0 : Nat} {a1 : Int32} {a2 : Nat} {a3 : Int64} {a5 : Int32} {a6 : Int64} {a9 : Int32} {a12 : Int32} {s0 : Int32} {κ : zS} (W : zW C n0 κ) (Ta0 : zT κ a0 = 8) (Ta2 : zT κ a2 = 8) (F : w_Nu_takeAt_70 C n0 Q B9 a0 a1 a2 a3 a5 a6 a9 a12 s0 κ) : zG C n0 0 mNu_takeAt 70 [some (.ref a0), some (.int a1), some (.ref a2), some (.long a3), none, some (.int a5), some (.long a6), none, none, some (.int a9), none, none, some (.int a12), none, none] [.int s0] κ (oJ Q noX) := by
  unfold w_Nu_takeAt_70 at F
  refine y_is dX5_takeAt_70 (Nat.le_of_ble_eq_true rfl) rfl ?_
  refine y_aln dX5_takeAt_72 rfl ?_
  refine gf_X5_13 W dX5_takeAt_73 rfl Ta0 ?_
  refine y_iln dX5_takeAt_76 rfl ?_
  refine y_il dX5_takeAt_77 rfl ?_
  refine y_iadd dX5_takeAt_79 ?_
  refine y_il dX5_takeAt_80 rfl ?_
  refine y_ldc dX5_takeAt_82 rfl zcn_X5_52 ?_
  refine y_iand dX5_takeAt_84 ?_
  refine y_ast W dX5_takeAt_85 (ty_nuLimbs W Ta0) F.1 (fun κ1 eκ1 => ?_)
  replace F := F.2 κ1 eκ1
  have Wκ1 : zW C n0 κ1 := zW_ua W eκ1 (fun h => absurd (h.symm.trans (ty_nuLimbs W Ta0)) (by decide)) (fun h => absurd (h.symm.trans (ty_nuLimbs W Ta0)) (by decide))
  have Mκ1 : zM (zn κ) κ κ1 := by rw [eκ1]; exact zM.of rfl rfl rfl
  replace F := F Wκ1
  refine y_incb dX5_takeAt_86 zi_1 rfl (Nat.le_of_ble_eq_true rfl) (fun v9_2 ev9_2 => ?_)
  replace F := F v9_2 ev9_2
  refine y_goto dX5_takeAt_89 (t := 9) rfl ?_
  have h3 := (ztm W Mκ1 Ta0)
  have h4 := (ztm W Mκ1 Ta2)
  exact y_k (hB9 _ _ _ _ _ _ _ _ _ Wκ1 h3 h4 F) ⟨rfl, rfl, rfl, rfl, rfl, rfl, rfl, rfl, trivial⟩

def w_Nu_takeAt_138 (C : zC) (n0 : Nat) (Q : Int64 → zS → Prop)  (a0 : Nat) (a1 : Int32) (a2 : Nat) (a3 : Int64) (a5 : Int32) (a11 : Int32) (a12 : Int32) (κ : zS) : Prop :=
  ∃ I : Nat → Nat → Int32 → Nat → Int64 → Int32 → Int32 → Int32 → zS → Prop, (∃ n, I n a0 a1 a2 a3 a5 a11 a12 κ) ∧ ∀ n a0 a1 a2 a3 a5 a11 a12 κ, zW C n0 κ → zT κ a0 = 8 → zT κ a2 = 8 → I n a0 a1 a2 a3 a5 a11 a12 κ →
    (a5 ≤ a12 →
      inb (a1 + a5) (zN κ (zR κ nuLimbs a0)) ∧
      ∀ κ1, κ1 = ua κ (zR κ nuLimbs a0) ((a1 + a5)).toNatClampNeg (0 : Int32) →
      ∀ _ : zW C n0 κ1,
      Q (a3 - (1 : Int64)) κ1) ∧
    (¬ a5 ≤ a12 →
      inb (a1 + a12) (zN κ (zR κ nuLimbs a0)) ∧
      inb a12 (zN κ (zR κ nuLimbs a2)) ∧
      ∀ v13_2 : Int64, v13_2 = (((Int32.toInt64 (zA κ (zR κ nuLimbs a0) ((a1 + a12)).toNatClampNeg)) + (Int32.toInt64 (zA κ (zR κ nuLimbs a2) (a12).toNatClampNeg))) + (Int32.toInt64 a11)) →
      inb (a1 + a12) (zN κ (zR κ nuLimbs a0)) ∧
      ∀ κ3, κ3 = ua κ (zR κ nuLimbs a0) ((a1 + a12)).toNatClampNeg (Int64.toInt32 (v13_2 &&& (2147483647 : Int64))) →
      ∀ _ : zW C n0 κ3,
      ∀ v11_4 : Int32, v11_4 = (Int64.toInt32 (Int64.toUInt64 v13_2 >>> (Int64.toUInt64 (Int32.toInt64 (31 : Int32)) &&& Int64.toUInt64 63)).toInt64) →
      ∀ v12_5 : Int32, v12_5 = a12 + (1 : Int32) →
      ∃ k < n, I k a0 a1 a2 a3 a5 v11_4 v12_5 κ3)
theorem t_Nu_takeAt_138 {C : zC} {n0 : Nat} {Q : Int64 → zS → Prop}   {a0 : Nat} {a1 : Int32} {a2 : Nat} {a3 : Int64} {a5 : Int32} {a11 : Int32} {a12 : Int32} {κ : zS} (W : zW C n0 κ) (Ta0 : zT κ a0 = 8) (Ta2 : zT κ a2 = 8) (F : w_Nu_takeAt_138 C n0 Q  a0 a1 a2 a3 a5 a11 a12 κ) : zG C n0 0 mNu_takeAt 138 [some (.ref a0), some (.int a1), some (.ref a2), some (.long a3), none, some (.int a5), none, none, none, none, none, some (.int a11), some (.int a12), none, none] [] κ (oJ Q noX) := by
  obtain ⟨I, ⟨m0, hI0⟩, F0⟩ := F
  have key : ∀ n a0 a1 a2 a3 a5 a11 a12 κ, zW C n0 κ → zT κ a0 = 8 → zT κ a2 = 8 → I n a0 a1 a2 a3 a5 a11 a12 κ → zG C n0 0 mNu_takeAt 138 [some (.ref a0), some (.int a1), some (.ref a2), some (.long a3), none, some (.int a5), none, none, none, none, none, some (.int a11), some (.int a12), none, none] [] κ (oJ Q noX) := by
    intro n
    induction n using Nat.strongRecOn with
    | _ n ih =>
      intro a0 a1 a2 a3 a5 a11 a12 κ W Ta0 Ta2 hI
      have F := F0 n a0 a1 a2 a3 a5 a11 a12 κ W Ta0 Ta2 hI
      clear hI hI0
      refine y_il dX5_takeAt_138 rfl ?_
      refine y_il dX5_takeAt_140 rfl ?_
      refine y_ii (a5 ≤ a12) dX5_takeAt_142 (t := 200) rfl rfl (fun c9 => ?_) (fun c9 => ?_)
      · replace F := F.1 c9
        refine y_aln dX5_takeAt_200 rfl ?_
        refine gf_X5_13 W dX5_takeAt_201 rfl Ta0 ?_
        refine y_iln dX5_takeAt_204 rfl ?_
        refine y_il dX5_takeAt_205 rfl ?_
        refine y_iadd dX5_takeAt_207 ?_
        refine y_ic dX5_takeAt_208 zi_0 ?_
        refine y_ast W dX5_takeAt_209 (ty_nuLimbs W Ta0) F.1 (fun κ1 eκ1 => ?_)
        replace F := F.2 κ1 eκ1
        have Wκ1 : zW C n0 κ1 := zW_ua W eκ1 (fun h => absurd (h.symm.trans (ty_nuLimbs W Ta0)) (by decide)) (fun h => absurd (h.symm.trans (ty_nuLimbs W Ta0)) (by decide))
        have Mκ1 : zM (zn κ) κ κ1 := by rw [eκ1]; exact zM.of rfl rfl rfl
        replace F := F Wκ1
        refine y_lln dX5_takeAt_210 rfl ?_
        refine y_lc dX5_takeAt_211 zl_1 ?_
        refine y_lsub dX5_takeAt_212 ?_
        exact y_rl Wκ1 dX5_takeAt_213 rfl F
      · replace F := F.2 c9
        refine y_aln dX5_takeAt_145 rfl ?_
        refine gf_X5_13 W dX5_takeAt_146 rfl Ta0 ?_
        refine y_iln dX5_takeAt_149 rfl ?_
        refine y_il dX5_takeAt_150 rfl ?_
        refine y_iadd dX5_takeAt_152 ?_
        refine y_ald dX5_takeAt_153 (ty_nuLimbs W Ta0) F.1 ?_
        replace F := F.2
        refine y_i2l dX5_takeAt_154 ?_
        refine y_aln dX5_takeAt_155 rfl ?_
        refine gf_X5_13 W dX5_takeAt_156 rfl Ta2 ?_
        refine y_il dX5_takeAt_159 rfl ?_
        refine y_ald dX5_takeAt_161 (ty_nuLimbs W Ta2) F.1 ?_
        replace F := F.2
        refine y_i2l dX5_takeAt_162 ?_
        refine y_ladd dX5_takeAt_163 ?_
        refine y_il dX5_takeAt_164 rfl ?_
        refine y_i2l dX5_takeAt_166 ?_
        refine y_ladd dX5_takeAt_167 ?_
        refine y_lsb dX5_takeAt_168 (Nat.le_of_ble_eq_true rfl) (fun v13_2 ev13_2 => ?_)
        replace F := F v13_2 ev13_2
        refine y_aln dX5_takeAt_170 rfl ?_
        refine gf_X5_13 W dX5_takeAt_171 rfl Ta0 ?_
        refine y_iln dX5_takeAt_174 rfl ?_
        refine y_il dX5_takeAt_175 rfl ?_
        refine y_iadd dX5_takeAt_177 ?_
        refine y_ll dX5_takeAt_178 rfl ?_
        refine y_ldcl dX5_takeAt_180 rfl zcl_X5_29 ?_
        refine y_land dX5_takeAt_183 ?_
        refine y_l2i dX5_takeAt_184 ?_
        refine y_ast W dX5_takeAt_185 (ty_nuLimbs W Ta0) F.1 (fun κ3 eκ3 => ?_)
        replace F := F.2 κ3 eκ3
        have Wκ3 : zW C n0 κ3 := zW_ua W eκ3 (fun h => absurd (h.symm.trans (ty_nuLimbs W Ta0)) (by decide)) (fun h => absurd (h.symm.trans (ty_nuLimbs W Ta0)) (by decide))
        have Mκ3 : zM (zn κ) κ κ3 := by rw [eκ3]; exact zM.of rfl rfl rfl
        replace F := F Wκ3
        refine y_ll dX5_takeAt_186 rfl ?_
        refine y_bi1 dX5_takeAt_188 zb_31 ?_
        refine y_lushr dX5_takeAt_190 ?_
        refine y_l2i dX5_takeAt_191 ?_
        refine y_isb dX5_takeAt_192 (Nat.le_of_ble_eq_true rfl) (fun v11_4 ev11_4 => ?_)
        replace F := F v11_4 ev11_4
        refine y_incb dX5_takeAt_194 zi_1 rfl (Nat.le_of_ble_eq_true rfl) (fun v12_5 ev12_5 => ?_)
        replace F := F v12_5 ev12_5
        refine y_goto dX5_takeAt_197 (t := 138) rfl ?_
        have h6 := (ztm W Mκ3 Ta0)
        have h7 := (ztm W Mκ3 Ta2)
        obtain ⟨k, hk, hI⟩ := F
        exact y_k (ih k hk _ _ _ _ _ _ _ _ Wκ3 h6 h7 hI) ⟨rfl, rfl, rfl, rfl, rfl, rfl, rfl, trivial⟩
  exact key m0 a0 a1 a2 a3 a5 a11 a12 κ W Ta0 Ta2 hI0

def w_Nu_takeAt_9 (C : zC) (n0 : Nat) (Q : Int64 → zS → Prop)  (a0 : Nat) (a1 : Int32) (a2 : Nat) (a3 : Int64) (a5 : Int32) (a6 : Int64) (a8 : Int32) (a9 : Int32) (κ : zS) : Prop :=
  ∃ I : Nat → Nat → Int32 → Nat → Int64 → Int32 → Int64 → Int32 → Int32 → zS → Prop, (∃ n, I n a0 a1 a2 a3 a5 a6 a8 a9 κ) ∧ ∀ n a0 a1 a2 a3 a5 a6 a8 a9 κ, zW C n0 κ → zT κ a0 = 8 → zT κ a2 = 8 → I n a0 a1 a2 a3 a5 a6 a8 a9 κ →
    (a5 ≤ a9 →
      inb (a1 + a5) (zN κ (zR κ nuLimbs a0)) ∧
      ∀ v9_1 : Int64, v9_1 = (((Int32.toInt64 (zA κ (zR κ nuLimbs a0) ((a1 + a5)).toNatClampNeg)) - a6) - (Int32.toInt64 a8)) →
      ((lg_cmp v9_1 (0 : Int64)) < (0 : Int32) →
        w_Nu_takeAt_138 C n0 Q  a0 a1 a2 a3 a5 (0 : Int32) (0 : Int32) κ) ∧
      (¬ (lg_cmp v9_1 (0 : Int64)) < (0 : Int32) →
        inb (a1 + a5) (zN κ (zR κ nuLimbs a0)) ∧
        ∀ κ2, κ2 = ua κ (zR κ nuLimbs a0) ((a1 + a5)).toNatClampNeg (Int64.toInt32 v9_1) →
        ∀ _ : zW C n0 κ2,
        Q a3 κ2)) ∧
    (¬ a5 ≤ a9 →
      inb a9 (zN κ (zR κ nuLimbs a2)) ∧
      ∀ v10_3 : Int64, v10_3 = ((a3 * (Int32.toInt64 (zA κ (zR κ nuLimbs a2) (a9).toNatClampNeg))) + a6) →
      ∀ v6_4 : Int64, v6_4 = (Int64.toUInt64 v10_3 >>> (Int64.toUInt64 (Int32.toInt64 (31 : Int32)) &&& Int64.toUInt64 63)).toInt64 →
      inb (a1 + a9) (zN κ (zR κ nuLimbs a0)) ∧
      ∀ v12_5 : Int32, v12_5 = (((zA κ (zR κ nuLimbs a0) ((a1 + a9)).toNatClampNeg) - (Int64.toInt32 (v10_3 &&& (2147483647 : Int64)))) - a8) →
      ((0 : Int32) ≤ v12_5 →
        w_Nu_takeAt_70 C n0 Q (fun a0' a1' a2' a3' a5' a6' a8' a9' τ => ∃ k < n, I k a0' a1' a2' a3' a5' a6' a8' a9' τ) a0 a1 a2 a3 a5 v6_4 a9 v12_5 (0 : Int32) κ) ∧
      (¬ (0 : Int32) ≤ v12_5 →
        w_Nu_takeAt_70 C n0 Q (fun a0' a1' a2' a3' a5' a6' a8' a9' τ => ∃ k < n, I k a0' a1' a2' a3' a5' a6' a8' a9' τ) a0 a1 a2 a3 a5 v6_4 a9 v12_5 (1 : Int32) κ))
theorem t_Nu_takeAt_9 {C : zC} {n0 : Nat} {Q : Int64 → zS → Prop}   {a0 : Nat} {a1 : Int32} {a2 : Nat} {a3 : Int64} {a5 : Int32} {a6 : Int64} {a8 : Int32} {a9 : Int32} {κ : zS} (W : zW C n0 κ) (Ta0 : zT κ a0 = 8) (Ta2 : zT κ a2 = 8) (F : w_Nu_takeAt_9 C n0 Q  a0 a1 a2 a3 a5 a6 a8 a9 κ) : zG C n0 0 mNu_takeAt 9 [some (.ref a0), some (.int a1), some (.ref a2), some (.long a3), none, some (.int a5), some (.long a6), none, some (.int a8), some (.int a9), none, none, none, none, none] [] κ (oJ Q noX) := by
  obtain ⟨I, ⟨m0, hI0⟩, F0⟩ := F
  have key : ∀ n a0 a1 a2 a3 a5 a6 a8 a9 κ, zW C n0 κ → zT κ a0 = 8 → zT κ a2 = 8 → I n a0 a1 a2 a3 a5 a6 a8 a9 κ → zG C n0 0 mNu_takeAt 9 [some (.ref a0), some (.int a1), some (.ref a2), some (.long a3), none, some (.int a5), some (.long a6), none, some (.int a8), some (.int a9), none, none, none, none, none] [] κ (oJ Q noX) := by
    intro n
    induction n using Nat.strongRecOn with
    | _ n ih =>
      intro a0 a1 a2 a3 a5 a6 a8 a9 κ W Ta0 Ta2 hI
      have F := F0 n a0 a1 a2 a3 a5 a6 a8 a9 κ W Ta0 Ta2 hI
      clear hI hI0
      refine y_il dX5_takeAt_9 rfl ?_
      refine y_il dX5_takeAt_11 rfl ?_
      refine y_ii (a5 ≤ a9) dX5_takeAt_13 (t := 92) rfl rfl (fun c9 => ?_) (fun c9 => ?_)
      · replace F := F.1 c9
        refine y_aln dX5_takeAt_92 rfl ?_
        refine gf_X5_13 W dX5_takeAt_93 rfl Ta0 ?_
        refine y_iln dX5_takeAt_96 rfl ?_
        refine y_il dX5_takeAt_97 rfl ?_
        refine y_iadd dX5_takeAt_99 ?_
        refine y_ald dX5_takeAt_100 (ty_nuLimbs W Ta0) F.1 ?_
        replace F := F.2
        refine y_i2l dX5_takeAt_101 ?_
        refine y_ll dX5_takeAt_102 rfl ?_
        refine y_lsub dX5_takeAt_104 ?_
        refine y_il dX5_takeAt_105 rfl ?_
        refine y_i2l dX5_takeAt_107 ?_
        refine y_lsub dX5_takeAt_108 ?_
        refine y_lsb dX5_takeAt_109 (Nat.le_of_ble_eq_true rfl) (fun v9_1 ev9_1 => ?_)
        replace F := F v9_1 ev9_1
        refine y_ll dX5_takeAt_111 rfl ?_
        refine y_lc dX5_takeAt_113 zl_0 ?_
        refine y_lcmp dX5_takeAt_114 ?_
        refine y_i ((lg_cmp v9_1 (0 : Int64)) < (0 : Int32)) dX5_takeAt_115 (t := 132) rfl rfl (fun c9 => ?_) (fun c9 => ?_)
        · replace F := F.1 c9
          refine y_ic dX5_takeAt_132 zi_0 ?_
          refine y_is dX5_takeAt_133 (Nat.le_of_ble_eq_true rfl) rfl ?_
          refine y_ic dX5_takeAt_135 zi_0 ?_
          refine y_is dX5_takeAt_136 (Nat.le_of_ble_eq_true rfl) rfl ?_
          exact y_k (t_Nu_takeAt_138  W Ta0 Ta2 F) ⟨rfl, rfl, rfl, rfl, rfl, rfl, rfl, trivial⟩
        · replace F := F.2 c9
          refine y_aln dX5_takeAt_118 rfl ?_
          refine gf_X5_13 W dX5_takeAt_119 rfl Ta0 ?_
          refine y_iln dX5_takeAt_122 rfl ?_
          refine y_il dX5_takeAt_123 rfl ?_
          refine y_iadd dX5_takeAt_125 ?_
          refine y_ll dX5_takeAt_126 rfl ?_
          refine y_l2i dX5_takeAt_128 ?_
          refine y_ast W dX5_takeAt_129 (ty_nuLimbs W Ta0) F.1 (fun κ2 eκ2 => ?_)
          replace F := F.2 κ2 eκ2
          have Wκ2 : zW C n0 κ2 := zW_ua W eκ2 (fun h => absurd (h.symm.trans (ty_nuLimbs W Ta0)) (by decide)) (fun h => absurd (h.symm.trans (ty_nuLimbs W Ta0)) (by decide))
          have Mκ2 : zM (zn κ) κ κ2 := by rw [eκ2]; exact zM.of rfl rfl rfl
          replace F := F Wκ2
          refine y_lln dX5_takeAt_130 rfl ?_
          exact y_rl Wκ2 dX5_takeAt_131 rfl F
      · replace F := F.2 c9
        refine y_lln dX5_takeAt_16 rfl ?_
        refine y_aln dX5_takeAt_17 rfl ?_
        refine gf_X5_13 W dX5_takeAt_18 rfl Ta2 ?_
        refine y_il dX5_takeAt_21 rfl ?_
        refine y_ald dX5_takeAt_23 (ty_nuLimbs W Ta2) F.1 ?_
        replace F := F.2
        refine y_i2l dX5_takeAt_24 ?_
        refine y_lmul dX5_takeAt_25 ?_
        refine y_ll dX5_takeAt_26 rfl ?_
        refine y_ladd dX5_takeAt_28 ?_
        refine y_lsb dX5_takeAt_29 (Nat.le_of_ble_eq_true rfl) (fun v10_3 ev10_3 => ?_)
        replace F := F v10_3 ev10_3
        refine y_ll dX5_takeAt_31 rfl ?_
        refine y_bi1 dX5_takeAt_33 zb_31 ?_
        refine y_lushr dX5_takeAt_35 ?_
        refine y_lsb dX5_takeAt_36 (Nat.le_of_ble_eq_true rfl) (fun v6_4 ev6_4 => ?_)
        replace F := F v6_4 ev6_4
        refine y_aln dX5_takeAt_38 rfl ?_
        refine gf_X5_13 W dX5_takeAt_39 rfl Ta0 ?_
        refine y_iln dX5_takeAt_42 rfl ?_
        refine y_il dX5_takeAt_43 rfl ?_
        refine y_iadd dX5_takeAt_45 ?_
        refine y_ald dX5_takeAt_46 (ty_nuLimbs W Ta0) F.1 ?_
        replace F := F.2
        refine y_ll dX5_takeAt_47 rfl ?_
        refine y_ldcl dX5_takeAt_49 rfl zcl_X5_29 ?_
        refine y_land dX5_takeAt_52 ?_
        refine y_l2i dX5_takeAt_53 ?_
        refine y_isub dX5_takeAt_54 ?_
        refine y_il dX5_takeAt_55 rfl ?_
        refine y_isub dX5_takeAt_57 ?_
        refine y_isb dX5_takeAt_58 (Nat.le_of_ble_eq_true rfl) (fun v12_5 ev12_5 => ?_)
        replace F := F v12_5 ev12_5
        refine y_il dX5_takeAt_60 rfl ?_
        refine y_i ((0 : Int32) ≤ v12_5) dX5_takeAt_62 (t := 69) rfl rfl (fun c9 => ?_) (fun c9 => ?_)
        · replace F := F.1 c9
          refine y_ic dX5_takeAt_69 zi_0 ?_
          exact y_k (t_Nu_takeAt_70 (fun a0' a1' a2' a3' a5' a6' a8' a9' τ w9 f09 f19 hb => by obtain ⟨k, hk, hI⟩ := hb; exact ih k hk a0' a1' a2' a3' a5' a6' a8' a9' τ w9 f09 f19 hI) W Ta0 Ta2 F) ⟨rfl, rfl, rfl, rfl, rfl, rfl, rfl, rfl, trivial⟩
        · replace F := F.2 c9
          refine y_ic dX5_takeAt_65 zi_1 ?_
          refine y_goto dX5_takeAt_66 (t := 70) rfl ?_
          exact y_k (t_Nu_takeAt_70 (fun a0' a1' a2' a3' a5' a6' a8' a9' τ w9 f09 f19 hb => by obtain ⟨k, hk, hI⟩ := hb; exact ih k hk a0' a1' a2' a3' a5' a6' a8' a9' τ w9 f09 f19 hI) W Ta0 Ta2 F) ⟨rfl, rfl, rfl, rfl, rfl, rfl, rfl, rfl, trivial⟩
  exact key m0 a0 a1 a2 a3 a5 a6 a8 a9 κ W Ta0 Ta2 hI0

def w_Nu_takeAt_0 (C : zC) (n0 : Nat) (Q : Int64 → zS → Prop)  (a0 : Nat) (a1 : Int32) (a2 : Nat) (a3 : Int64) (a5 : Int32) (κ : zS) : Prop :=
  w_Nu_takeAt_9 C n0 Q  a0 a1 a2 a3 a5 (0 : Int64) (0 : Int32) (0 : Int32) κ
theorem t_Nu_takeAt_0 {C : zC} {n0 : Nat} {Q : Int64 → zS → Prop}   {a0 : Nat} {a1 : Int32} {a2 : Nat} {a3 : Int64} {a5 : Int32} {κ : zS} (W : zW C n0 κ) (Ta0 : zT κ a0 = 8) (Ta2 : zT κ a2 = 8) (F : w_Nu_takeAt_0 C n0 Q  a0 a1 a2 a3 a5 κ) : zG C n0 0 mNu_takeAt 0 [some (.ref a0), some (.int a1), some (.ref a2), some (.long a3), none, some (.int a5), none, none, none, none, none, none, none, none, none] [] κ (oJ Q noX) := by
  unfold w_Nu_takeAt_0 at F
  refine y_lc dX5_takeAt_0 zl_0 ?_
  refine y_ls dX5_takeAt_1 (Nat.le_of_ble_eq_true rfl) rfl ?_
  refine y_ic dX5_takeAt_3 zi_0 ?_
  refine y_is dX5_takeAt_4 (Nat.le_of_ble_eq_true rfl) rfl ?_
  refine y_ic dX5_takeAt_6 zi_0 ?_
  refine y_is dX5_takeAt_7 (Nat.le_of_ble_eq_true rfl) rfl ?_
  exact y_k (t_Nu_takeAt_9  W Ta0 Ta2 F) ⟨rfl, rfl, rfl, rfl, rfl, rfl, rfl, rfl, trivial⟩

theorem Nu_takeAt_run {C : zC} {n0 : Nat} {Q : Int64 → zS → Prop} {a0 : Nat} {a1 : Int32} {a2 : Nat} {a3 : Int64} {a5 : Int32} {κ : zS} (W : zW C n0 κ) (Ta0 : zT κ a0 = 8) (Ta2 : zT κ a2 = 8) (F : w_Nu_takeAt_0 C (zn κ) Q a0 a1 a2 a3 a5 κ) : zRun C 0 mNu_takeAt [.ref a0, .int a1, .ref a2, .long a3, .int a5] κ (oJ Q noX) := z_run (m_ent _ 9) (t_Nu_takeAt_0 (W.lo (Nat.le_trans W.1.2.1 W.1.2.2) (Nat.le_refl _)) Ta0 Ta2 F)

theorem dX1_divide_0 : decode cX1_divide 0 = .ok (.aload_n 2, 1) := by decide +kernel
theorem dX1_divide_1 : decode cX1_divide 1 = .ok (.getfield 37, 3) := by decide +kernel
theorem dX1_divide_4 : decode cX1_divide 4 = .ok (.ifCond .eq 11, 3) := by decide +kernel
theorem dX1_divide_7 : decode cX1_divide 7 = .ok (.aload_n 1, 1) := by decide +kernel
theorem dX1_divide_8 : decode cX1_divide 8 = .ok (.aload_n 2, 1) := by decide +kernel
theorem dX1_divide_9 : decode cX1_divide 9 = .ok (.invokevirtual 41, 3) := by decide +kernel
theorem dX1_divide_12 : decode cX1_divide 12 = .ok (.ifCond .ge 20, 3) := by decide +kernel
theorem dX1_divide_15 : decode cX1_divide 15 = .ok (.aload_n 0, 1) := by decide +kernel
theorem dX1_divide_16 : decode cX1_divide 16 = .ok (.getfield 18, 3) := by decide +kernel
theorem dX1_divide_19 : decode cX1_divide 19 = .ok (.lconst 0, 1) := by decide +kernel
theorem dX1_divide_20 : decode cX1_divide 20 = .ok (.invokevirtual 45, 3) := by decide +kernel
theorem dX1_divide_23 : decode cX1_divide 23 = .ok (.aload_n 0, 1) := by decide +kernel
theorem dX1_divide_24 : decode cX1_divide 24 = .ok (.getfield 22, 3) := by decide +kernel
theorem dX1_divide_27 : decode cX1_divide 27 = .ok (.aload_n 1, 1) := by decide +kernel
theorem dX1_divide_28 : decode cX1_divide 28 = .ok (.invokevirtual 49, 3) := by decide +kernel
theorem dX1_divide_31 : decode cX1_divide 31 = .ok (.return_, 1) := by decide +kernel
theorem dX1_divide_32 : decode cX1_divide 32 = .ok (.aload_n 1, 1) := by decide +kernel
theorem dX1_divide_33 : decode cX1_divide 33 = .ok (.getfield 37, 3) := by decide +kernel
theorem dX1_divide_36 : decode cX1_divide 36 = .ok (.iconst 2, 1) := by decide +kernel
theorem dX1_divide_37 : decode cX1_divide 37 = .ok (.if_icmp .gt 55, 3) := by decide +kernel
theorem dX1_divide_40 : decode cX1_divide 40 = .ok (.aload_n 2, 1) := by decide +kernel
theorem dX1_divide_41 : decode cX1_divide 41 = .ok (.invokevirtual 53, 3) := by decide +kernel
theorem dX1_divide_44 : decode cX1_divide 44 = .ok (.lstore_n 3, 1) := by decide +kernel
theorem dX1_divide_45 : decode cX1_divide 45 = .ok (.aload_n 0, 1) := by decide +kernel
theorem dX1_divide_46 : decode cX1_divide 46 = .ok (.getfield 18, 3) := by decide +kernel
theorem dX1_divide_49 : decode cX1_divide 49 = .ok (.lload_n 3, 1) := by decide +kernel
theorem dX1_divide_50 : decode cX1_divide 50 = .ok (.lconst 0, 1) := by decide +kernel
theorem dX1_divide_51 : decode cX1_divide 51 = .ok (.lcmp, 1) := by decide +kernel
theorem dX1_divide_52 : decode cX1_divide 52 = .ok (.ifCond .le 12, 3) := by decide +kernel
theorem dX1_divide_55 : decode cX1_divide 55 = .ok (.aload_n 1, 1) := by decide +kernel
theorem dX1_divide_56 : decode cX1_divide 56 = .ok (.invokevirtual 53, 3) := by decide +kernel
theorem dX1_divide_59 : decode cX1_divide 59 = .ok (.lload_n 3, 1) := by decide +kernel
theorem dX1_divide_60 : decode cX1_divide 60 = .ok (.ldiv, 1) := by decide +kernel
theorem dX1_divide_61 : decode cX1_divide 61 = .ok (.goto 4, 3) := by decide +kernel
theorem dX1_divide_64 : decode cX1_divide 64 = .ok (.lconst 0, 1) := by decide +kernel
theorem dX1_divide_65 : decode cX1_divide 65 = .ok (.invokevirtual 45, 3) := by decide +kernel
theorem dX1_divide_68 : decode cX1_divide 68 = .ok (.aload_n 0, 1) := by decide +kernel
theorem dX1_divide_69 : decode cX1_divide 69 = .ok (.getfield 22, 3) := by decide +kernel
theorem dX1_divide_72 : decode cX1_divide 72 = .ok (.lload_n 3, 1) := by decide +kernel
theorem dX1_divide_73 : decode cX1_divide 73 = .ok (.lconst 0, 1) := by decide +kernel
theorem dX1_divide_74 : decode cX1_divide 74 = .ok (.lcmp, 1) := by decide +kernel
theorem dX1_divide_75 : decode cX1_divide 75 = .ok (.ifCond .le 12, 3) := by decide +kernel
theorem dX1_divide_78 : decode cX1_divide 78 = .ok (.aload_n 1, 1) := by decide +kernel
theorem dX1_divide_79 : decode cX1_divide 79 = .ok (.invokevirtual 53, 3) := by decide +kernel
theorem dX1_divide_82 : decode cX1_divide 82 = .ok (.lload_n 3, 1) := by decide +kernel
theorem dX1_divide_83 : decode cX1_divide 83 = .ok (.lrem, 1) := by decide +kernel
theorem dX1_divide_84 : decode cX1_divide 84 = .ok (.goto 4, 3) := by decide +kernel
theorem dX1_divide_87 : decode cX1_divide 87 = .ok (.lconst 0, 1) := by decide +kernel
theorem dX1_divide_88 : decode cX1_divide 88 = .ok (.invokevirtual 45, 3) := by decide +kernel
theorem dX1_divide_91 : decode cX1_divide 91 = .ok (.return_, 1) := by decide +kernel
theorem dX1_divide_92 : decode cX1_divide 92 = .ok (.aload_n 2, 1) := by decide +kernel
theorem dX1_divide_93 : decode cX1_divide 93 = .ok (.getfield 37, 3) := by decide +kernel
theorem dX1_divide_96 : decode cX1_divide 96 = .ok (.iconst 1, 1) := by decide +kernel
theorem dX1_divide_97 : decode cX1_divide 97 = .ok (.if_icmp .ne 33, 3) := by decide +kernel
theorem dX1_divide_100 : decode cX1_divide 100 = .ok (.aload_n 0, 1) := by decide +kernel
theorem dX1_divide_101 : decode cX1_divide 101 = .ok (.getfield 18, 3) := by decide +kernel
theorem dX1_divide_104 : decode cX1_divide 104 = .ok (.aload_n 1, 1) := by decide +kernel
theorem dX1_divide_105 : decode cX1_divide 105 = .ok (.invokevirtual 49, 3) := by decide +kernel
theorem dX1_divide_108 : decode cX1_divide 108 = .ok (.aload_n 0, 1) := by decide +kernel
theorem dX1_divide_109 : decode cX1_divide 109 = .ok (.getfield 22, 3) := by decide +kernel
theorem dX1_divide_112 : decode cX1_divide 112 = .ok (.aload_n 0, 1) := by decide +kernel
theorem dX1_divide_113 : decode cX1_divide 113 = .ok (.getfield 18, 3) := by decide +kernel
theorem dX1_divide_116 : decode cX1_divide 116 = .ok (.aload_n 2, 1) := by decide +kernel
theorem dX1_divide_117 : decode cX1_divide 117 = .ok (.getfield 57, 3) := by decide +kernel
theorem dX1_divide_120 : decode cX1_divide 120 = .ok (.iconst 0, 1) := by decide +kernel
theorem dX1_divide_121 : decode cX1_divide 121 = .ok (.iaload, 1) := by decide +kernel
theorem dX1_divide_122 : decode cX1_divide 122 = .ok (.invokevirtual 61, 3) := by decide +kernel
theorem dX1_divide_125 : decode cX1_divide 125 = .ok (.i2l, 1) := by decide +kernel
theorem dX1_divide_126 : decode cX1_divide 126 = .ok (.invokevirtual 45, 3) := by decide +kernel
theorem dX1_divide_129 : decode cX1_divide 129 = .ok (.return_, 1) := by decide +kernel
theorem dX1_divide_130 : decode cX1_divide 130 = .ok (.aload_n 2, 1) := by decide +kernel
theorem dX1_divide_131 : decode cX1_divide 131 = .ok (.getfield 37, 3) := by decide +kernel
theorem dX1_divide_134 : decode cX1_divide 134 = .ok (.istore_n 3, 1) := by decide +kernel
theorem dX1_divide_135 : decode cX1_divide 135 = .ok (.bipush 31, 2) := by decide +kernel
theorem dX1_divide_137 : decode cX1_divide 137 = .ok (.aload_n 2, 1) := by decide +kernel
theorem dX1_divide_138 : decode cX1_divide 138 = .ok (.getfield 57, 3) := by decide +kernel
theorem dX1_divide_141 : decode cX1_divide 141 = .ok (.iload_n 3, 1) := by decide +kernel
theorem dX1_divide_142 : decode cX1_divide 142 = .ok (.iconst 1, 1) := by decide +kernel
theorem dX1_divide_143 : decode cX1_divide 143 = .ok (.isub, 1) := by decide +kernel
theorem dX1_divide_144 : decode cX1_divide 144 = .ok (.iaload, 1) := by decide +kernel
theorem dX1_divide_145 : decode cX1_divide 145 = .ok (.invokestatic 65, 3) := by decide +kernel
theorem dX1_divide_148 : decode cX1_divide 148 = .ok (.isub, 1) := by decide +kernel
theorem dX1_divide_149 : decode cX1_divide 149 = .ok (.istore 4, 2) := by decide +kernel
theorem dX1_divide_151 : decode cX1_divide 151 = .ok (.aload_n 0, 1) := by decide +kernel
theorem dX1_divide_152 : decode cX1_divide 152 = .ok (.getfield 22, 3) := by decide +kernel
theorem dX1_divide_155 : decode cX1_divide 155 = .ok (.aload_n 1, 1) := by decide +kernel
theorem dX1_divide_156 : decode cX1_divide 156 = .ok (.iload 4, 2) := by decide +kernel
theorem dX1_divide_158 : decode cX1_divide 158 = .ok (.invokevirtual 68, 3) := by decide +kernel
theorem dX1_divide_161 : decode cX1_divide 161 = .ok (.aload_n 0, 1) := by decide +kernel
theorem dX1_divide_162 : decode cX1_divide 162 = .ok (.getfield 25, 3) := by decide +kernel
theorem dX1_divide_165 : decode cX1_divide 165 = .ok (.aload_n 2, 1) := by decide +kernel
theorem dX1_divide_166 : decode cX1_divide 166 = .ok (.iload 4, 2) := by decide +kernel
theorem dX1_divide_168 : decode cX1_divide 168 = .ok (.invokevirtual 68, 3) := by decide +kernel
theorem dX1_divide_171 : decode cX1_divide 171 = .ok (.aload_n 0, 1) := by decide +kernel
theorem dX1_divide_172 : decode cX1_divide 172 = .ok (.getfield 18, 3) := by decide +kernel
theorem dX1_divide_175 : decode cX1_divide 175 = .ok (.aload_n 0, 1) := by decide +kernel
theorem dX1_divide_176 : decode cX1_divide 176 = .ok (.getfield 22, 3) := by decide +kernel
theorem dX1_divide_179 : decode cX1_divide 179 = .ok (.invokevirtual 49, 3) := by decide +kernel
theorem dX1_divide_182 : decode cX1_divide 182 = .ok (.aload_n 0, 1) := by decide +kernel
theorem dX1_divide_183 : decode cX1_divide 183 = .ok (.getfield 25, 3) := by decide +kernel
theorem dX1_divide_186 : decode cX1_divide 186 = .ok (.getfield 57, 3) := by decide +kernel
theorem dX1_divide_189 : decode cX1_divide 189 = .ok (.iload_n 3, 1) := by decide +kernel
theorem dX1_divide_190 : decode cX1_divide 190 = .ok (.iconst 1, 1) := by decide +kernel
theorem dX1_divide_191 : decode cX1_divide 191 = .ok (.isub, 1) := by decide +kernel
theorem dX1_divide_192 : decode cX1_divide 192 = .ok (.iaload, 1) := by decide +kernel
theorem dX1_divide_193 : decode cX1_divide 193 = .ok (.iconst 1, 1) := by decide +kernel
theorem dX1_divide_194 : decode cX1_divide 194 = .ok (.invokestatic 72, 3) := by decide +kernel
theorem dX1_divide_197 : decode cX1_divide 197 = .ok (.i2l, 1) := by decide +kernel
theorem dX1_divide_198 : decode cX1_divide 198 = .ok (.lstore 5, 2) := by decide +kernel
theorem dX1_divide_200 : decode cX1_divide 200 = .ok (.aload_n 0, 1) := by decide +kernel
theorem dX1_divide_201 : decode cX1_divide 201 = .ok (.getfield 25, 3) := by decide +kernel
theorem dX1_divide_204 : decode cX1_divide 204 = .ok (.getfield 57, 3) := by decide +kernel
theorem dX1_divide_207 : decode cX1_divide 207 = .ok (.iload_n 3, 1) := by decide +kernel
theorem dX1_divide_208 : decode cX1_divide 208 = .ok (.iconst 2, 1) := by decide +kernel
theorem dX1_divide_209 : decode cX1_divide 209 = .ok (.isub, 1) := by decide +kernel
theorem dX1_divide_210 : decode cX1_divide 210 = .ok (.iaload, 1) := by decide +kernel
theorem dX1_divide_211 : decode cX1_divide 211 = .ok (.i2l, 1) := by decide +kernel
theorem dX1_divide_212 : decode cX1_divide 212 = .ok (.lstore 7, 2) := by decide +kernel
theorem dX1_divide_214 : decode cX1_divide 214 = .ok (.aload_n 0, 1) := by decide +kernel
theorem dX1_divide_215 : decode cX1_divide 215 = .ok (.getfield 22, 3) := by decide +kernel
theorem dX1_divide_218 : decode cX1_divide 218 = .ok (.getfield 57, 3) := by decide +kernel
theorem dX1_divide_221 : decode cX1_divide 221 = .ok (.astore 9, 2) := by decide +kernel
theorem dX1_divide_223 : decode cX1_divide 223 = .ok (.aload_n 1, 1) := by decide +kernel
theorem dX1_divide_224 : decode cX1_divide 224 = .ok (.getfield 37, 3) := by decide +kernel
theorem dX1_divide_227 : decode cX1_divide 227 = .ok (.iload_n 3, 1) := by decide +kernel
theorem dX1_divide_228 : decode cX1_divide 228 = .ok (.isub, 1) := by decide +kernel
theorem dX1_divide_229 : decode cX1_divide 229 = .ok (.istore 10, 2) := by decide +kernel
theorem dX1_divide_231 : decode cX1_divide 231 = .ok (.iload 10, 2) := by decide +kernel
theorem dX1_divide_233 : decode cX1_divide 233 = .ok (.ifCond .lt 145, 3) := by decide +kernel
theorem dX1_divide_236 : decode cX1_divide 236 = .ok (.aload 9, 2) := by decide +kernel
theorem dX1_divide_238 : decode cX1_divide 238 = .ok (.iload 10, 2) := by decide +kernel
theorem dX1_divide_240 : decode cX1_divide 240 = .ok (.iload_n 3, 1) := by decide +kernel
theorem dX1_divide_241 : decode cX1_divide 241 = .ok (.iadd, 1) := by decide +kernel
theorem dX1_divide_242 : decode cX1_divide 242 = .ok (.iaload, 1) := by decide +kernel
theorem dX1_divide_243 : decode cX1_divide 243 = .ok (.i2l, 1) := by decide +kernel
theorem dX1_divide_244 : decode cX1_divide 244 = .ok (.bipush 31, 2) := by decide +kernel
theorem dX1_divide_246 : decode cX1_divide 246 = .ok (.lshl, 1) := by decide +kernel
theorem dX1_divide_247 : decode cX1_divide 247 = .ok (.aload 9, 2) := by decide +kernel
theorem dX1_divide_249 : decode cX1_divide 249 = .ok (.iload 10, 2) := by decide +kernel
theorem dX1_divide_251 : decode cX1_divide 251 = .ok (.iload_n 3, 1) := by decide +kernel
theorem dX1_divide_252 : decode cX1_divide 252 = .ok (.iadd, 1) := by decide +kernel
theorem dX1_divide_253 : decode cX1_divide 253 = .ok (.iconst 1, 1) := by decide +kernel
theorem dX1_divide_254 : decode cX1_divide 254 = .ok (.isub, 1) := by decide +kernel
theorem dX1_divide_255 : decode cX1_divide 255 = .ok (.iaload, 1) := by decide +kernel
theorem dX1_divide_256 : decode cX1_divide 256 = .ok (.i2l, 1) := by decide +kernel
theorem dX1_divide_257 : decode cX1_divide 257 = .ok (.lor, 1) := by decide +kernel
theorem dX1_divide_258 : decode cX1_divide 258 = .ok (.lstore 11, 2) := by decide +kernel
theorem dX1_divide_260 : decode cX1_divide 260 = .ok (.lload 11, 2) := by decide +kernel
theorem dX1_divide_262 : decode cX1_divide 262 = .ok (.lload 5, 2) := by decide +kernel
theorem dX1_divide_264 : decode cX1_divide 264 = .ok (.ldiv, 1) := by decide +kernel
theorem dX1_divide_265 : decode cX1_divide 265 = .ok (.ldc2_w 78, 3) := by decide +kernel
theorem dX1_divide_268 : decode cX1_divide 268 = .ok (.invokestatic 80, 3) := by decide +kernel
theorem dX1_divide_271 : decode cX1_divide 271 = .ok (.lstore 13, 2) := by decide +kernel
theorem dX1_divide_273 : decode cX1_divide 273 = .ok (.lload 11, 2) := by decide +kernel
theorem dX1_divide_275 : decode cX1_divide 275 = .ok (.lload 13, 2) := by decide +kernel
theorem dX1_divide_277 : decode cX1_divide 277 = .ok (.lload 5, 2) := by decide +kernel
theorem dX1_divide_279 : decode cX1_divide 279 = .ok (.lmul, 1) := by decide +kernel
theorem dX1_divide_280 : decode cX1_divide 280 = .ok (.lsub, 1) := by decide +kernel
theorem dX1_divide_281 : decode cX1_divide 281 = .ok (.lstore 15, 2) := by decide +kernel
theorem dX1_divide_283 : decode cX1_divide 283 = .ok (.iconst 0, 1) := by decide +kernel
theorem dX1_divide_284 : decode cX1_divide 284 = .ok (.istore 17, 2) := by decide +kernel
theorem dX1_divide_286 : decode cX1_divide 286 = .ok (.iload 17, 2) := by decide +kernel
theorem dX1_divide_288 : decode cX1_divide 288 = .ok (.iconst 3, 1) := by decide +kernel
theorem dX1_divide_289 : decode cX1_divide 289 = .ok (.if_icmp .ge 56, 3) := by decide +kernel
theorem dX1_divide_292 : decode cX1_divide 292 = .ok (.lload 15, 2) := by decide +kernel
theorem dX1_divide_294 : decode cX1_divide 294 = .ok (.ldc2_w 78, 3) := by decide +kernel
theorem dX1_divide_297 : decode cX1_divide 297 = .ok (.lcmp, 1) := by decide +kernel
theorem dX1_divide_298 : decode cX1_divide 298 = .ok (.ifCond .gt 47, 3) := by decide +kernel
theorem dX1_divide_301 : decode cX1_divide 301 = .ok (.lload 13, 2) := by decide +kernel
theorem dX1_divide_303 : decode cX1_divide 303 = .ok (.lload 7, 2) := by decide +kernel
theorem dX1_divide_305 : decode cX1_divide 305 = .ok (.lmul, 1) := by decide +kernel
theorem dX1_divide_306 : decode cX1_divide 306 = .ok (.lload 15, 2) := by decide +kernel
theorem dX1_divide_308 : decode cX1_divide 308 = .ok (.bipush 31, 2) := by decide +kernel
theorem dX1_divide_310 : decode cX1_divide 310 = .ok (.lshl, 1) := by decide +kernel
theorem dX1_divide_311 : decode cX1_divide 311 = .ok (.aload 9, 2) := by decide +kernel
theorem dX1_divide_313 : decode cX1_divide 313 = .ok (.iload 10, 2) := by decide +kernel
theorem dX1_divide_315 : decode cX1_divide 315 = .ok (.iload_n 3, 1) := by decide +kernel
theorem dX1_divide_316 : decode cX1_divide 316 = .ok (.iadd, 1) := by decide +kernel
theorem dX1_divide_317 : decode cX1_divide 317 = .ok (.iconst 2, 1) := by decide +kernel
theorem dX1_divide_318 : decode cX1_divide 318 = .ok (.isub, 1) := by decide +kernel
theorem dX1_divide_319 : decode cX1_divide 319 = .ok (.iaload, 1) := by decide +kernel
theorem dX1_divide_320 : decode cX1_divide 320 = .ok (.i2l, 1) := by decide +kernel
theorem dX1_divide_321 : decode cX1_divide 321 = .ok (.lor, 1) := by decide +kernel
theorem dX1_divide_322 : decode cX1_divide 322 = .ok (.lcmp, 1) := by decide +kernel
theorem dX1_divide_323 : decode cX1_divide 323 = .ok (.ifCond .le 22, 3) := by decide +kernel
theorem dX1_divide_326 : decode cX1_divide 326 = .ok (.lload 13, 2) := by decide +kernel
theorem dX1_divide_328 : decode cX1_divide 328 = .ok (.lconst 1, 1) := by decide +kernel
theorem dX1_divide_329 : decode cX1_divide 329 = .ok (.lsub, 1) := by decide +kernel
theorem dX1_divide_330 : decode cX1_divide 330 = .ok (.lstore 13, 2) := by decide +kernel
theorem dX1_divide_332 : decode cX1_divide 332 = .ok (.lload 15, 2) := by decide +kernel
theorem dX1_divide_334 : decode cX1_divide 334 = .ok (.lload 5, 2) := by decide +kernel
theorem dX1_divide_336 : decode cX1_divide 336 = .ok (.ladd, 1) := by decide +kernel
theorem dX1_divide_337 : decode cX1_divide 337 = .ok (.lstore 15, 2) := by decide +kernel
theorem dX1_divide_339 : decode cX1_divide 339 = .ok (.iinc 17 1, 3) := by decide +kernel
theorem dX1_divide_342 : decode cX1_divide 342 = .ok (.goto (-56), 3) := by decide +kernel
theorem dX1_divide_345 : decode cX1_divide 345 = .ok (.aload_n 0, 1) := by decide +kernel
theorem dX1_divide_346 : decode cX1_divide 346 = .ok (.getfield 18, 3) := by decide +kernel
theorem dX1_divide_349 : decode cX1_divide 349 = .ok (.getfield 57, 3) := by decide +kernel
theorem dX1_divide_352 : decode cX1_divide 352 = .ok (.iload 10, 2) := by decide +kernel
theorem dX1_divide_354 : decode cX1_divide 354 = .ok (.aload_n 0, 1) := by decide +kernel
theorem dX1_divide_355 : decode cX1_divide 355 = .ok (.getfield 22, 3) := by decide +kernel
theorem dX1_divide_358 : decode cX1_divide 358 = .ok (.iload 10, 2) := by decide +kernel
theorem dX1_divide_360 : decode cX1_divide 360 = .ok (.aload_n 0, 1) := by decide +kernel
theorem dX1_divide_361 : decode cX1_divide 361 = .ok (.getfield 25, 3) := by decide +kernel
theorem dX1_divide_364 : decode cX1_divide 364 = .ok (.lload 13, 2) := by decide +kernel
theorem dX1_divide_366 : decode cX1_divide 366 = .ok (.iload_n 3, 1) := by decide +kernel
theorem dX1_divide_367 : decode cX1_divide 367 = .ok (.invokevirtual 84, 3) := by decide +kernel
theorem dX1_divide_370 : decode cX1_divide 370 = .ok (.l2i, 1) := by decide +kernel
theorem dX1_divide_371 : decode cX1_divide 371 = .ok (.iastore, 1) := by decide +kernel
theorem dX1_divide_372 : decode cX1_divide 372 = .ok (.iinc 10 (-1), 3) := by decide +kernel
theorem dX1_divide_375 : decode cX1_divide 375 = .ok (.goto (-144), 3) := by decide +kernel
theorem dX1_divide_378 : decode cX1_divide 378 = .ok (.aload_n 0, 1) := by decide +kernel
theorem dX1_divide_379 : decode cX1_divide 379 = .ok (.getfield 18, 3) := by decide +kernel
theorem dX1_divide_382 : decode cX1_divide 382 = .ok (.aload_n 1, 1) := by decide +kernel
theorem dX1_divide_383 : decode cX1_divide 383 = .ok (.getfield 37, 3) := by decide +kernel
theorem dX1_divide_386 : decode cX1_divide 386 = .ok (.iload_n 3, 1) := by decide +kernel
theorem dX1_divide_387 : decode cX1_divide 387 = .ok (.isub, 1) := by decide +kernel
theorem dX1_divide_388 : decode cX1_divide 388 = .ok (.iconst 1, 1) := by decide +kernel
theorem dX1_divide_389 : decode cX1_divide 389 = .ok (.iadd, 1) := by decide +kernel
theorem dX1_divide_390 : decode cX1_divide 390 = .ok (.iconst 0, 1) := by decide +kernel
theorem dX1_divide_391 : decode cX1_divide 391 = .ok (.invokevirtual 88, 3) := by decide +kernel
theorem dX1_divide_394 : decode cX1_divide 394 = .ok (.aload_n 0, 1) := by decide +kernel
theorem dX1_divide_395 : decode cX1_divide 395 = .ok (.getfield 22, 3) := by decide +kernel
theorem dX1_divide_398 : decode cX1_divide 398 = .ok (.iload_n 3, 1) := by decide +kernel
theorem dX1_divide_399 : decode cX1_divide 399 = .ok (.iload 4, 2) := by decide +kernel
theorem dX1_divide_401 : decode cX1_divide 401 = .ok (.invokevirtual 88, 3) := by decide +kernel
theorem dX1_divide_404 : decode cX1_divide 404 = .ok (.return_, 1) := by decide +kernel
def w_Ca_divide_15 (C : zC) (n0 : Nat) (Q : zS → Prop)  (a0 : Nat) (a1 : Nat) (κ : zS) : Prop :=
  ∀ _ : zT κ (zR κ caQuotient a0) = 8,
  zRun C 0 mNu_put [.ref (zR κ caQuotient a0), .long (0 : Int64)] κ (oV (fun κ1 =>
    ∀ _ : zW C n0 κ1,
    ∀ _ : zM (zn κ) κ κ1,
    ∀ _ : zT κ1 (zR κ1 caRest a0) = 8,
    ∀ _ : zT κ1 a1 = 8,
    zRun C 1 mNu_copy [.ref (zR κ1 caRest a0), .ref a1] κ1 (oV (fun κ5 =>
      ∀ _ : zW C n0 κ5,
      ∀ _ : zM (zn κ1) κ1 κ5,
      Q κ5) noX)) noX)
theorem t_Ca_divide_15 {C : zC} {n0 : Nat} {Q : zS → Prop}   {a0 : Nat} {a1 : Nat} {κ : zS} (W : zW C n0 κ) (Ta0 : zT κ a0 = 4) (Ta1 : zT κ a1 = 8) (F : w_Ca_divide_15 C n0 Q  a0 a1 κ) : zG C n0 2 mCa_divide 15 [some (.ref a0), some (.ref a1), none, none, none, none, none, none, none, none, none, none, none, none, none, none, none, none] [] κ (oV Q noX) := by
  unfold w_Ca_divide_15 at F
  refine y_aln dX1_divide_15 rfl ?_
  refine gf_X1_18 W dX1_divide_16 rfl Ta0 ?_
  refine y_lc dX1_divide_19 zl_0 ?_
  replace F := F (ty_caQuotient W Ta0)
  refine k_X1_45 W dX1_divide_20 rfl (Nat.le_of_ble_eq_true rfl) (Nat.le_of_ble_eq_true rfl) (Or.inl (ty_caQuotient W Ta0)) F (fun  κ1 Wκ1 Mκ1 F => ?_) (fun _ _ h9 => False.elim h9)
  replace F := F Wκ1 Mκ1
  refine y_aln dX1_divide_23 rfl ?_
  have h4 := (ztm W Mκ1 Ta0)
  refine gf_X1_22 Wκ1 dX1_divide_24 rfl h4 ?_
  refine y_aln dX1_divide_27 rfl ?_
  replace F := F (ty_caRest Wκ1 h4)
  have h7 := (ztm W Mκ1 Ta1)
  replace F := F h7
  refine k_X1_49 Wκ1 dX1_divide_28 rfl (Nat.le_of_ble_eq_true rfl) (Nat.le_of_ble_eq_true rfl) (Or.inl (ty_caRest Wκ1 h4)) F (fun  κ5 Wκ5 Mκ5 F => ?_) (fun _ _ h9 => False.elim h9)
  replace F := F Wκ5 Mκ5
  exact y_rv Wκ5 dX1_divide_31 rfl F

def w_Ca_divide_65 (C : zC) (n0 : Nat) (Q : zS → Prop)  (a0 : Nat) (a1 : Nat) (a3 : Int64) (s0 : Nat) (s1 : Int64) (κ : zS) : Prop :=
  ∀ _ : zT κ s0 = 8,
  zRun C 0 mNu_put [.ref s0, .long s1] κ (oV (fun κ1 =>
    ∀ _ : zW C n0 κ1,
    ∀ _ : zM (zn κ) κ κ1,
    ((lg_cmp a3 (0 : Int64)) ≤ (0 : Int32) →
      ∀ _ : zT κ1 (zR κ1 caRest a0) = 8,
      zRun C 0 mNu_put [.ref (zR κ1 caRest a0), .long (0 : Int64)] κ1 (oV (fun κ5 =>
        ∀ _ : zW C n0 κ5,
        ∀ _ : zM (zn κ1) κ1 κ5,
        Q κ5) noX)) ∧
    (¬ (lg_cmp a3 (0 : Int64)) ≤ (0 : Int32) →
      ∀ _ : zT κ1 a1 = 8,
      zRun C 0 mNu_small [.ref a1] κ1 (oJ (fun r9 κ8 =>
        ∀ _ : zW C n0 κ8,
        ∀ _ : zM (zn κ1) κ1 κ8,
        ¬ a3 = 0 ∧
        ∀ _ : zT κ8 (zR κ1 caRest a0) = 8,
        zRun C 0 mNu_put [.ref (zR κ1 caRest a0), .long (r9 - r9 / a3 * a3)] κ8 (oV (fun κ12 =>
          ∀ _ : zW C n0 κ12,
          ∀ _ : zM (zn κ8) κ8 κ12,
          Q κ12) noX)) noX))) noX)
theorem t_Ca_divide_65 {C : zC} {n0 : Nat} {Q : zS → Prop}   {a0 : Nat} {a1 : Nat} {a3 : Int64} {s0 : Nat} {s1 : Int64} {κ : zS} (W : zW C n0 κ) (Ta0 : zT κ a0 = 4) (Ta1 : zT κ a1 = 8) (Ts0 : zT κ s0 = 8) (F : w_Ca_divide_65 C n0 Q  a0 a1 a3 s0 s1 κ) : zG C n0 2 mCa_divide 65 [some (.ref a0), some (.ref a1), none, some (.long a3), none, none, none, none, none, none, none, none, none, none, none, none, none, none] [.long s1, .ref s0] κ (oV Q noX) := by
  unfold w_Ca_divide_65 at F
  replace F := F Ts0
  refine k_X1_45 W dX1_divide_65 rfl (Nat.le_of_ble_eq_true rfl) (Nat.le_of_ble_eq_true rfl) (Or.inl Ts0) F (fun  κ1 Wκ1 Mκ1 F => ?_) (fun _ _ h9 => False.elim h9)
  replace F := F Wκ1 Mκ1
  refine y_aln dX1_divide_68 rfl ?_
  have h4 := (ztm W Mκ1 Ta0)
  refine gf_X1_22 Wκ1 dX1_divide_69 rfl h4 ?_
  refine y_lln dX1_divide_72 rfl ?_
  refine y_lc dX1_divide_73 zl_0 ?_
  refine y_lcmp dX1_divide_74 ?_
  refine y_i ((lg_cmp a3 (0 : Int64)) ≤ (0 : Int32)) dX1_divide_75 (t := 87) rfl rfl (fun c9 => ?_) (fun c9 => ?_)
  · replace F := F.1 c9
    refine y_lc dX1_divide_87 zl_0 ?_
    replace F := F (ty_caRest Wκ1 h4)
    refine k_X1_45 Wκ1 dX1_divide_88 rfl (Nat.le_of_ble_eq_true rfl) (Nat.le_of_ble_eq_true rfl) (Or.inl (ty_caRest Wκ1 h4)) F (fun  κ5 Wκ5 Mκ5 F => ?_) (fun _ _ h9 => False.elim h9)
    replace F := F Wκ5 Mκ5
    exact y_rv Wκ5 dX1_divide_91 rfl F
  · replace F := F.2 c9
    refine y_aln dX1_divide_78 rfl ?_
    have h10 := (ztm W Mκ1 Ta1)
    replace F := F h10
    refine k_X1_53 Wκ1 dX1_divide_79 rfl (Nat.le_of_ble_eq_true rfl) (Nat.le_of_ble_eq_true rfl) (Or.inl h10) F (fun r9 κ8 Wκ8 Mκ8 F => ?_) (fun _ _ h9 => False.elim h9)
    replace F := F Wκ8 Mκ8
    refine y_lln dX1_divide_82 rfl ?_
    refine y_lrem dX1_divide_83 F.1 ?_
    replace F := F.2
    refine y_goto dX1_divide_84 (t := 88) rfl ?_
    have h14 := (ztm Wκ1 Mκ8 (ty_caRest Wκ1 h4))
    replace F := F h14
    refine k_X1_45 Wκ8 dX1_divide_88 rfl (Nat.le_of_ble_eq_true rfl) (Nat.le_of_ble_eq_true rfl) (Or.inl h14) F (fun  κ12 Wκ12 Mκ12 F => ?_) (fun _ _ h9 => False.elim h9)
    replace F := F Wκ12 Mκ12
    exact y_rv Wκ12 dX1_divide_91 rfl F

def w_Ca_divide_345 (C : zC) (n0 : Nat) (Q : zS → Prop) (B231 : Nat → Nat → Int32 → Int32 → Int64 → Int64 → Nat → Int32 → zS → Prop) (a0 : Nat) (a1 : Nat) (a3 : Int32) (a4 : Int32) (a5 : Int64) (a7 : Int64) (a9 : Nat) (a10 : Int32) (a13 : Int64) (κ : zS) : Prop :=
  ∀ _ : zT κ (zR κ caRest a0) = 8,
  ∀ _ : zT κ (zR κ caDivisor a0) = 8,
  zRun C 0 mNu_takeAt [.ref (zR κ caRest a0), .int a10, .ref (zR κ caDivisor a0), .long a13, .int a3] κ (oJ (fun r2 κ1 =>
    ∀ _ : zW C n0 κ1,
    ∀ _ : zM (zn κ) κ κ1,
    inb a10 (zN κ1 (zR κ nuLimbs (zR κ caQuotient a0))) ∧
    ∀ κ4, κ4 = ua κ1 (zR κ nuLimbs (zR κ caQuotient a0)) (a10).toNatClampNeg (Int64.toInt32 r2) →
    ∀ _ : zW C n0 κ4,
    ∀ v10_6 : Int32, v10_6 = a10 + (-1 : Int32) →
    B231 a0 a1 a3 a4 a5 a7 a9 v10_6 κ4) noX)
theorem t_Ca_divide_345 {C : zC} {n0 : Nat} {Q : zS → Prop} {B231 : Nat → Nat → Int32 → Int32 → Int64 → Int64 → Nat → Int32 → zS → Prop} (hB231 : ∀ a0' a1' a3' a4' a5' a7' a9' a10' τ, zW C n0 τ → zT τ a0' = 4 → zT τ a1' = 8 → zT τ a9' = 20 → B231 a0' a1' a3' a4' a5' a7' a9' a10' τ → zG C n0 2 mCa_divide 231 [some (.ref a0'), some (.ref a1'), none, some (.int a3'), some (.int a4'), some (.long a5'), none, some (.long a7'), none, some (.ref a9'), some (.int a10'), none, none, none, none, none, none, none] [] τ (oV Q noX)) {a0 : Nat} {a1 : Nat} {a3 : Int32} {a4 : Int32} {a5 : Int64} {a7 : Int64} {a9 : Nat} {a10 : Int32} {a13 : Int64} {κ : zS} (W : zW C n0 κ) (Ta0 : zT κ a0 = 4) (Ta1 : zT κ a1 = 8) (Ta9 : zT κ a9 = 20) (F : w_Ca_divide_345 C n0 Q B231 a0 a1 a3 a4 a5 a7 a9 a10 a13 κ) : zG C n0 2 mCa_divide 345 [some (.ref a0), some (.ref a1), none, some (.int a3), some (.int a4), some (.long a5), none, some (.long a7), none, some (.ref a9), some (.int a10), none, none, some (.long a13), none, none, none, none] [] κ (oV Q noX) := by
  unfold w_Ca_divide_345 at F
  refine y_aln dX1_divide_345 rfl ?_
  refine gf_X1_18 W dX1_divide_346 rfl Ta0 ?_
  refine gf_X1_57 W dX1_divide_349 rfl (ty_caQuotient W Ta0) ?_
  refine y_il dX1_divide_352 rfl ?_
  refine y_aln dX1_divide_354 rfl ?_
  refine gf_X1_22 W dX1_divide_355 rfl Ta0 ?_
  refine y_il dX1_divide_358 rfl ?_
  refine y_aln dX1_divide_360 rfl ?_
  refine gf_X1_25 W dX1_divide_361 rfl Ta0 ?_
  refine y_ll dX1_divide_364 rfl ?_
  refine y_iln dX1_divide_366 rfl ?_
  replace F := F (ty_caRest W Ta0)
  replace F := F (ty_caDivisor W Ta0)
  refine k_X1_84 W dX1_divide_367 rfl (Nat.le_of_ble_eq_true rfl) (Nat.le_of_ble_eq_true rfl) (Or.inl (ty_caRest W Ta0)) F (fun r2 κ1 Wκ1 Mκ1 F => ?_) (fun _ _ h9 => False.elim h9)
  replace F := F Wκ1 Mκ1
  refine y_l2i dX1_divide_370 ?_
  have h5 := (ztm W Mκ1 (ty_nuLimbs W (ty_caQuotient W Ta0)))
  refine y_ast Wκ1 dX1_divide_371 h5 F.1 (fun κ4 eκ4 => ?_)
  replace F := F.2 κ4 eκ4
  have Wκ4 : zW C n0 κ4 := zW_ua Wκ1 eκ4 (fun h => absurd (h.symm.trans h5) (by decide)) (fun h => absurd (h.symm.trans h5) (by decide))
  have Mκ4 : zM (zn κ1) κ1 κ4 := by rw [eκ4]; exact zM.of rfl rfl rfl
  replace F := F Wκ4
  refine y_incb dX1_divide_372 zi_m1 rfl (Nat.le_of_ble_eq_true rfl) (fun v10_6 ev10_6 => ?_)
  replace F := F v10_6 ev10_6
  show zG _ _ _ _ _ [some (.ref a0), some (.ref a1), none, some (.int a3), some (.int a4), some (.long a5), none, some (.long a7), none, some (.ref a9), some (.int v10_6), none, none, some (.long a13), none, none, none, none] _ _ _
  refine y_goto dX1_divide_375 (t := 231) rfl ?_
  have h7 := (ztm Wκ1 Mκ4 (ztm W Mκ1 Ta0))
  have h8 := (ztm Wκ1 Mκ4 (ztm W Mκ1 Ta1))
  have h9 := (ztm Wκ1 Mκ4 (ztm W Mκ1 Ta9))
  exact y_k (hB231 _ _ _ _ _ _ _ _ _ Wκ4 h7 h8 h9 F) ⟨rfl, rfl, rfl, rfl, rfl, rfl, rfl, rfl, trivial⟩

def w_Ca_divide_286 (C : zC) (n0 : Nat) (Q : zS → Prop) (B231 : Nat → Nat → Int32 → Int32 → Int64 → Int64 → Nat → Int32 → zS → Prop) (a0 : Nat) (a1 : Nat) (a3 : Int32) (a4 : Int32) (a5 : Int64) (a7 : Int64) (a9 : Nat) (a10 : Int32) (a13 : Int64) (a15 : Int64) (a17 : Int32) (κ : zS) : Prop :=
  ∃ I : Nat → Nat → Nat → Int32 → Int32 → Int64 → Int64 → Nat → Int32 → Int64 → Int64 → Int32 → zS → Prop, (∃ n, I n a0 a1 a3 a4 a5 a7 a9 a10 a13 a15 a17 κ) ∧ ∀ n a0 a1 a3 a4 a5 a7 a9 a10 a13 a15 a17 κ, zW C n0 κ → zT κ a0 = 4 → zT κ a1 = 8 → zT κ a9 = 20 → I n a0 a1 a3 a4 a5 a7 a9 a10 a13 a15 a17 κ →
    ((3 : Int32) ≤ a17 →
      w_Ca_divide_345 C n0 Q B231 a0 a1 a3 a4 a5 a7 a9 a10 a13 κ) ∧
    (¬ (3 : Int32) ≤ a17 →
      ((0 : Int32) < (lg_cmp a15 (2147483647 : Int64)) →
        w_Ca_divide_345 C n0 Q B231 a0 a1 a3 a4 a5 a7 a9 a10 a13 κ) ∧
      (¬ (0 : Int32) < (lg_cmp a15 (2147483647 : Int64)) →
        inb ((a10 + a3) - (2 : Int32)) (zN κ a9) ∧
        ((lg_cmp (a13 * a7) ((a15 <<< (Int32.toInt64 (31 : Int32) &&& 63)) ||| (Int32.toInt64 (zA κ a9 (((a10 + a3) - (2 : Int32))).toNatClampNeg)))) ≤ (0 : Int32) →
          w_Ca_divide_345 C n0 Q B231 a0 a1 a3 a4 a5 a7 a9 a10 a13 κ) ∧
        (¬ (lg_cmp (a13 * a7) ((a15 <<< (Int32.toInt64 (31 : Int32) &&& 63)) ||| (Int32.toInt64 (zA κ a9 (((a10 + a3) - (2 : Int32))).toNatClampNeg)))) ≤ (0 : Int32) →
          ∀ v13_1 : Int64, v13_1 = (a13 - (1 : Int64)) →
          ∀ v15_2 : Int64, v15_2 = (a15 + a5) →
          ∀ v17_3 : Int32, v17_3 = a17 + (1 : Int32) →
          ∃ k < n, I k a0 a1 a3 a4 a5 a7 a9 a10 v13_1 v15_2 v17_3 κ)))
theorem t_Ca_divide_286 {C : zC} {n0 : Nat} {Q : zS → Prop} {B231 : Nat → Nat → Int32 → Int32 → Int64 → Int64 → Nat → Int32 → zS → Prop} (hB231 : ∀ a0' a1' a3' a4' a5' a7' a9' a10' τ, zW C n0 τ → zT τ a0' = 4 → zT τ a1' = 8 → zT τ a9' = 20 → B231 a0' a1' a3' a4' a5' a7' a9' a10' τ → zG C n0 2 mCa_divide 231 [some (.ref a0'), some (.ref a1'), none, some (.int a3'), some (.int a4'), some (.long a5'), none, some (.long a7'), none, some (.ref a9'), some (.int a10'), none, none, none, none, none, none, none] [] τ (oV Q noX)) {a0 : Nat} {a1 : Nat} {a3 : Int32} {a4 : Int32} {a5 : Int64} {a7 : Int64} {a9 : Nat} {a10 : Int32} {a13 : Int64} {a15 : Int64} {a17 : Int32} {κ : zS} (W : zW C n0 κ) (Ta0 : zT κ a0 = 4) (Ta1 : zT κ a1 = 8) (Ta9 : zT κ a9 = 20) (F : w_Ca_divide_286 C n0 Q B231 a0 a1 a3 a4 a5 a7 a9 a10 a13 a15 a17 κ) : zG C n0 2 mCa_divide 286 [some (.ref a0), some (.ref a1), none, some (.int a3), some (.int a4), some (.long a5), none, some (.long a7), none, some (.ref a9), some (.int a10), none, none, some (.long a13), none, some (.long a15), none, some (.int a17)] [] κ (oV Q noX) := by
  obtain ⟨I, ⟨m0, hI0⟩, F0⟩ := F
  have key : ∀ n a0 a1 a3 a4 a5 a7 a9 a10 a13 a15 a17 κ, zW C n0 κ → zT κ a0 = 4 → zT κ a1 = 8 → zT κ a9 = 20 → I n a0 a1 a3 a4 a5 a7 a9 a10 a13 a15 a17 κ → zG C n0 2 mCa_divide 286 [some (.ref a0), some (.ref a1), none, some (.int a3), some (.int a4), some (.long a5), none, some (.long a7), none, some (.ref a9), some (.int a10), none, none, some (.long a13), none, some (.long a15), none, some (.int a17)] [] κ (oV Q noX) := by
    intro n
    induction n using Nat.strongRecOn with
    | _ n ih =>
      intro a0 a1 a3 a4 a5 a7 a9 a10 a13 a15 a17 κ W Ta0 Ta1 Ta9 hI
      have F := F0 n a0 a1 a3 a4 a5 a7 a9 a10 a13 a15 a17 κ W Ta0 Ta1 Ta9 hI
      clear hI hI0
      refine y_il dX1_divide_286 rfl ?_
      refine y_ic dX1_divide_288 zi_3 ?_
      refine y_ii ((3 : Int32) ≤ a17) dX1_divide_289 (t := 345) rfl rfl (fun c9 => ?_) (fun c9 => ?_)
      · replace F := F.1 c9
        exact y_k (t_Ca_divide_345 hB231 W Ta0 Ta1 Ta9 F) ⟨rfl, rfl, rfl, rfl, rfl, rfl, rfl, rfl, rfl, trivial⟩
      · replace F := F.2 c9
        refine y_ll dX1_divide_292 rfl ?_
        refine y_ldcl dX1_divide_294 rfl zcl_X1_78 ?_
        refine y_lcmp dX1_divide_297 ?_
        refine y_i ((0 : Int32) < (lg_cmp a15 (2147483647 : Int64))) dX1_divide_298 (t := 345) rfl rfl (fun c9 => ?_) (fun c9 => ?_)
        · replace F := F.1 c9
          exact y_k (t_Ca_divide_345 hB231 W Ta0 Ta1 Ta9 F) ⟨rfl, rfl, rfl, rfl, rfl, rfl, rfl, rfl, rfl, trivial⟩
        · replace F := F.2 c9
          refine y_ll dX1_divide_301 rfl ?_
          refine y_ll dX1_divide_303 rfl ?_
          refine y_lmul dX1_divide_305 ?_
          refine y_ll dX1_divide_306 rfl ?_
          refine y_bi1 dX1_divide_308 zb_31 ?_
          refine y_lshl dX1_divide_310 ?_
          refine y_al dX1_divide_311 rfl ?_
          refine y_il dX1_divide_313 rfl ?_
          refine y_iln dX1_divide_315 rfl ?_
          refine y_iadd dX1_divide_316 ?_
          refine y_ic dX1_divide_317 zi_2 ?_
          refine y_isub dX1_divide_318 ?_
          refine y_ald dX1_divide_319 Ta9 F.1 ?_
          replace F := F.2
          refine y_i2l dX1_divide_320 ?_
          refine y_lor dX1_divide_321 ?_
          refine y_lcmp dX1_divide_322 ?_
          refine y_i ((lg_cmp (a13 * a7) ((a15 <<< (Int32.toInt64 (31 : Int32) &&& 63)) ||| (Int32.toInt64 (zA κ a9 (((a10 + a3) - (2 : Int32))).toNatClampNeg)))) ≤ (0 : Int32)) dX1_divide_323 (t := 345) rfl rfl (fun c9 => ?_) (fun c9 => ?_)
          · replace F := F.1 c9
            exact y_k (t_Ca_divide_345 hB231 W Ta0 Ta1 Ta9 F) ⟨rfl, rfl, rfl, rfl, rfl, rfl, rfl, rfl, rfl, trivial⟩
          · replace F := F.2 c9
            refine y_ll dX1_divide_326 rfl ?_
            refine y_lc dX1_divide_328 zl_1 ?_
            refine y_lsub dX1_divide_329 ?_
            refine y_lsb dX1_divide_330 (Nat.le_of_ble_eq_true rfl) (fun v13_1 ev13_1 => ?_)
            replace F := F v13_1 ev13_1
            show zG _ _ _ _ _ [some (.ref a0), some (.ref a1), none, some (.int a3), some (.int a4), some (.long a5), none, some (.long a7), none, some (.ref a9), some (.int a10), none, none, some (.long v13_1), none, some (.long a15), none, some (.int a17)] _ _ _
            refine y_ll dX1_divide_332 rfl ?_
            refine y_ll dX1_divide_334 rfl ?_
            refine y_ladd dX1_divide_336 ?_
            refine y_lsb dX1_divide_337 (Nat.le_of_ble_eq_true rfl) (fun v15_2 ev15_2 => ?_)
            replace F := F v15_2 ev15_2
            show zG _ _ _ _ _ [some (.ref a0), some (.ref a1), none, some (.int a3), some (.int a4), some (.long a5), none, some (.long a7), none, some (.ref a9), some (.int a10), none, none, some (.long v13_1), none, some (.long v15_2), none, some (.int a17)] _ _ _
            refine y_incb dX1_divide_339 zi_1 rfl (Nat.le_of_ble_eq_true rfl) (fun v17_3 ev17_3 => ?_)
            replace F := F v17_3 ev17_3
            show zG _ _ _ _ _ [some (.ref a0), some (.ref a1), none, some (.int a3), some (.int a4), some (.long a5), none, some (.long a7), none, some (.ref a9), some (.int a10), none, none, some (.long v13_1), none, some (.long v15_2), none, some (.int v17_3)] _ _ _
            refine y_goto dX1_divide_342 (t := 286) rfl ?_
            obtain ⟨k, hk, hI⟩ := F
            exact y_k (ih k hk _ _ _ _ _ _ _ _ _ _ _ _ W Ta0 Ta1 Ta9 hI) ⟨rfl, rfl, rfl, rfl, rfl, rfl, rfl, rfl, rfl, rfl, rfl, trivial⟩
  exact key m0 a0 a1 a3 a4 a5 a7 a9 a10 a13 a15 a17 κ W Ta0 Ta1 Ta9 hI0

def w_Ca_divide_231 (C : zC) (n0 : Nat) (Q : zS → Prop)  (a0 : Nat) (a1 : Nat) (a3 : Int32) (a4 : Int32) (a5 : Int64) (a7 : Int64) (a9 : Nat) (a10 : Int32) (κ : zS) : Prop :=
  ∃ I : Nat → Nat → Nat → Int32 → Int32 → Int64 → Int64 → Nat → Int32 → zS → Prop, (∃ n, I n a0 a1 a3 a4 a5 a7 a9 a10 κ) ∧ ∀ n a0 a1 a3 a4 a5 a7 a9 a10 κ, zW C n0 κ → zT κ a0 = 4 → zT κ a1 = 8 → zT κ a9 = 20 → I n a0 a1 a3 a4 a5 a7 a9 a10 κ →
    (a10 < (0 : Int32) →
      ∀ _ : zT κ (zR κ caQuotient a0) = 8,
      zRun C 1 mNu_shiftBack [.ref (zR κ caQuotient a0), .int (((zI κ nuLength a1) - a3) + (1 : Int32)), .int (0 : Int32)] κ (oV (fun κ1 =>
        ∀ _ : zW C n0 κ1,
        ∀ _ : zM (zn κ) κ κ1,
        ∀ _ : zT κ1 (zR κ1 caRest a0) = 8,
        zRun C 1 mNu_shiftBack [.ref (zR κ1 caRest a0), .int a3, .int a4] κ1 (oV (fun κ5 =>
          ∀ _ : zW C n0 κ5,
          ∀ _ : zM (zn κ1) κ1 κ5,
          Q κ5) noX)) noX)) ∧
    (¬ a10 < (0 : Int32) →
      inb (a10 + a3) (zN κ a9) ∧
      inb ((a10 + a3) - (1 : Int32)) (zN κ a9) ∧
      ∀ v11_8 : Int64, v11_8 = (((Int32.toInt64 (zA κ a9 ((a10 + a3)).toNatClampNeg)) <<< (Int32.toInt64 (31 : Int32) &&& 63)) ||| (Int32.toInt64 (zA κ a9 (((a10 + a3) - (1 : Int32))).toNatClampNeg))) →
      ¬ a5 = 0 ∧
      ∀ v13_9 : Int64, v13_9 = (if (2147483647 : Int64) < (v11_8 / a5) then (2147483647 : Int64) else (v11_8 / a5)) →
      ∀ v15_10 : Int64, v15_10 = (v11_8 - (v13_9 * a5)) →
      w_Ca_divide_286 C n0 Q (fun a0' a1' a3' a4' a5' a7' a9' a10' τ => ∃ k < n, I k a0' a1' a3' a4' a5' a7' a9' a10' τ) a0 a1 a3 a4 a5 a7 a9 a10 v13_9 v15_10 (0 : Int32) κ)
theorem t_Ca_divide_231 {C : zC} {n0 : Nat} {Q : zS → Prop}   {a0 : Nat} {a1 : Nat} {a3 : Int32} {a4 : Int32} {a5 : Int64} {a7 : Int64} {a9 : Nat} {a10 : Int32} {κ : zS} (W : zW C n0 κ) (Ta0 : zT κ a0 = 4) (Ta1 : zT κ a1 = 8) (Ta9 : zT κ a9 = 20) (F : w_Ca_divide_231 C n0 Q  a0 a1 a3 a4 a5 a7 a9 a10 κ) : zG C n0 2 mCa_divide 231 [some (.ref a0), some (.ref a1), none, some (.int a3), some (.int a4), some (.long a5), none, some (.long a7), none, some (.ref a9), some (.int a10), none, none, none, none, none, none, none] [] κ (oV Q noX) := by
  obtain ⟨I, ⟨m0, hI0⟩, F0⟩ := F
  have key : ∀ n a0 a1 a3 a4 a5 a7 a9 a10 κ, zW C n0 κ → zT κ a0 = 4 → zT κ a1 = 8 → zT κ a9 = 20 → I n a0 a1 a3 a4 a5 a7 a9 a10 κ → zG C n0 2 mCa_divide 231 [some (.ref a0), some (.ref a1), none, some (.int a3), some (.int a4), some (.long a5), none, some (.long a7), none, some (.ref a9), some (.int a10), none, none, none, none, none, none, none] [] κ (oV Q noX) := by
    intro n
    induction n using Nat.strongRecOn with
    | _ n ih =>
      intro a0 a1 a3 a4 a5 a7 a9 a10 κ W Ta0 Ta1 Ta9 hI
      have F := F0 n a0 a1 a3 a4 a5 a7 a9 a10 κ W Ta0 Ta1 Ta9 hI
      clear hI hI0
      refine y_il dX1_divide_231 rfl ?_
      refine y_i (a10 < (0 : Int32)) dX1_divide_233 (t := 378) rfl rfl (fun c9 => ?_) (fun c9 => ?_)
      · replace F := F.1 c9
        refine y_aln dX1_divide_378 rfl ?_
        refine gf_X1_18 W dX1_divide_379 rfl Ta0 ?_
        refine y_aln dX1_divide_382 rfl ?_
        refine gf_X1_37 dX1_divide_383 rfl (Or.inl Ta1) ?_
        refine y_iln dX1_divide_386 rfl ?_
        refine y_isub dX1_divide_387 ?_
        refine y_ic dX1_divide_388 zi_1 ?_
        refine y_iadd dX1_divide_389 ?_
        refine y_ic dX1_divide_390 zi_0 ?_
        replace F := F (ty_caQuotient W Ta0)
        refine k_X1_88 W dX1_divide_391 rfl (Nat.le_of_ble_eq_true rfl) (Nat.le_of_ble_eq_true rfl) (Or.inl (ty_caQuotient W Ta0)) F (fun  κ1 Wκ1 Mκ1 F => ?_) (fun _ _ h9 => False.elim h9)
        replace F := F Wκ1 Mκ1
        refine y_aln dX1_divide_394 rfl ?_
        have h4 := (ztm W Mκ1 Ta0)
        refine gf_X1_22 Wκ1 dX1_divide_395 rfl h4 ?_
        refine y_iln dX1_divide_398 rfl ?_
        refine y_il dX1_divide_399 rfl ?_
        replace F := F (ty_caRest Wκ1 h4)
        refine k_X1_88 Wκ1 dX1_divide_401 rfl (Nat.le_of_ble_eq_true rfl) (Nat.le_of_ble_eq_true rfl) (Or.inl (ty_caRest Wκ1 h4)) F (fun  κ5 Wκ5 Mκ5 F => ?_) (fun _ _ h9 => False.elim h9)
        replace F := F Wκ5 Mκ5
        exact y_rv Wκ5 dX1_divide_404 rfl F
      · replace F := F.2 c9
        refine y_al dX1_divide_236 rfl ?_
        refine y_il dX1_divide_238 rfl ?_
        refine y_iln dX1_divide_240 rfl ?_
        refine y_iadd dX1_divide_241 ?_
        refine y_ald dX1_divide_242 Ta9 F.1 ?_
        replace F := F.2
        refine y_i2l dX1_divide_243 ?_
        refine y_bi1 dX1_divide_244 zb_31 ?_
        refine y_lshl dX1_divide_246 ?_
        refine y_al dX1_divide_247 rfl ?_
        refine y_il dX1_divide_249 rfl ?_
        refine y_iln dX1_divide_251 rfl ?_
        refine y_iadd dX1_divide_252 ?_
        refine y_ic dX1_divide_253 zi_1 ?_
        refine y_isub dX1_divide_254 ?_
        refine y_ald dX1_divide_255 Ta9 F.1 ?_
        replace F := F.2
        refine y_i2l dX1_divide_256 ?_
        refine y_lor dX1_divide_257 ?_
        refine y_lsb dX1_divide_258 (Nat.le_of_ble_eq_true rfl) (fun v11_8 ev11_8 => ?_)
        replace F := F v11_8 ev11_8
        show zG _ _ _ _ _ [some (.ref a0), some (.ref a1), none, some (.int a3), some (.int a4), some (.long a5), none, some (.long a7), none, some (.ref a9), some (.int a10), some (.long v11_8), none, none, none, none, none, none] _ _ _
        refine y_ll dX1_divide_260 rfl ?_
        refine y_ll dX1_divide_262 rfl ?_
        refine y_ldiv dX1_divide_264 F.1 ?_
        replace F := F.2
        refine y_ldcl dX1_divide_265 rfl zcl_X1_78 ?_
        refine y_minL dX1_divide_268 rfl zbi_X1_80 (Nat.le_of_ble_eq_true rfl) (Nat.le_of_ble_eq_true rfl) ?_
        refine y_lsb dX1_divide_271 (Nat.le_of_ble_eq_true rfl) (fun v13_9 ev13_9 => ?_)
        replace F := F v13_9 ev13_9
        show zG _ _ _ _ _ [some (.ref a0), some (.ref a1), none, some (.int a3), some (.int a4), some (.long a5), none, some (.long a7), none, some (.ref a9), some (.int a10), some (.long v11_8), none, some (.long v13_9), none, none, none, none] _ _ _
        refine y_ll dX1_divide_273 rfl ?_
        refine y_ll dX1_divide_275 rfl ?_
        refine y_ll dX1_divide_277 rfl ?_
        refine y_lmul dX1_divide_279 ?_
        refine y_lsub dX1_divide_280 ?_
        refine y_lsb dX1_divide_281 (Nat.le_of_ble_eq_true rfl) (fun v15_10 ev15_10 => ?_)
        replace F := F v15_10 ev15_10
        show zG _ _ _ _ _ [some (.ref a0), some (.ref a1), none, some (.int a3), some (.int a4), some (.long a5), none, some (.long a7), none, some (.ref a9), some (.int a10), some (.long v11_8), none, some (.long v13_9), none, some (.long v15_10), none, none] _ _ _
        refine y_ic dX1_divide_283 zi_0 ?_
        refine y_is dX1_divide_284 (Nat.le_of_ble_eq_true rfl) rfl ?_
        show zG _ _ _ _ _ [some (.ref a0), some (.ref a1), none, some (.int a3), some (.int a4), some (.long a5), none, some (.long a7), none, some (.ref a9), some (.int a10), some (.long v11_8), none, some (.long v13_9), none, some (.long v15_10), none, some (.int (0 : Int32))] _ _ _
        exact y_k (t_Ca_divide_286 (fun a0' a1' a3' a4' a5' a7' a9' a10' τ w9 f09 f19 f29 hb => by obtain ⟨k, hk, hI⟩ := hb; exact ih k hk a0' a1' a3' a4' a5' a7' a9' a10' τ w9 f09 f19 f29 hI) W Ta0 Ta1 Ta9 F) ⟨rfl, rfl, rfl, rfl, rfl, rfl, rfl, rfl, rfl, rfl, rfl, trivial⟩
  exact key m0 a0 a1 a3 a4 a5 a7 a9 a10 κ W Ta0 Ta1 Ta9 hI0

def w_Ca_divide_0 (C : zC) (n0 : Nat) (Q : zS → Prop)  (a0 : Nat) (a1 : Nat) (a2 : Nat) (κ : zS) : Prop :=
  ((zI κ nuLength a2) = (0 : Int32) →
    w_Ca_divide_15 C n0 Q  a0 a1 κ) ∧
  (¬ (zI κ nuLength a2) = (0 : Int32) →
    ∀ _ : zT κ a1 = 8,
    ∀ _ : zT κ a2 = 8,
    zRun C 0 mNu_compare [.ref a1, .ref a2] κ (oI (fun r2 κ1 =>
      ∀ _ : zW C n0 κ1,
      ∀ _ : zM (zn κ) κ κ1,
      ((0 : Int32) ≤ r2 →
        ((2 : Int32) < (zI κ1 nuLength a1) →
          (¬ (zI κ1 nuLength a2) = (1 : Int32) →
            ∀ v3_6 : Int32, v3_6 = (zI κ1 nuLength a2) →
            inb (v3_6 - (1 : Int32)) (zN κ1 (zR κ1 nuLimbs a2)) ∧
            zRun C 0 mNu_bitsOf [.int (zA κ1 (zR κ1 nuLimbs a2) ((v3_6 - (1 : Int32))).toNatClampNeg)] κ1 (oI (fun r8 κ7 =>
              ∀ _ : zW C n0 κ7,
              ∀ _ : zM (zn κ1) κ1 κ7,
              ∀ v4_10 : Int32, v4_10 = ((31 : Int32) - r8) →
              ∀ _ : zT κ7 (zR κ7 caRest a0) = 8,
              ∀ _ : zT κ7 a1 = 8,
              zRun C 0 mNu_shiftFrom [.ref (zR κ7 caRest a0), .ref a1, .int v4_10] κ7 (oV (fun κ12 =>
                ∀ _ : zW C n0 κ12,
                ∀ _ : zM (zn κ7) κ7 κ12,
                ∀ _ : zT κ12 (zR κ12 caDivisor a0) = 8,
                ∀ _ : zT κ12 a2 = 8,
                zRun C 0 mNu_shiftFrom [.ref (zR κ12 caDivisor a0), .ref a2, .int v4_10] κ12 (oV (fun κ17 =>
                  ∀ _ : zW C n0 κ17,
                  ∀ _ : zM (zn κ12) κ12 κ17,
                  ∀ _ : zT κ17 (zR κ17 caQuotient a0) = 8,
                  ∀ _ : zT κ17 (zR κ17 caRest a0) = 8,
                  zRun C 1 mNu_copy [.ref (zR κ17 caQuotient a0), .ref (zR κ17 caRest a0)] κ17 (oV (fun κ22 =>
                    ∀ _ : zW C n0 κ22,
                    ∀ _ : zM (zn κ17) κ17 κ22,
                    inb (v3_6 - (1 : Int32)) (zN κ22 (zR κ22 nuLimbs (zR κ22 caDivisor a0))) ∧
                    ∀ v5_26 : Int64, v5_26 = (Int32.toInt64 (if (zA κ22 (zR κ22 nuLimbs (zR κ22 caDivisor a0)) ((v3_6 - (1 : Int32))).toNatClampNeg) < (1 : Int32) then (1 : Int32) else (zA κ22 (zR κ22 nuLimbs (zR κ22 caDivisor a0)) ((v3_6 - (1 : Int32))).toNatClampNeg))) →
                    inb (v3_6 - (2 : Int32)) (zN κ22 (zR κ22 nuLimbs (zR κ22 caDivisor a0))) ∧
                    ∀ v7_27 : Int64, v7_27 = (Int32.toInt64 (zA κ22 (zR κ22 nuLimbs (zR κ22 caDivisor a0)) ((v3_6 - (2 : Int32))).toNatClampNeg)) →
                    ∀ v9_28 : Nat, v9_28 = (zR κ22 nuLimbs (zR κ22 caRest a0)) →
                    ∀ v10_30 : Int32, v10_30 = ((zI κ22 nuLength a1) - v3_6) →
                    w_Ca_divide_231 C n0 Q  a0 a1 v3_6 v4_10 v5_26 v7_27 v9_28 v10_30 κ22) noX)) noX)) noX)) noX)) ∧
          ((zI κ1 nuLength a2) = (1 : Int32) →
            ∀ _ : zT κ1 (zR κ1 caQuotient a0) = 8,
            ∀ _ : zT κ1 a1 = 8,
            zRun C 1 mNu_copy [.ref (zR κ1 caQuotient a0), .ref a1] κ1 (oV (fun κ32 =>
              ∀ _ : zW C n0 κ32,
              ∀ _ : zM (zn κ1) κ1 κ32,
              inb (0 : Int32) (zN κ32 (zR κ32 nuLimbs a2)) ∧
              ∀ _ : zT κ32 (zR κ32 caQuotient a0) = 8,
              zRun C 0 mNu_over [.ref (zR κ32 caQuotient a0), .int (zA κ32 (zR κ32 nuLimbs a2) ((0 : Int32)).toNatClampNeg)] κ32 (oI (fun r38 κ37 =>
                ∀ _ : zW C n0 κ37,
                ∀ _ : zM (zn κ32) κ32 κ37,
                ∀ _ : zT κ37 (zR κ32 caRest a0) = 8,
                zRun C 0 mNu_put [.ref (zR κ32 caRest a0), .long (Int32.toInt64 r38)] κ37 (oV (fun κ40 =>
                  ∀ _ : zW C n0 κ40,
                  ∀ _ : zM (zn κ37) κ37 κ40,
                  Q κ40) noX)) noX)) noX))) ∧
        (¬ (2 : Int32) < (zI κ1 nuLength a1) →
          ∀ _ : zT κ1 a2 = 8,
          zRun C 0 mNu_small [.ref a2] κ1 (oJ (fun r45 κ44 =>
            ∀ _ : zW C n0 κ44,
            ∀ _ : zM (zn κ1) κ1 κ44,
            ((lg_cmp r45 (0 : Int64)) ≤ (0 : Int32) →
              w_Ca_divide_65 C n0 Q  a0 a1 r45 (zR κ44 caQuotient a0) (0 : Int64) κ44) ∧
            (¬ (lg_cmp r45 (0 : Int64)) ≤ (0 : Int32) →
              ∀ _ : zT κ44 a1 = 8,
              zRun C 0 mNu_small [.ref a1] κ44 (oJ (fun r51 κ50 =>
                ∀ _ : zW C n0 κ50,
                ∀ _ : zM (zn κ44) κ44 κ50,
                ¬ r45 = 0 ∧
                w_Ca_divide_65 C n0 Q  a0 a1 r45 (zR κ44 caQuotient a0) (r51 / r45) κ50) noX))) noX))) ∧
      (¬ (0 : Int32) ≤ r2 →
        w_Ca_divide_15 C n0 Q  a0 a1 κ1)) noX))
theorem t_Ca_divide_0 {C : zC} {n0 : Nat} {Q : zS → Prop}   {a0 : Nat} {a1 : Nat} {a2 : Nat} {κ : zS} (W : zW C n0 κ) (Ta0 : zT κ a0 = 4) (Ta1 : zT κ a1 = 8) (Ta2 : zT κ a2 = 8) (F : w_Ca_divide_0 C n0 Q  a0 a1 a2 κ) : zG C n0 2 mCa_divide 0 [some (.ref a0), some (.ref a1), some (.ref a2), none, none, none, none, none, none, none, none, none, none, none, none, none, none, none] [] κ (oV Q noX) := by
  unfold w_Ca_divide_0 at F
  refine y_aln dX1_divide_0 rfl ?_
  refine gf_X1_37 dX1_divide_1 rfl (Or.inl Ta2) ?_
  refine y_i ((zI κ nuLength a2) = (0 : Int32)) dX1_divide_4 (t := 15) rfl rfl (fun c9 => ?_) (fun c9 => ?_)
  · replace F := F.1 c9
    exact y_k (t_Ca_divide_15  W Ta0 Ta1 F) ⟨rfl, rfl, trivial⟩
  · replace F := F.2 c9
    refine y_aln dX1_divide_7 rfl ?_
    refine y_aln dX1_divide_8 rfl ?_
    replace F := F Ta1
    replace F := F Ta2
    refine k_X1_41 W dX1_divide_9 rfl (Nat.le_of_ble_eq_true rfl) (Nat.le_of_ble_eq_true rfl) (Or.inl Ta1) F (fun r2 κ1 Wκ1 Mκ1 F => ?_) (fun _ _ h9 => False.elim h9)
    replace F := F Wκ1 Mκ1
    refine y_i ((0 : Int32) ≤ r2) dX1_divide_12 (t := 32) rfl rfl (fun c9 => ?_) (fun c9 => ?_)
    · replace F := F.1 c9
      refine y_aln dX1_divide_32 rfl ?_
      have h4 := (ztm W Mκ1 Ta1)
      refine gf_X1_37 dX1_divide_33 rfl (Or.inl h4) ?_
      refine y_ic dX1_divide_36 zi_2 ?_
      refine y_ii ((2 : Int32) < (zI κ1 nuLength a1)) dX1_divide_37 (t := 92) rfl rfl (fun c9 => ?_) (fun c9 => ?_)
      · replace F := F.1 c9
        refine y_aln dX1_divide_92 rfl ?_
        have h5 := (ztm W Mκ1 Ta2)
        refine gf_X1_37 dX1_divide_93 rfl (Or.inl h5) ?_
        refine y_ic dX1_divide_96 zi_1 ?_
        refine y_iin ((zI κ1 nuLength a2) = (1 : Int32)) dX1_divide_97 (t := 130) rfl rfl (fun c9 => ?_) (fun c9 => ?_)
        · replace F := F.1 c9
          refine y_aln dX1_divide_130 rfl ?_
          refine gf_X1_37 dX1_divide_131 rfl (Or.inl h5) ?_
          refine y_isnb dX1_divide_134 (Nat.le_of_ble_eq_true rfl) (fun v3_6 ev3_6 => ?_)
          replace F := F v3_6 ev3_6
          show zG _ _ _ _ _ [some (.ref a0), some (.ref a1), some (.ref a2), some (.int v3_6), none, none, none, none, none, none, none, none, none, none, none, none, none, none] _ _ _
          refine y_bi1 dX1_divide_135 zb_31 ?_
          refine y_aln dX1_divide_137 rfl ?_
          refine gf_X1_57 Wκ1 dX1_divide_138 rfl h5 ?_
          refine y_iln dX1_divide_141 rfl ?_
          refine y_ic dX1_divide_142 zi_1 ?_
          refine y_isub dX1_divide_143 ?_
          refine y_ald dX1_divide_144 (ty_nuLimbs Wκ1 h5) F.1 ?_
          replace F := F.2
          refine k_X1_65 Wκ1 dX1_divide_145 rfl (Nat.le_of_ble_eq_true rfl) (Nat.le_of_ble_eq_true rfl)  F (fun r8 κ7 Wκ7 Mκ7 F => ?_) (fun _ _ h9 => False.elim h9)
          replace F := F Wκ7 Mκ7
          refine y_isub dX1_divide_148 ?_
          refine y_isb dX1_divide_149 (Nat.le_of_ble_eq_true rfl) (fun v4_10 ev4_10 => ?_)
          replace F := F v4_10 ev4_10
          show zG _ _ _ _ _ [some (.ref a0), some (.ref a1), some (.ref a2), some (.int v3_6), some (.int v4_10), none, none, none, none, none, none, none, none, none, none, none, none, none] _ _ _
          refine y_aln dX1_divide_151 rfl ?_
          have h11 := (ztm Wκ1 Mκ7 (ztm W Mκ1 Ta0))
          refine gf_X1_22 Wκ7 dX1_divide_152 rfl h11 ?_
          refine y_aln dX1_divide_155 rfl ?_
          refine y_il dX1_divide_156 rfl ?_
          replace F := F (ty_caRest Wκ7 h11)
          have h14 := (ztm Wκ1 Mκ7 h4)
          replace F := F h14
          refine k_X1_68 Wκ7 dX1_divide_158 rfl (Nat.le_of_ble_eq_true rfl) (Nat.le_of_ble_eq_true rfl) (Or.inl (ty_caRest Wκ7 h11)) F (fun  κ12 Wκ12 Mκ12 F => ?_) (fun _ _ h9 => False.elim h9)
          replace F := F Wκ12 Mκ12
          refine y_aln dX1_divide_161 rfl ?_
          have h16 := (ztm Wκ7 Mκ12 h11)
          refine gf_X1_25 Wκ12 dX1_divide_162 rfl h16 ?_
          refine y_aln dX1_divide_165 rfl ?_
          refine y_il dX1_divide_166 rfl ?_
          replace F := F (ty_caDivisor Wκ12 h16)
          have h19 := (ztm Wκ7 Mκ12 (ztm Wκ1 Mκ7 h5))
          replace F := F h19
          refine k_X1_68 Wκ12 dX1_divide_168 rfl (Nat.le_of_ble_eq_true rfl) (Nat.le_of_ble_eq_true rfl) (Or.inl (ty_caDivisor Wκ12 h16)) F (fun  κ17 Wκ17 Mκ17 F => ?_) (fun _ _ h9 => False.elim h9)
          replace F := F Wκ17 Mκ17
          refine y_aln dX1_divide_171 rfl ?_
          have h21 := (ztm Wκ12 Mκ17 h16)
          refine gf_X1_18 Wκ17 dX1_divide_172 rfl h21 ?_
          refine y_aln dX1_divide_175 rfl ?_
          refine gf_X1_22 Wκ17 dX1_divide_176 rfl h21 ?_
          replace F := F (ty_caQuotient Wκ17 h21)
          replace F := F (ty_caRest Wκ17 h21)
          refine k_X1_49 Wκ17 dX1_divide_179 rfl (Nat.le_of_ble_eq_true rfl) (Nat.le_of_ble_eq_true rfl) (Or.inl (ty_caQuotient Wκ17 h21)) F (fun  κ22 Wκ22 Mκ22 F => ?_) (fun _ _ h9 => False.elim h9)
          replace F := F Wκ22 Mκ22
          refine y_aln dX1_divide_182 rfl ?_
          have h25 := (ztm Wκ17 Mκ22 h21)
          refine gf_X1_25 Wκ22 dX1_divide_183 rfl h25 ?_
          refine gf_X1_57 Wκ22 dX1_divide_186 rfl (ty_caDivisor Wκ22 h25) ?_
          refine y_iln dX1_divide_189 rfl ?_
          refine y_ic dX1_divide_190 zi_1 ?_
          refine y_isub dX1_divide_191 ?_
          refine y_ald dX1_divide_192 (ty_nuLimbs Wκ22 (ty_caDivisor Wκ22 h25)) F.1 ?_
          replace F := F.2
          refine y_ic dX1_divide_193 zi_1 ?_
          refine y_max dX1_divide_194 rfl zbi_X1_72 (Nat.le_of_ble_eq_true rfl) (Nat.le_of_ble_eq_true rfl) ?_
          refine y_i2l dX1_divide_197 ?_
          refine y_lsb dX1_divide_198 (Nat.le_of_ble_eq_true rfl) (fun v5_26 ev5_26 => ?_)
          replace F := F v5_26 ev5_26
          show zG _ _ _ _ _ [some (.ref a0), some (.ref a1), some (.ref a2), some (.int v3_6), some (.int v4_10), some (.long v5_26), none, none, none, none, none, none, none, none, none, none, none, none] _ _ _
          refine y_aln dX1_divide_200 rfl ?_
          refine gf_X1_25 Wκ22 dX1_divide_201 rfl h25 ?_
          refine gf_X1_57 Wκ22 dX1_divide_204 rfl (ty_caDivisor Wκ22 h25) ?_
          refine y_iln dX1_divide_207 rfl ?_
          refine y_ic dX1_divide_208 zi_2 ?_
          refine y_isub dX1_divide_209 ?_
          refine y_ald dX1_divide_210 (ty_nuLimbs Wκ22 (ty_caDivisor Wκ22 h25)) F.1 ?_
          replace F := F.2
          refine y_i2l dX1_divide_211 ?_
          refine y_lsb dX1_divide_212 (Nat.le_of_ble_eq_true rfl) (fun v7_27 ev7_27 => ?_)
          replace F := F v7_27 ev7_27
          show zG _ _ _ _ _ [some (.ref a0), some (.ref a1), some (.ref a2), some (.int v3_6), some (.int v4_10), some (.long v5_26), none, some (.long v7_27), none, none, none, none, none, none, none, none, none, none] _ _ _
          refine y_aln dX1_divide_214 rfl ?_
          refine gf_X1_22 Wκ22 dX1_divide_215 rfl h25 ?_
          refine gf_X1_57 Wκ22 dX1_divide_218 rfl (ty_caRest Wκ22 h25) ?_
          refine y_asb dX1_divide_221 (Nat.le_of_ble_eq_true rfl) (fun v9_28 ev9_28 => ?_)
          replace F := F v9_28 ev9_28
          have Tv9_28 : zT κ22 v9_28 = 20 := by rw [ev9_28]; exact (ty_nuLimbs Wκ22 (ty_caRest Wκ22 h25))
          show zG _ _ _ _ _ [some (.ref a0), some (.ref a1), some (.ref a2), some (.int v3_6), some (.int v4_10), some (.long v5_26), none, some (.long v7_27), none, some (.ref v9_28), none, none, none, none, none, none, none, none] _ _ _
          refine y_aln dX1_divide_223 rfl ?_
          have h29 := (ztm Wκ17 Mκ22 (ztm Wκ12 Mκ17 (ztm Wκ7 Mκ12 h14)))
          refine gf_X1_37 dX1_divide_224 rfl (Or.inl h29) ?_
          refine y_iln dX1_divide_227 rfl ?_
          refine y_isub dX1_divide_228 ?_
          refine y_isb dX1_divide_229 (Nat.le_of_ble_eq_true rfl) (fun v10_30 ev10_30 => ?_)
          replace F := F v10_30 ev10_30
          show zG _ _ _ _ _ [some (.ref a0), some (.ref a1), some (.ref a2), some (.int v3_6), some (.int v4_10), some (.long v5_26), none, some (.long v7_27), none, some (.ref v9_28), some (.int v10_30), none, none, none, none, none, none, none] _ _ _
          exact y_k (t_Ca_divide_231  Wκ22 h25 h29 Tv9_28 F) ⟨rfl, rfl, rfl, rfl, rfl, rfl, rfl, rfl, trivial⟩
        · replace F := F.2 c9
          refine y_aln dX1_divide_100 rfl ?_
          have h31 := (ztm W Mκ1 Ta0)
          refine gf_X1_18 Wκ1 dX1_divide_101 rfl h31 ?_
          refine y_aln dX1_divide_104 rfl ?_
          replace F := F (ty_caQuotient Wκ1 h31)
          replace F := F h4
          refine k_X1_49 Wκ1 dX1_divide_105 rfl (Nat.le_of_ble_eq_true rfl) (Nat.le_of_ble_eq_true rfl) (Or.inl (ty_caQuotient Wκ1 h31)) F (fun  κ32 Wκ32 Mκ32 F => ?_) (fun _ _ h9 => False.elim h9)
          replace F := F Wκ32 Mκ32
          refine y_aln dX1_divide_108 rfl ?_
          have h35 := (ztm Wκ1 Mκ32 h31)
          refine gf_X1_22 Wκ32 dX1_divide_109 rfl h35 ?_
          refine y_aln dX1_divide_112 rfl ?_
          refine gf_X1_18 Wκ32 dX1_divide_113 rfl h35 ?_
          refine y_aln dX1_divide_116 rfl ?_
          have h36 := (ztm Wκ1 Mκ32 h5)
          refine gf_X1_57 Wκ32 dX1_divide_117 rfl h36 ?_
          refine y_ic dX1_divide_120 zi_0 ?_
          refine y_ald dX1_divide_121 (ty_nuLimbs Wκ32 h36) F.1 ?_
          replace F := F.2
          replace F := F (ty_caQuotient Wκ32 h35)
          refine k_X1_61 Wκ32 dX1_divide_122 rfl (Nat.le_of_ble_eq_true rfl) (Nat.le_of_ble_eq_true rfl) (Or.inl (ty_caQuotient Wκ32 h35)) F (fun r38 κ37 Wκ37 Mκ37 F => ?_) (fun _ _ h9 => False.elim h9)
          replace F := F Wκ37 Mκ37
          refine y_i2l dX1_divide_125 ?_
          have h42 := (ztm Wκ32 Mκ37 (ty_caRest Wκ32 h35))
          replace F := F h42
          refine k_X1_45 Wκ37 dX1_divide_126 rfl (Nat.le_of_ble_eq_true rfl) (Nat.le_of_ble_eq_true rfl) (Or.inl h42) F (fun  κ40 Wκ40 Mκ40 F => ?_) (fun _ _ h9 => False.elim h9)
          replace F := F Wκ40 Mκ40
          exact y_rv Wκ40 dX1_divide_129 rfl F
      · replace F := F.2 c9
        refine y_aln dX1_divide_40 rfl ?_
        have h46 := (ztm W Mκ1 Ta2)
        replace F := F h46
        refine k_X1_53 Wκ1 dX1_divide_41 rfl (Nat.le_of_ble_eq_true rfl) (Nat.le_of_ble_eq_true rfl) (Or.inl h46) F (fun r45 κ44 Wκ44 Mκ44 F => ?_) (fun _ _ h9 => False.elim h9)
        replace F := F Wκ44 Mκ44
        refine y_lsn dX1_divide_44 (Nat.le_of_ble_eq_true rfl) rfl ?_
        show zG _ _ _ _ _ [some (.ref a0), some (.ref a1), some (.ref a2), some (.long r45), none, none, none, none, none, none, none, none, none, none, none, none, none, none] _ _ _
        refine y_aln dX1_divide_45 rfl ?_
        have h48 := (ztm Wκ1 Mκ44 (ztm W Mκ1 Ta0))
        refine gf_X1_18 Wκ44 dX1_divide_46 rfl h48 ?_
        refine y_lln dX1_divide_49 rfl ?_
        refine y_lc dX1_divide_50 zl_0 ?_
        refine y_lcmp dX1_divide_51 ?_
        refine y_i ((lg_cmp r45 (0 : Int64)) ≤ (0 : Int32)) dX1_divide_52 (t := 64) rfl rfl (fun c9 => ?_) (fun c9 => ?_)
        · replace F := F.1 c9
          refine y_lc dX1_divide_64 zl_0 ?_
          have h49 := (ztm Wκ1 Mκ44 h4)
          exact y_k (t_Ca_divide_65  Wκ44 h48 h49 (ty_caQuotient Wκ44 h48) F) ⟨rfl, rfl, rfl, trivial⟩
        · replace F := F.2 c9
          refine y_aln dX1_divide_55 rfl ?_
          have h52 := (ztm Wκ1 Mκ44 h4)
          replace F := F h52
          refine k_X1_53 Wκ44 dX1_divide_56 rfl (Nat.le_of_ble_eq_true rfl) (Nat.le_of_ble_eq_true rfl) (Or.inl h52) F (fun r51 κ50 Wκ50 Mκ50 F => ?_) (fun _ _ h9 => False.elim h9)
          replace F := F Wκ50 Mκ50
          refine y_lln dX1_divide_59 rfl ?_
          refine y_ldiv dX1_divide_60 F.1 ?_
          replace F := F.2
          refine y_goto dX1_divide_61 (t := 65) rfl ?_
          have h54 := (ztm Wκ44 Mκ50 h48)
          have h55 := (ztm Wκ44 Mκ50 h52)
          have h56 := (ztm Wκ44 Mκ50 (ty_caQuotient Wκ44 h48))
          exact y_k (t_Ca_divide_65  Wκ50 h54 h55 h56 F) ⟨rfl, rfl, rfl, trivial⟩
    · replace F := F.2 c9
      have h57 := (ztm W Mκ1 Ta0)
      have h58 := (ztm W Mκ1 Ta1)
      exact y_k (t_Ca_divide_15  Wκ1 h57 h58 F) ⟨rfl, rfl, trivial⟩

theorem Ca_divide_run {C : zC} {n0 : Nat} {Q : zS → Prop} {a0 : Nat} {a1 : Nat} {a2 : Nat} {κ : zS} (W : zW C n0 κ) (Ta0 : zT κ a0 = 4) (Ta1 : zT κ a1 = 8) (Ta2 : zT κ a2 = 8) (F : w_Ca_divide_0 C (zn κ) Q a0 a1 a2 κ) : zRun C 2 mCa_divide [.ref a0, .ref a1, .ref a2] κ (oV Q noX) := z_run (m_ent _ 15) (t_Ca_divide_0 (W.lo (Nat.le_trans W.1.2.1 W.1.2.2) (Nat.le_refl _)) Ta0 Ta1 Ta2 F)

theorem dX5_bits_0 : decode cX5_bits 0 = .ok (.aload_n 0, 1) := by decide +kernel
theorem dX5_bits_1 : decode cX5_bits 1 = .ok (.getfield 25, 3) := by decide +kernel
theorem dX5_bits_4 : decode cX5_bits 4 = .ok (.ifCond .le 15, 3) := by decide +kernel
theorem dX5_bits_7 : decode cX5_bits 7 = .ok (.aload_n 0, 1) := by decide +kernel
theorem dX5_bits_8 : decode cX5_bits 8 = .ok (.getfield 25, 3) := by decide +kernel
theorem dX5_bits_11 : decode cX5_bits 11 = .ok (.iconst 1, 1) := by decide +kernel
theorem dX5_bits_12 : decode cX5_bits 12 = .ok (.isub, 1) := by decide +kernel
theorem dX5_bits_13 : decode cX5_bits 13 = .ok (.bipush 31, 2) := by decide +kernel
theorem dX5_bits_15 : decode cX5_bits 15 = .ok (.imul, 1) := by decide +kernel
theorem dX5_bits_16 : decode cX5_bits 16 = .ok (.goto 4, 3) := by decide +kernel
theorem dX5_bits_19 : decode cX5_bits 19 = .ok (.iconst 0, 1) := by decide +kernel
theorem dX5_bits_20 : decode cX5_bits 20 = .ok (.istore_n 1, 1) := by decide +kernel
theorem dX5_bits_21 : decode cX5_bits 21 = .ok (.aload_n 0, 1) := by decide +kernel
theorem dX5_bits_22 : decode cX5_bits 22 = .ok (.getfield 25, 3) := by decide +kernel
theorem dX5_bits_25 : decode cX5_bits 25 = .ok (.ifCond .le 17, 3) := by decide +kernel
theorem dX5_bits_28 : decode cX5_bits 28 = .ok (.aload_n 0, 1) := by decide +kernel
theorem dX5_bits_29 : decode cX5_bits 29 = .ok (.getfield 13, 3) := by decide +kernel
theorem dX5_bits_32 : decode cX5_bits 32 = .ok (.aload_n 0, 1) := by decide +kernel
theorem dX5_bits_33 : decode cX5_bits 33 = .ok (.getfield 25, 3) := by decide +kernel
theorem dX5_bits_36 : decode cX5_bits 36 = .ok (.iconst 1, 1) := by decide +kernel
theorem dX5_bits_37 : decode cX5_bits 37 = .ok (.isub, 1) := by decide +kernel
theorem dX5_bits_38 : decode cX5_bits 38 = .ok (.iaload, 1) := by decide +kernel
theorem dX5_bits_39 : decode cX5_bits 39 = .ok (.goto 4, 3) := by decide +kernel
theorem dX5_bits_42 : decode cX5_bits 42 = .ok (.iconst 0, 1) := by decide +kernel
theorem dX5_bits_43 : decode cX5_bits 43 = .ok (.istore_n 2, 1) := by decide +kernel
theorem dX5_bits_44 : decode cX5_bits 44 = .ok (.iload_n 2, 1) := by decide +kernel
theorem dX5_bits_45 : decode cX5_bits 45 = .ok (.ifCond .le 13, 3) := by decide +kernel
theorem dX5_bits_48 : decode cX5_bits 48 = .ok (.iinc 1 1, 3) := by decide +kernel
theorem dX5_bits_51 : decode cX5_bits 51 = .ok (.iload_n 2, 1) := by decide +kernel
theorem dX5_bits_52 : decode cX5_bits 52 = .ok (.iconst 1, 1) := by decide +kernel
theorem dX5_bits_53 : decode cX5_bits 53 = .ok (.ishr, 1) := by decide +kernel
theorem dX5_bits_54 : decode cX5_bits 54 = .ok (.istore_n 2, 1) := by decide +kernel
theorem dX5_bits_55 : decode cX5_bits 55 = .ok (.goto (-11), 3) := by decide +kernel
theorem dX5_bits_58 : decode cX5_bits 58 = .ok (.iload_n 1, 1) := by decide +kernel
theorem dX5_bits_59 : decode cX5_bits 59 = .ok (.ireturn, 1) := by decide +kernel
def w_Nu_bits_44 (C : zC) (n0 : Nat) (Q : Int32 → zS → Prop)  (a0 : Nat) (a1 : Int32) (a2 : Int32) (κ : zS) : Prop :=
  ∃ I : Nat → Nat → Int32 → Int32 → zS → Prop, (∃ n, I n a0 a1 a2 κ) ∧ ∀ n a0 a1 a2 κ, zW C n0 κ → zT κ a0 = 8 → I n a0 a1 a2 κ →
    (a2 ≤ (0 : Int32) →
      Q a1 κ) ∧
    (¬ a2 ≤ (0 : Int32) →
      ∀ v1_1 : Int32, v1_1 = a1 + (1 : Int32) →
      ∀ v2_2 : Int32, v2_2 = (a2 >>> ((1 : Int32) &&& 31)) →
      ∃ k < n, I k a0 v1_1 v2_2 κ)
theorem t_Nu_bits_44 {C : zC} {n0 : Nat} {Q : Int32 → zS → Prop}   {a0 : Nat} {a1 : Int32} {a2 : Int32} {κ : zS} (W : zW C n0 κ) (Ta0 : zT κ a0 = 8) (F : w_Nu_bits_44 C n0 Q  a0 a1 a2 κ) : zG C n0 0 mNu_bits 44 [some (.ref a0), some (.int a1), some (.int a2)] [] κ (oI Q noX) := by
  obtain ⟨I, ⟨m0, hI0⟩, F0⟩ := F
  have key : ∀ n a0 a1 a2 κ, zW C n0 κ → zT κ a0 = 8 → I n a0 a1 a2 κ → zG C n0 0 mNu_bits 44 [some (.ref a0), some (.int a1), some (.int a2)] [] κ (oI Q noX) := by
    intro n
    induction n using Nat.strongRecOn with
    | _ n ih =>
      intro a0 a1 a2 κ W Ta0 hI
      have F := F0 n a0 a1 a2 κ W Ta0 hI
      clear hI hI0
      refine y_iln dX5_bits_44 rfl ?_
      refine y_i (a2 ≤ (0 : Int32)) dX5_bits_45 (t := 58) rfl rfl (fun c9 => ?_) (fun c9 => ?_)
      · replace F := F.1 c9
        refine y_iln dX5_bits_58 rfl ?_
        exact y_ri W dX5_bits_59 rfl in_nar F
      · replace F := F.2 c9
        refine y_incb dX5_bits_48 zi_1 rfl (Nat.le_of_ble_eq_true rfl) (fun v1_1 ev1_1 => ?_)
        replace F := F v1_1 ev1_1
        show zG _ _ _ _ _ [some (.ref a0), some (.int v1_1), some (.int a2)] _ _ _
        refine y_iln dX5_bits_51 rfl ?_
        refine y_ic dX5_bits_52 zi_1 ?_
        refine y_ishr dX5_bits_53 ?_
        refine y_isnb dX5_bits_54 (Nat.le_of_ble_eq_true rfl) (fun v2_2 ev2_2 => ?_)
        replace F := F v2_2 ev2_2
        show zG _ _ _ _ _ [some (.ref a0), some (.int v1_1), some (.int v2_2)] _ _ _
        refine y_goto dX5_bits_55 (t := 44) rfl ?_
        obtain ⟨k, hk, hI⟩ := F
        exact y_k (ih k hk _ _ _ _ W Ta0 hI) ⟨rfl, rfl, rfl, trivial⟩
  exact key m0 a0 a1 a2 κ W Ta0 hI0

def w_Nu_bits_20 (C : zC) (n0 : Nat) (Q : Int32 → zS → Prop)  (a0 : Nat) (s0 : Int32) (κ : zS) : Prop :=
  ((zI κ nuLength a0) ≤ (0 : Int32) →
    w_Nu_bits_44 C n0 Q  a0 s0 (0 : Int32) κ) ∧
  (¬ (zI κ nuLength a0) ≤ (0 : Int32) →
    inb ((zI κ nuLength a0) - (1 : Int32)) (zN κ (zR κ nuLimbs a0)) ∧
    ∀ v2_1 : Int32, v2_1 = (zA κ (zR κ nuLimbs a0) (((zI κ nuLength a0) - (1 : Int32))).toNatClampNeg) →
    w_Nu_bits_44 C n0 Q  a0 s0 v2_1 κ)
theorem t_Nu_bits_20 {C : zC} {n0 : Nat} {Q : Int32 → zS → Prop}   {a0 : Nat} {s0 : Int32} {κ : zS} (W : zW C n0 κ) (Ta0 : zT κ a0 = 8) (F : w_Nu_bits_20 C n0 Q  a0 s0 κ) : zG C n0 0 mNu_bits 20 [some (.ref a0), none, none] [.int s0] κ (oI Q noX) := by
  unfold w_Nu_bits_20 at F
  refine y_isn dX5_bits_20 (Nat.le_of_ble_eq_true rfl) rfl ?_
  show zG _ _ _ _ _ [some (.ref a0), some (.int s0), none] _ _ _
  refine y_aln dX5_bits_21 rfl ?_
  refine gf_X5_25 dX5_bits_22 rfl (Or.inl Ta0) ?_
  refine y_i ((zI κ nuLength a0) ≤ (0 : Int32)) dX5_bits_25 (t := 42) rfl rfl (fun c9 => ?_) (fun c9 => ?_)
  · replace F := F.1 c9
    refine y_ic dX5_bits_42 zi_0 ?_
    refine y_isn dX5_bits_43 (Nat.le_of_ble_eq_true rfl) rfl ?_
    show zG _ _ _ _ _ [some (.ref a0), some (.int s0), some (.int (0 : Int32))] _ _ _
    exact y_k (t_Nu_bits_44  W Ta0 F) ⟨rfl, rfl, rfl, trivial⟩
  · replace F := F.2 c9
    refine y_aln dX5_bits_28 rfl ?_
    refine gf_X5_13 W dX5_bits_29 rfl Ta0 ?_
    refine y_aln dX5_bits_32 rfl ?_
    refine gf_X5_25 dX5_bits_33 rfl (Or.inl Ta0) ?_
    refine y_ic dX5_bits_36 zi_1 ?_
    refine y_isub dX5_bits_37 ?_
    refine y_ald dX5_bits_38 (ty_nuLimbs W Ta0) F.1 ?_
    replace F := F.2
    refine y_goto dX5_bits_39 (t := 43) rfl ?_
    refine y_isnb dX5_bits_43 (Nat.le_of_ble_eq_true rfl) (fun v2_1 ev2_1 => ?_)
    replace F := F v2_1 ev2_1
    show zG _ _ _ _ _ [some (.ref a0), some (.int s0), some (.int v2_1)] _ _ _
    exact y_k (t_Nu_bits_44  W Ta0 F) ⟨rfl, rfl, rfl, trivial⟩

def w_Nu_bits_0 (C : zC) (n0 : Nat) (Q : Int32 → zS → Prop)  (a0 : Nat) (κ : zS) : Prop :=
  ((zI κ nuLength a0) ≤ (0 : Int32) →
    w_Nu_bits_20 C n0 Q  a0 (0 : Int32) κ) ∧
  (¬ (zI κ nuLength a0) ≤ (0 : Int32) →
    w_Nu_bits_20 C n0 Q  a0 (((zI κ nuLength a0) - (1 : Int32)) * (31 : Int32)) κ)
theorem t_Nu_bits_0 {C : zC} {n0 : Nat} {Q : Int32 → zS → Prop}   {a0 : Nat} {κ : zS} (W : zW C n0 κ) (Ta0 : zT κ a0 = 8) (F : w_Nu_bits_0 C n0 Q  a0 κ) : zG C n0 0 mNu_bits 0 [some (.ref a0), none, none] [] κ (oI Q noX) := by
  unfold w_Nu_bits_0 at F
  refine y_aln dX5_bits_0 rfl ?_
  refine gf_X5_25 dX5_bits_1 rfl (Or.inl Ta0) ?_
  refine y_i ((zI κ nuLength a0) ≤ (0 : Int32)) dX5_bits_4 (t := 19) rfl rfl (fun c9 => ?_) (fun c9 => ?_)
  · replace F := F.1 c9
    refine y_ic dX5_bits_19 zi_0 ?_
    exact y_k (t_Nu_bits_20  W Ta0 F) ⟨rfl, trivial⟩
  · replace F := F.2 c9
    refine y_aln dX5_bits_7 rfl ?_
    refine gf_X5_25 dX5_bits_8 rfl (Or.inl Ta0) ?_
    refine y_ic dX5_bits_11 zi_1 ?_
    refine y_isub dX5_bits_12 ?_
    refine y_bi1 dX5_bits_13 zb_31 ?_
    refine y_imul dX5_bits_15 ?_
    refine y_goto dX5_bits_16 (t := 20) rfl ?_
    exact y_k (t_Nu_bits_20  W Ta0 F) ⟨rfl, trivial⟩

theorem Nu_bits_run {C : zC} {n0 : Nat} {Q : Int32 → zS → Prop} {a0 : Nat} {κ : zS} (W : zW C n0 κ) (Ta0 : zT κ a0 = 8) (F : w_Nu_bits_0 C (zn κ) Q a0 κ) : zRun C 0 mNu_bits [.ref a0] κ (oI Q noX) := z_run (m_ent _ 2) (t_Nu_bits_0 (W.lo (Nat.le_trans W.1.2.1 W.1.2.2) (Nat.le_refl _)) Ta0 F)

theorem dX5_high_0 : decode cX5_high 0 = .ok (.iload_n 1, 1) := by decide +kernel
theorem dX5_high_1 : decode cX5_high 1 = .ok (.bipush 31, 2) := by decide +kernel
theorem dX5_high_3 : decode cX5_high 3 = .ok (.idiv, 1) := by decide +kernel
theorem dX5_high_4 : decode cX5_high 4 = .ok (.istore_n 2, 1) := by decide +kernel
theorem dX5_high_5 : decode cX5_high 5 = .ok (.iload_n 1, 1) := by decide +kernel
theorem dX5_high_6 : decode cX5_high 6 = .ok (.bipush 31, 2) := by decide +kernel
theorem dX5_high_8 : decode cX5_high 8 = .ok (.irem, 1) := by decide +kernel
theorem dX5_high_9 : decode cX5_high 9 = .ok (.istore_n 3, 1) := by decide +kernel
theorem dX5_high_10 : decode cX5_high 10 = .ok (.iload_n 2, 1) := by decide +kernel
theorem dX5_high_11 : decode cX5_high 11 = .ok (.ifCond .lt 21, 3) := by decide +kernel
theorem dX5_high_14 : decode cX5_high 14 = .ok (.iload_n 2, 1) := by decide +kernel
theorem dX5_high_15 : decode cX5_high 15 = .ok (.aload_n 0, 1) := by decide +kernel
theorem dX5_high_16 : decode cX5_high 16 = .ok (.getfield 25, 3) := by decide +kernel
theorem dX5_high_19 : decode cX5_high 19 = .ok (.if_icmp .ge 13, 3) := by decide +kernel
theorem dX5_high_22 : decode cX5_high 22 = .ok (.aload_n 0, 1) := by decide +kernel
theorem dX5_high_23 : decode cX5_high 23 = .ok (.getfield 13, 3) := by decide +kernel
theorem dX5_high_26 : decode cX5_high 26 = .ok (.iload_n 2, 1) := by decide +kernel
theorem dX5_high_27 : decode cX5_high 27 = .ok (.iaload, 1) := by decide +kernel
theorem dX5_high_28 : decode cX5_high 28 = .ok (.i2l, 1) := by decide +kernel
theorem dX5_high_29 : decode cX5_high 29 = .ok (.goto 4, 3) := by decide +kernel
theorem dX5_high_32 : decode cX5_high 32 = .ok (.lconst 0, 1) := by decide +kernel
theorem dX5_high_33 : decode cX5_high 33 = .ok (.lstore 4, 2) := by decide +kernel
theorem dX5_high_35 : decode cX5_high 35 = .ok (.iload_n 2, 1) := by decide +kernel
theorem dX5_high_36 : decode cX5_high 36 = .ok (.iconst 1, 1) := by decide +kernel
theorem dX5_high_37 : decode cX5_high 37 = .ok (.iadd, 1) := by decide +kernel
theorem dX5_high_38 : decode cX5_high 38 = .ok (.ifCond .lt 25, 3) := by decide +kernel
theorem dX5_high_41 : decode cX5_high 41 = .ok (.iload_n 2, 1) := by decide +kernel
theorem dX5_high_42 : decode cX5_high 42 = .ok (.iconst 1, 1) := by decide +kernel
theorem dX5_high_43 : decode cX5_high 43 = .ok (.iadd, 1) := by decide +kernel
theorem dX5_high_44 : decode cX5_high 44 = .ok (.aload_n 0, 1) := by decide +kernel
theorem dX5_high_45 : decode cX5_high 45 = .ok (.getfield 25, 3) := by decide +kernel
theorem dX5_high_48 : decode cX5_high 48 = .ok (.if_icmp .ge 15, 3) := by decide +kernel
theorem dX5_high_51 : decode cX5_high 51 = .ok (.aload_n 0, 1) := by decide +kernel
theorem dX5_high_52 : decode cX5_high 52 = .ok (.getfield 13, 3) := by decide +kernel
theorem dX5_high_55 : decode cX5_high 55 = .ok (.iload_n 2, 1) := by decide +kernel
theorem dX5_high_56 : decode cX5_high 56 = .ok (.iconst 1, 1) := by decide +kernel
theorem dX5_high_57 : decode cX5_high 57 = .ok (.iadd, 1) := by decide +kernel
theorem dX5_high_58 : decode cX5_high 58 = .ok (.iaload, 1) := by decide +kernel
theorem dX5_high_59 : decode cX5_high 59 = .ok (.i2l, 1) := by decide +kernel
theorem dX5_high_60 : decode cX5_high 60 = .ok (.goto 4, 3) := by decide +kernel
theorem dX5_high_63 : decode cX5_high 63 = .ok (.lconst 0, 1) := by decide +kernel
theorem dX5_high_64 : decode cX5_high 64 = .ok (.lstore 6, 2) := by decide +kernel
theorem dX5_high_66 : decode cX5_high 66 = .ok (.iload_n 2, 1) := by decide +kernel
theorem dX5_high_67 : decode cX5_high 67 = .ok (.iconst 2, 1) := by decide +kernel
theorem dX5_high_68 : decode cX5_high 68 = .ok (.iadd, 1) := by decide +kernel
theorem dX5_high_69 : decode cX5_high 69 = .ok (.ifCond .lt 25, 3) := by decide +kernel
theorem dX5_high_72 : decode cX5_high 72 = .ok (.iload_n 2, 1) := by decide +kernel
theorem dX5_high_73 : decode cX5_high 73 = .ok (.iconst 2, 1) := by decide +kernel
theorem dX5_high_74 : decode cX5_high 74 = .ok (.iadd, 1) := by decide +kernel
theorem dX5_high_75 : decode cX5_high 75 = .ok (.aload_n 0, 1) := by decide +kernel
theorem dX5_high_76 : decode cX5_high 76 = .ok (.getfield 25, 3) := by decide +kernel
theorem dX5_high_79 : decode cX5_high 79 = .ok (.if_icmp .ge 15, 3) := by decide +kernel
theorem dX5_high_82 : decode cX5_high 82 = .ok (.aload_n 0, 1) := by decide +kernel
theorem dX5_high_83 : decode cX5_high 83 = .ok (.getfield 13, 3) := by decide +kernel
theorem dX5_high_86 : decode cX5_high 86 = .ok (.iload_n 2, 1) := by decide +kernel
theorem dX5_high_87 : decode cX5_high 87 = .ok (.iconst 2, 1) := by decide +kernel
theorem dX5_high_88 : decode cX5_high 88 = .ok (.iadd, 1) := by decide +kernel
theorem dX5_high_89 : decode cX5_high 89 = .ok (.iaload, 1) := by decide +kernel
theorem dX5_high_90 : decode cX5_high 90 = .ok (.i2l, 1) := by decide +kernel
theorem dX5_high_91 : decode cX5_high 91 = .ok (.goto 4, 3) := by decide +kernel
theorem dX5_high_94 : decode cX5_high 94 = .ok (.lconst 0, 1) := by decide +kernel
theorem dX5_high_95 : decode cX5_high 95 = .ok (.lstore 8, 2) := by decide +kernel
theorem dX5_high_97 : decode cX5_high 97 = .ok (.lload 4, 2) := by decide +kernel
theorem dX5_high_99 : decode cX5_high 99 = .ok (.iload_n 3, 1) := by decide +kernel
theorem dX5_high_100 : decode cX5_high 100 = .ok (.lushr, 1) := by decide +kernel
theorem dX5_high_101 : decode cX5_high 101 = .ok (.lload 6, 2) := by decide +kernel
theorem dX5_high_103 : decode cX5_high 103 = .ok (.bipush 31, 2) := by decide +kernel
theorem dX5_high_105 : decode cX5_high 105 = .ok (.iload_n 3, 1) := by decide +kernel
theorem dX5_high_106 : decode cX5_high 106 = .ok (.isub, 1) := by decide +kernel
theorem dX5_high_107 : decode cX5_high 107 = .ok (.lshl, 1) := by decide +kernel
theorem dX5_high_108 : decode cX5_high 108 = .ok (.lor, 1) := by decide +kernel
theorem dX5_high_109 : decode cX5_high 109 = .ok (.lload 8, 2) := by decide +kernel
theorem dX5_high_111 : decode cX5_high 111 = .ok (.bipush 62, 2) := by decide +kernel
theorem dX5_high_113 : decode cX5_high 113 = .ok (.iload_n 3, 1) := by decide +kernel
theorem dX5_high_114 : decode cX5_high 114 = .ok (.isub, 1) := by decide +kernel
theorem dX5_high_115 : decode cX5_high 115 = .ok (.lshl, 1) := by decide +kernel
theorem dX5_high_116 : decode cX5_high 116 = .ok (.lor, 1) := by decide +kernel
theorem dX5_high_117 : decode cX5_high 117 = .ok (.lreturn, 1) := by decide +kernel
def w_Nu_high_95 (C : zC) (n0 : Nat) (Q : Int64 → zS → Prop)  (a0 : Nat) (a3 : Int32) (a4 : Int64) (a6 : Int64) (s0 : Int64) (κ : zS) : Prop :=
  Q (((Int64.toUInt64 a4 >>> (Int64.toUInt64 (Int32.toInt64 a3) &&& Int64.toUInt64 63)).toInt64 ||| (a6 <<< (Int32.toInt64 ((31 : Int32) - a3) &&& 63))) ||| (s0 <<< (Int32.toInt64 ((62 : Int32) - a3) &&& 63))) κ
theorem t_Nu_high_95 {C : zC} {n0 : Nat} {Q : Int64 → zS → Prop}   {a0 : Nat} {a3 : Int32} {a4 : Int64} {a6 : Int64} {s0 : Int64} {κ : zS} (W : zW C n0 κ) (Ta0 : zT κ a0 = 8) (F : w_Nu_high_95 C n0 Q  a0 a3 a4 a6 s0 κ) : zG C n0 0 mNu_high 95 [some (.ref a0), none, none, some (.int a3), some (.long a4), none, some (.long a6), none, none, none] [.long s0] κ (oJ Q noX) := by
  unfold w_Nu_high_95 at F
  refine y_ls dX5_high_95 (Nat.le_of_ble_eq_true rfl) rfl ?_
  show zG _ _ _ _ _ [some (.ref a0), none, none, some (.int a3), some (.long a4), none, some (.long a6), none, some (.long s0), none] _ _ _
  refine y_ll dX5_high_97 rfl ?_
  refine y_iln dX5_high_99 rfl ?_
  refine y_lushr dX5_high_100 ?_
  refine y_ll dX5_high_101 rfl ?_
  refine y_bi1 dX5_high_103 zb_31 ?_
  refine y_iln dX5_high_105 rfl ?_
  refine y_isub dX5_high_106 ?_
  refine y_lshl dX5_high_107 ?_
  refine y_lor dX5_high_108 ?_
  refine y_ll dX5_high_109 rfl ?_
  refine y_bi1 dX5_high_111 zb_62 ?_
  refine y_iln dX5_high_113 rfl ?_
  refine y_isub dX5_high_114 ?_
  refine y_lshl dX5_high_115 ?_
  refine y_lor dX5_high_116 ?_
  exact y_rl W dX5_high_117 rfl F

def w_Nu_high_64 (C : zC) (n0 : Nat) (Q : Int64 → zS → Prop)  (a0 : Nat) (a2 : Int32) (a3 : Int32) (a4 : Int64) (s0 : Int64) (κ : zS) : Prop :=
  ((a2 + (2 : Int32)) < (0 : Int32) →
    w_Nu_high_95 C n0 Q  a0 a3 a4 s0 (0 : Int64) κ) ∧
  (¬ (a2 + (2 : Int32)) < (0 : Int32) →
    ((zI κ nuLength a0) ≤ (a2 + (2 : Int32)) →
      w_Nu_high_95 C n0 Q  a0 a3 a4 s0 (0 : Int64) κ) ∧
    (¬ (zI κ nuLength a0) ≤ (a2 + (2 : Int32)) →
      inb (a2 + (2 : Int32)) (zN κ (zR κ nuLimbs a0)) ∧
      w_Nu_high_95 C n0 Q  a0 a3 a4 s0 (Int32.toInt64 (zA κ (zR κ nuLimbs a0) ((a2 + (2 : Int32))).toNatClampNeg)) κ))
theorem t_Nu_high_64 {C : zC} {n0 : Nat} {Q : Int64 → zS → Prop}   {a0 : Nat} {a2 : Int32} {a3 : Int32} {a4 : Int64} {s0 : Int64} {κ : zS} (W : zW C n0 κ) (Ta0 : zT κ a0 = 8) (F : w_Nu_high_64 C n0 Q  a0 a2 a3 a4 s0 κ) : zG C n0 0 mNu_high 64 [some (.ref a0), none, some (.int a2), some (.int a3), some (.long a4), none, none, none, none, none] [.long s0] κ (oJ Q noX) := by
  unfold w_Nu_high_64 at F
  refine y_ls dX5_high_64 (Nat.le_of_ble_eq_true rfl) rfl ?_
  show zG _ _ _ _ _ [some (.ref a0), none, some (.int a2), some (.int a3), some (.long a4), none, some (.long s0), none, none, none] _ _ _
  refine y_iln dX5_high_66 rfl ?_
  refine y_ic dX5_high_67 zi_2 ?_
  refine y_iadd dX5_high_68 ?_
  refine y_i ((a2 + (2 : Int32)) < (0 : Int32)) dX5_high_69 (t := 94) rfl rfl (fun c9 => ?_) (fun c9 => ?_)
  · replace F := F.1 c9
    refine y_lc dX5_high_94 zl_0 ?_
    exact y_k (t_Nu_high_95  W Ta0 F) ⟨rfl, rfl, rfl, rfl, trivial⟩
  · replace F := F.2 c9
    refine y_iln dX5_high_72 rfl ?_
    refine y_ic dX5_high_73 zi_2 ?_
    refine y_iadd dX5_high_74 ?_
    refine y_aln dX5_high_75 rfl ?_
    refine gf_X5_25 dX5_high_76 rfl (Or.inl Ta0) ?_
    refine y_ii ((zI κ nuLength a0) ≤ (a2 + (2 : Int32))) dX5_high_79 (t := 94) rfl rfl (fun c9 => ?_) (fun c9 => ?_)
    · replace F := F.1 c9
      refine y_lc dX5_high_94 zl_0 ?_
      exact y_k (t_Nu_high_95  W Ta0 F) ⟨rfl, rfl, rfl, rfl, trivial⟩
    · replace F := F.2 c9
      refine y_aln dX5_high_82 rfl ?_
      refine gf_X5_13 W dX5_high_83 rfl Ta0 ?_
      refine y_iln dX5_high_86 rfl ?_
      refine y_ic dX5_high_87 zi_2 ?_
      refine y_iadd dX5_high_88 ?_
      refine y_ald dX5_high_89 (ty_nuLimbs W Ta0) F.1 ?_
      replace F := F.2
      refine y_i2l dX5_high_90 ?_
      refine y_goto dX5_high_91 (t := 95) rfl ?_
      exact y_k (t_Nu_high_95  W Ta0 F) ⟨rfl, rfl, rfl, rfl, trivial⟩

def w_Nu_high_33 (C : zC) (n0 : Nat) (Q : Int64 → zS → Prop)  (a0 : Nat) (a2 : Int32) (a3 : Int32) (s0 : Int64) (κ : zS) : Prop :=
  ((a2 + (1 : Int32)) < (0 : Int32) →
    w_Nu_high_64 C n0 Q  a0 a2 a3 s0 (0 : Int64) κ) ∧
  (¬ (a2 + (1 : Int32)) < (0 : Int32) →
    ((zI κ nuLength a0) ≤ (a2 + (1 : Int32)) →
      w_Nu_high_64 C n0 Q  a0 a2 a3 s0 (0 : Int64) κ) ∧
    (¬ (zI κ nuLength a0) ≤ (a2 + (1 : Int32)) →
      inb (a2 + (1 : Int32)) (zN κ (zR κ nuLimbs a0)) ∧
      w_Nu_high_64 C n0 Q  a0 a2 a3 s0 (Int32.toInt64 (zA κ (zR κ nuLimbs a0) ((a2 + (1 : Int32))).toNatClampNeg)) κ))
theorem t_Nu_high_33 {C : zC} {n0 : Nat} {Q : Int64 → zS → Prop}   {a0 : Nat} {a2 : Int32} {a3 : Int32} {s0 : Int64} {κ : zS} (W : zW C n0 κ) (Ta0 : zT κ a0 = 8) (F : w_Nu_high_33 C n0 Q  a0 a2 a3 s0 κ) : zG C n0 0 mNu_high 33 [some (.ref a0), none, some (.int a2), some (.int a3), none, none, none, none, none, none] [.long s0] κ (oJ Q noX) := by
  unfold w_Nu_high_33 at F
  refine y_ls dX5_high_33 (Nat.le_of_ble_eq_true rfl) rfl ?_
  show zG _ _ _ _ _ [some (.ref a0), none, some (.int a2), some (.int a3), some (.long s0), none, none, none, none, none] _ _ _
  refine y_iln dX5_high_35 rfl ?_
  refine y_ic dX5_high_36 zi_1 ?_
  refine y_iadd dX5_high_37 ?_
  refine y_i ((a2 + (1 : Int32)) < (0 : Int32)) dX5_high_38 (t := 63) rfl rfl (fun c9 => ?_) (fun c9 => ?_)
  · replace F := F.1 c9
    refine y_lc dX5_high_63 zl_0 ?_
    exact y_k (t_Nu_high_64  W Ta0 F) ⟨rfl, rfl, rfl, rfl, trivial⟩
  · replace F := F.2 c9
    refine y_iln dX5_high_41 rfl ?_
    refine y_ic dX5_high_42 zi_1 ?_
    refine y_iadd dX5_high_43 ?_
    refine y_aln dX5_high_44 rfl ?_
    refine gf_X5_25 dX5_high_45 rfl (Or.inl Ta0) ?_
    refine y_ii ((zI κ nuLength a0) ≤ (a2 + (1 : Int32))) dX5_high_48 (t := 63) rfl rfl (fun c9 => ?_) (fun c9 => ?_)
    · replace F := F.1 c9
      refine y_lc dX5_high_63 zl_0 ?_
      exact y_k (t_Nu_high_64  W Ta0 F) ⟨rfl, rfl, rfl, rfl, trivial⟩
    · replace F := F.2 c9
      refine y_aln dX5_high_51 rfl ?_
      refine gf_X5_13 W dX5_high_52 rfl Ta0 ?_
      refine y_iln dX5_high_55 rfl ?_
      refine y_ic dX5_high_56 zi_1 ?_
      refine y_iadd dX5_high_57 ?_
      refine y_ald dX5_high_58 (ty_nuLimbs W Ta0) F.1 ?_
      replace F := F.2
      refine y_i2l dX5_high_59 ?_
      refine y_goto dX5_high_60 (t := 64) rfl ?_
      exact y_k (t_Nu_high_64  W Ta0 F) ⟨rfl, rfl, rfl, rfl, trivial⟩

def w_Nu_high_0 (C : zC) (n0 : Nat) (Q : Int64 → zS → Prop)  (a0 : Nat) (a1 : Int32) (κ : zS) : Prop :=
  ¬ (31 : Int32) = 0 ∧
  ∀ v2_1 : Int32, v2_1 = (a1 / (31 : Int32)) →
  ¬ (31 : Int32) = 0 ∧
  ∀ v3_2 : Int32, v3_2 = (a1 - a1 / (31 : Int32) * (31 : Int32)) →
  (v2_1 < (0 : Int32) →
    w_Nu_high_33 C n0 Q  a0 v2_1 v3_2 (0 : Int64) κ) ∧
  (¬ v2_1 < (0 : Int32) →
    ((zI κ nuLength a0) ≤ v2_1 →
      w_Nu_high_33 C n0 Q  a0 v2_1 v3_2 (0 : Int64) κ) ∧
    (¬ (zI κ nuLength a0) ≤ v2_1 →
      inb v2_1 (zN κ (zR κ nuLimbs a0)) ∧
      w_Nu_high_33 C n0 Q  a0 v2_1 v3_2 (Int32.toInt64 (zA κ (zR κ nuLimbs a0) (v2_1).toNatClampNeg)) κ))
theorem t_Nu_high_0 {C : zC} {n0 : Nat} {Q : Int64 → zS → Prop}   {a0 : Nat} {a1 : Int32} {κ : zS} (W : zW C n0 κ) (Ta0 : zT κ a0 = 8) (F : w_Nu_high_0 C n0 Q  a0 a1 κ) : zG C n0 0 mNu_high 0 [some (.ref a0), some (.int a1), none, none, none, none, none, none, none, none] [] κ (oJ Q noX) := by
  unfold w_Nu_high_0 at F
  refine y_iln dX5_high_0 rfl ?_
  refine y_bi1 dX5_high_1 zb_31 ?_
  refine y_div dX5_high_3 F.1 ?_
  replace F := F.2
  refine y_isnb dX5_high_4 (Nat.le_of_ble_eq_true rfl) (fun v2_1 ev2_1 => ?_)
  replace F := F v2_1 ev2_1
  show zG _ _ _ _ _ [some (.ref a0), some (.int a1), some (.int v2_1), none, none, none, none, none, none, none] _ _ _
  refine y_iln dX5_high_5 rfl ?_
  refine y_bi1 dX5_high_6 zb_31 ?_
  refine y_rem dX5_high_8 F.1 ?_
  replace F := F.2
  refine y_isnb dX5_high_9 (Nat.le_of_ble_eq_true rfl) (fun v3_2 ev3_2 => ?_)
  replace F := F v3_2 ev3_2
  show zG _ _ _ _ _ [some (.ref a0), some (.int a1), some (.int v2_1), some (.int v3_2), none, none, none, none, none, none] _ _ _
  refine y_iln dX5_high_10 rfl ?_
  refine y_i (v2_1 < (0 : Int32)) dX5_high_11 (t := 32) rfl rfl (fun c9 => ?_) (fun c9 => ?_)
  · replace F := F.1 c9
    refine y_lc dX5_high_32 zl_0 ?_
    exact y_k (t_Nu_high_33  W Ta0 F) ⟨rfl, rfl, rfl, trivial⟩
  · replace F := F.2 c9
    refine y_iln dX5_high_14 rfl ?_
    refine y_aln dX5_high_15 rfl ?_
    refine gf_X5_25 dX5_high_16 rfl (Or.inl Ta0) ?_
    refine y_ii ((zI κ nuLength a0) ≤ v2_1) dX5_high_19 (t := 32) rfl rfl (fun c9 => ?_) (fun c9 => ?_)
    · replace F := F.1 c9
      refine y_lc dX5_high_32 zl_0 ?_
      exact y_k (t_Nu_high_33  W Ta0 F) ⟨rfl, rfl, rfl, trivial⟩
    · replace F := F.2 c9
      refine y_aln dX5_high_22 rfl ?_
      refine gf_X5_13 W dX5_high_23 rfl Ta0 ?_
      refine y_iln dX5_high_26 rfl ?_
      refine y_ald dX5_high_27 (ty_nuLimbs W Ta0) F.1 ?_
      replace F := F.2
      refine y_i2l dX5_high_28 ?_
      refine y_goto dX5_high_29 (t := 33) rfl ?_
      exact y_k (t_Nu_high_33  W Ta0 F) ⟨rfl, rfl, rfl, trivial⟩

theorem Nu_high_run {C : zC} {n0 : Nat} {Q : Int64 → zS → Prop} {a0 : Nat} {a1 : Int32} {κ : zS} (W : zW C n0 κ) (Ta0 : zT κ a0 = 8) (F : w_Nu_high_0 C (zn κ) Q a0 a1 κ) : zRun C 0 mNu_high [.ref a0, .int a1] κ (oJ Q noX) := z_run (m_ent _ 8) (t_Nu_high_0 (W.lo (Nat.le_trans W.1.2.1 W.1.2.2) (Nat.le_refl _)) Ta0 F)

theorem dX1_leap_0 : decode cX1_leap 0 = .ok (.aload_n 0, 1) := by decide +kernel
theorem dX1_leap_1 : decode cX1_leap 1 = .ok (.getfield 28, 3) := by decide +kernel
theorem dX1_leap_4 : decode cX1_leap 4 = .ok (.invokevirtual 110, 3) := by decide +kernel
theorem dX1_leap_7 : decode cX1_leap 7 = .ok (.bipush 62, 2) := by decide +kernel
theorem dX1_leap_9 : decode cX1_leap 9 = .ok (.isub, 1) := by decide +kernel
theorem dX1_leap_10 : decode cX1_leap 10 = .ok (.iconst 0, 1) := by decide +kernel
theorem dX1_leap_11 : decode cX1_leap 11 = .ok (.invokestatic 72, 3) := by decide +kernel
theorem dX1_leap_14 : decode cX1_leap 14 = .ok (.istore_n 1, 1) := by decide +kernel
theorem dX1_leap_15 : decode cX1_leap 15 = .ok (.aload_n 0, 1) := by decide +kernel
theorem dX1_leap_16 : decode cX1_leap 16 = .ok (.getfield 28, 3) := by decide +kernel
theorem dX1_leap_19 : decode cX1_leap 19 = .ok (.iload_n 1, 1) := by decide +kernel
theorem dX1_leap_20 : decode cX1_leap 20 = .ok (.invokevirtual 114, 3) := by decide +kernel
theorem dX1_leap_23 : decode cX1_leap 23 = .ok (.lstore_n 2, 1) := by decide +kernel
theorem dX1_leap_24 : decode cX1_leap 24 = .ok (.aload_n 0, 1) := by decide +kernel
theorem dX1_leap_25 : decode cX1_leap 25 = .ok (.getfield 31, 3) := by decide +kernel
theorem dX1_leap_28 : decode cX1_leap 28 = .ok (.iload_n 1, 1) := by decide +kernel
theorem dX1_leap_29 : decode cX1_leap 29 = .ok (.invokevirtual 114, 3) := by decide +kernel
theorem dX1_leap_32 : decode cX1_leap 32 = .ok (.lstore 4, 2) := by decide +kernel
theorem dX1_leap_34 : decode cX1_leap 34 = .ok (.lconst 1, 1) := by decide +kernel
theorem dX1_leap_35 : decode cX1_leap 35 = .ok (.lstore 6, 2) := by decide +kernel
theorem dX1_leap_37 : decode cX1_leap 37 = .ok (.lconst 0, 1) := by decide +kernel
theorem dX1_leap_38 : decode cX1_leap 38 = .ok (.lstore 8, 2) := by decide +kernel
theorem dX1_leap_40 : decode cX1_leap 40 = .ok (.lconst 0, 1) := by decide +kernel
theorem dX1_leap_41 : decode cX1_leap 41 = .ok (.lstore 10, 2) := by decide +kernel
theorem dX1_leap_43 : decode cX1_leap 43 = .ok (.lconst 1, 1) := by decide +kernel
theorem dX1_leap_44 : decode cX1_leap 44 = .ok (.lstore 12, 2) := by decide +kernel
theorem dX1_leap_46 : decode cX1_leap 46 = .ok (.iconst 0, 1) := by decide +kernel
theorem dX1_leap_47 : decode cX1_leap 47 = .ok (.istore 14, 2) := by decide +kernel
theorem dX1_leap_49 : decode cX1_leap 49 = .ok (.iload 14, 2) := by decide +kernel
theorem dX1_leap_51 : decode cX1_leap 51 = .ok (.bipush 100, 2) := by decide +kernel
theorem dX1_leap_53 : decode cX1_leap 53 = .ok (.if_icmp .ge 160, 3) := by decide +kernel
theorem dX1_leap_56 : decode cX1_leap 56 = .ok (.lload 4, 2) := by decide +kernel
theorem dX1_leap_58 : decode cX1_leap 58 = .ok (.lload 10, 2) := by decide +kernel
theorem dX1_leap_60 : decode cX1_leap 60 = .ok (.ladd, 1) := by decide +kernel
theorem dX1_leap_61 : decode cX1_leap 61 = .ok (.lconst 0, 1) := by decide +kernel
theorem dX1_leap_62 : decode cX1_leap 62 = .ok (.lcmp, 1) := by decide +kernel
theorem dX1_leap_63 : decode cX1_leap 63 = .ok (.ifCond .le 150, 3) := by decide +kernel
theorem dX1_leap_66 : decode cX1_leap 66 = .ok (.lload 4, 2) := by decide +kernel
theorem dX1_leap_68 : decode cX1_leap 68 = .ok (.lload 12, 2) := by decide +kernel
theorem dX1_leap_70 : decode cX1_leap 70 = .ok (.ladd, 1) := by decide +kernel
theorem dX1_leap_71 : decode cX1_leap 71 = .ok (.lconst 0, 1) := by decide +kernel
theorem dX1_leap_72 : decode cX1_leap 72 = .ok (.lcmp, 1) := by decide +kernel
theorem dX1_leap_73 : decode cX1_leap 73 = .ok (.ifCond .le 140, 3) := by decide +kernel
theorem dX1_leap_76 : decode cX1_leap 76 = .ok (.lload_n 2, 1) := by decide +kernel
theorem dX1_leap_77 : decode cX1_leap 77 = .ok (.lload 6, 2) := by decide +kernel
theorem dX1_leap_79 : decode cX1_leap 79 = .ok (.ladd, 1) := by decide +kernel
theorem dX1_leap_80 : decode cX1_leap 80 = .ok (.lload 4, 2) := by decide +kernel
theorem dX1_leap_82 : decode cX1_leap 82 = .ok (.lload 10, 2) := by decide +kernel
theorem dX1_leap_84 : decode cX1_leap 84 = .ok (.ladd, 1) := by decide +kernel
theorem dX1_leap_85 : decode cX1_leap 85 = .ok (.ldiv, 1) := by decide +kernel
theorem dX1_leap_86 : decode cX1_leap 86 = .ok (.lstore 15, 2) := by decide +kernel
theorem dX1_leap_88 : decode cX1_leap 88 = .ok (.lload 15, 2) := by decide +kernel
theorem dX1_leap_90 : decode cX1_leap 90 = .ok (.lload_n 2, 1) := by decide +kernel
theorem dX1_leap_91 : decode cX1_leap 91 = .ok (.lload 8, 2) := by decide +kernel
theorem dX1_leap_93 : decode cX1_leap 93 = .ok (.ladd, 1) := by decide +kernel
theorem dX1_leap_94 : decode cX1_leap 94 = .ok (.lload 4, 2) := by decide +kernel
theorem dX1_leap_96 : decode cX1_leap 96 = .ok (.lload 12, 2) := by decide +kernel
theorem dX1_leap_98 : decode cX1_leap 98 = .ok (.ladd, 1) := by decide +kernel
theorem dX1_leap_99 : decode cX1_leap 99 = .ok (.ldiv, 1) := by decide +kernel
theorem dX1_leap_100 : decode cX1_leap 100 = .ok (.lcmp, 1) := by decide +kernel
theorem dX1_leap_101 : decode cX1_leap 101 = .ok (.ifCond .ne 112, 3) := by decide +kernel
theorem dX1_leap_104 : decode cX1_leap 104 = .ok (.lload 15, 2) := by decide +kernel
theorem dX1_leap_106 : decode cX1_leap 106 = .ok (.ldc2_w 78, 3) := by decide +kernel
theorem dX1_leap_109 : decode cX1_leap 109 = .ok (.lcmp, 1) := by decide +kernel
theorem dX1_leap_110 : decode cX1_leap 110 = .ok (.ifCond .le 6, 3) := by decide +kernel
theorem dX1_leap_113 : decode cX1_leap 113 = .ok (.goto 100, 3) := by decide +kernel
theorem dX1_leap_116 : decode cX1_leap 116 = .ok (.lload 6, 2) := by decide +kernel
theorem dX1_leap_118 : decode cX1_leap 118 = .ok (.lload 15, 2) := by decide +kernel
theorem dX1_leap_120 : decode cX1_leap 120 = .ok (.lload 10, 2) := by decide +kernel
theorem dX1_leap_122 : decode cX1_leap 122 = .ok (.lmul, 1) := by decide +kernel
theorem dX1_leap_123 : decode cX1_leap 123 = .ok (.lsub, 1) := by decide +kernel
theorem dX1_leap_124 : decode cX1_leap 124 = .ok (.lstore 17, 2) := by decide +kernel
theorem dX1_leap_126 : decode cX1_leap 126 = .ok (.lload 8, 2) := by decide +kernel
theorem dX1_leap_128 : decode cX1_leap 128 = .ok (.lload 15, 2) := by decide +kernel
theorem dX1_leap_130 : decode cX1_leap 130 = .ok (.lload 12, 2) := by decide +kernel
theorem dX1_leap_132 : decode cX1_leap 132 = .ok (.lmul, 1) := by decide +kernel
theorem dX1_leap_133 : decode cX1_leap 133 = .ok (.lsub, 1) := by decide +kernel
theorem dX1_leap_134 : decode cX1_leap 134 = .ok (.lstore 19, 2) := by decide +kernel
theorem dX1_leap_136 : decode cX1_leap 136 = .ok (.lload 17, 2) := by decide +kernel
theorem dX1_leap_138 : decode cX1_leap 138 = .ok (.ldc2_w 78, 3) := by decide +kernel
theorem dX1_leap_141 : decode cX1_leap 141 = .ok (.lcmp, 1) := by decide +kernel
theorem dX1_leap_142 : decode cX1_leap 142 = .ok (.ifCond .gt 71, 3) := by decide +kernel
theorem dX1_leap_145 : decode cX1_leap 145 = .ok (.lload 17, 2) := by decide +kernel
theorem dX1_leap_147 : decode cX1_leap 147 = .ok (.ldc2_w 118, 3) := by decide +kernel
theorem dX1_leap_150 : decode cX1_leap 150 = .ok (.lcmp, 1) := by decide +kernel
theorem dX1_leap_151 : decode cX1_leap 151 = .ok (.ifCond .lt 62, 3) := by decide +kernel
theorem dX1_leap_154 : decode cX1_leap 154 = .ok (.lload 19, 2) := by decide +kernel
theorem dX1_leap_156 : decode cX1_leap 156 = .ok (.ldc2_w 78, 3) := by decide +kernel
theorem dX1_leap_159 : decode cX1_leap 159 = .ok (.lcmp, 1) := by decide +kernel
theorem dX1_leap_160 : decode cX1_leap 160 = .ok (.ifCond .gt 53, 3) := by decide +kernel
theorem dX1_leap_163 : decode cX1_leap 163 = .ok (.lload 19, 2) := by decide +kernel
theorem dX1_leap_165 : decode cX1_leap 165 = .ok (.ldc2_w 118, 3) := by decide +kernel
theorem dX1_leap_168 : decode cX1_leap 168 = .ok (.lcmp, 1) := by decide +kernel
theorem dX1_leap_169 : decode cX1_leap 169 = .ok (.ifCond .ge 6, 3) := by decide +kernel
theorem dX1_leap_172 : decode cX1_leap 172 = .ok (.goto 41, 3) := by decide +kernel
theorem dX1_leap_175 : decode cX1_leap 175 = .ok (.lload 10, 2) := by decide +kernel
theorem dX1_leap_177 : decode cX1_leap 177 = .ok (.lstore 6, 2) := by decide +kernel
theorem dX1_leap_179 : decode cX1_leap 179 = .ok (.lload 17, 2) := by decide +kernel
theorem dX1_leap_181 : decode cX1_leap 181 = .ok (.lstore 10, 2) := by decide +kernel
theorem dX1_leap_183 : decode cX1_leap 183 = .ok (.lload 12, 2) := by decide +kernel
theorem dX1_leap_185 : decode cX1_leap 185 = .ok (.lstore 8, 2) := by decide +kernel
theorem dX1_leap_187 : decode cX1_leap 187 = .ok (.lload 19, 2) := by decide +kernel
theorem dX1_leap_189 : decode cX1_leap 189 = .ok (.lstore 12, 2) := by decide +kernel
theorem dX1_leap_191 : decode cX1_leap 191 = .ok (.lload_n 2, 1) := by decide +kernel
theorem dX1_leap_192 : decode cX1_leap 192 = .ok (.lload 15, 2) := by decide +kernel
theorem dX1_leap_194 : decode cX1_leap 194 = .ok (.lload 4, 2) := by decide +kernel
theorem dX1_leap_196 : decode cX1_leap 196 = .ok (.lmul, 1) := by decide +kernel
theorem dX1_leap_197 : decode cX1_leap 197 = .ok (.lsub, 1) := by decide +kernel
theorem dX1_leap_198 : decode cX1_leap 198 = .ok (.lstore 21, 2) := by decide +kernel
theorem dX1_leap_200 : decode cX1_leap 200 = .ok (.lload 4, 2) := by decide +kernel
theorem dX1_leap_202 : decode cX1_leap 202 = .ok (.lstore_n 2, 1) := by decide +kernel
theorem dX1_leap_203 : decode cX1_leap 203 = .ok (.lload 21, 2) := by decide +kernel
theorem dX1_leap_205 : decode cX1_leap 205 = .ok (.lstore 4, 2) := by decide +kernel
theorem dX1_leap_207 : decode cX1_leap 207 = .ok (.iinc 14 1, 3) := by decide +kernel
theorem dX1_leap_210 : decode cX1_leap 210 = .ok (.goto (-161), 3) := by decide +kernel
theorem dX1_leap_213 : decode cX1_leap 213 = .ok (.aload_n 0, 1) := by decide +kernel
theorem dX1_leap_214 : decode cX1_leap 214 = .ok (.getfield 7, 3) := by decide +kernel
theorem dX1_leap_217 : decode cX1_leap 217 = .ok (.iconst 0, 1) := by decide +kernel
theorem dX1_leap_218 : decode cX1_leap 218 = .ok (.lload 6, 2) := by decide +kernel
theorem dX1_leap_220 : decode cX1_leap 220 = .ok (.lastore, 1) := by decide +kernel
theorem dX1_leap_221 : decode cX1_leap 221 = .ok (.aload_n 0, 1) := by decide +kernel
theorem dX1_leap_222 : decode cX1_leap 222 = .ok (.getfield 7, 3) := by decide +kernel
theorem dX1_leap_225 : decode cX1_leap 225 = .ok (.iconst 1, 1) := by decide +kernel
theorem dX1_leap_226 : decode cX1_leap 226 = .ok (.lload 8, 2) := by decide +kernel
theorem dX1_leap_228 : decode cX1_leap 228 = .ok (.lastore, 1) := by decide +kernel
theorem dX1_leap_229 : decode cX1_leap 229 = .ok (.aload_n 0, 1) := by decide +kernel
theorem dX1_leap_230 : decode cX1_leap 230 = .ok (.getfield 7, 3) := by decide +kernel
theorem dX1_leap_233 : decode cX1_leap 233 = .ok (.iconst 2, 1) := by decide +kernel
theorem dX1_leap_234 : decode cX1_leap 234 = .ok (.lload 10, 2) := by decide +kernel
theorem dX1_leap_236 : decode cX1_leap 236 = .ok (.lastore, 1) := by decide +kernel
theorem dX1_leap_237 : decode cX1_leap 237 = .ok (.aload_n 0, 1) := by decide +kernel
theorem dX1_leap_238 : decode cX1_leap 238 = .ok (.getfield 7, 3) := by decide +kernel
theorem dX1_leap_241 : decode cX1_leap 241 = .ok (.iconst 3, 1) := by decide +kernel
theorem dX1_leap_242 : decode cX1_leap 242 = .ok (.lload 12, 2) := by decide +kernel
theorem dX1_leap_244 : decode cX1_leap 244 = .ok (.lastore, 1) := by decide +kernel
theorem dX1_leap_245 : decode cX1_leap 245 = .ok (.lload 8, 2) := by decide +kernel
theorem dX1_leap_247 : decode cX1_leap 247 = .ok (.lconst 0, 1) := by decide +kernel
theorem dX1_leap_248 : decode cX1_leap 248 = .ok (.lcmp, 1) := by decide +kernel
theorem dX1_leap_249 : decode cX1_leap 249 = .ok (.ifCond .eq 7, 3) := by decide +kernel
theorem dX1_leap_252 : decode cX1_leap 252 = .ok (.iconst 1, 1) := by decide +kernel
theorem dX1_leap_253 : decode cX1_leap 253 = .ok (.goto 4, 3) := by decide +kernel
theorem dX1_leap_256 : decode cX1_leap 256 = .ok (.iconst 0, 1) := by decide +kernel
theorem dX1_leap_257 : decode cX1_leap 257 = .ok (.ireturn, 1) := by decide +kernel
def w_Ca_leap_213 (C : zC) (n0 : Nat) (Q : Int32 → zS → Prop)  (a0 : Nat) (a6 : Int64) (a8 : Int64) (a10 : Int64) (a12 : Int64) (κ : zS) : Prop :=
  inb (0 : Int32) (zN κ (zR κ caFactors a0)) ∧
  ∀ κ1, κ1 = uj κ (zR κ caFactors a0) ((0 : Int32)).toNatClampNeg a6 →
  ∀ _ : zW C n0 κ1,
  inb (1 : Int32) (zN κ1 (zR κ1 caFactors a0)) ∧
  ∀ κ3, κ3 = uj κ1 (zR κ1 caFactors a0) ((1 : Int32)).toNatClampNeg a8 →
  ∀ _ : zW C n0 κ3,
  inb (2 : Int32) (zN κ3 (zR κ3 caFactors a0)) ∧
  ∀ κ5, κ5 = uj κ3 (zR κ3 caFactors a0) ((2 : Int32)).toNatClampNeg a10 →
  ∀ _ : zW C n0 κ5,
  inb (3 : Int32) (zN κ5 (zR κ5 caFactors a0)) ∧
  ∀ κ7, κ7 = uj κ5 (zR κ5 caFactors a0) ((3 : Int32)).toNatClampNeg a12 →
  ∀ _ : zW C n0 κ7,
  ((lg_cmp a8 (0 : Int64)) = (0 : Int32) →
    Q (0 : Int32) κ7) ∧
  (¬ (lg_cmp a8 (0 : Int64)) = (0 : Int32) →
    Q (1 : Int32) κ7)
theorem t_Ca_leap_213 {C : zC} {n0 : Nat} {Q : Int32 → zS → Prop}   {a0 : Nat} {a6 : Int64} {a8 : Int64} {a10 : Int64} {a12 : Int64} {κ : zS} (W : zW C n0 κ) (Ta0 : zT κ a0 = 4) (F : w_Ca_leap_213 C n0 Q  a0 a6 a8 a10 a12 κ) : zG C n0 1 mCa_leap 213 [some (.ref a0), none, none, none, none, none, some (.long a6), none, some (.long a8), none, some (.long a10), none, some (.long a12), none, none, none, none, none, none, none, none, none, none] [] κ (oI Q noX) := by
  unfold w_Ca_leap_213 at F
  refine y_aln dX1_leap_213 rfl ?_
  refine gf_X1_7 W dX1_leap_214 rfl Ta0 ?_
  refine y_ic dX1_leap_217 zi_0 ?_
  refine y_ll dX1_leap_218 rfl ?_
  refine y_lst W dX1_leap_220 (ty_caFactors W Ta0) F.1 (fun κ1 eκ1 => ?_)
  replace F := F.2 κ1 eκ1
  have Wκ1 : zW C n0 κ1 := zW_uj W eκ1
  have Mκ1 : zM (zn κ) κ κ1 := by rw [eκ1]; exact zM.of rfl rfl rfl
  replace F := F Wκ1
  refine y_aln dX1_leap_221 rfl ?_
  have h2 := (ztm W Mκ1 Ta0)
  refine gf_X1_7 Wκ1 dX1_leap_222 rfl h2 ?_
  refine y_ic dX1_leap_225 zi_1 ?_
  refine y_ll dX1_leap_226 rfl ?_
  refine y_lst Wκ1 dX1_leap_228 (ty_caFactors Wκ1 h2) F.1 (fun κ3 eκ3 => ?_)
  replace F := F.2 κ3 eκ3
  have Wκ3 : zW C n0 κ3 := zW_uj Wκ1 eκ3
  have Mκ3 : zM (zn κ1) κ1 κ3 := by rw [eκ3]; exact zM.of rfl rfl rfl
  replace F := F Wκ3
  refine y_aln dX1_leap_229 rfl ?_
  have h4 := (ztm Wκ1 Mκ3 h2)
  refine gf_X1_7 Wκ3 dX1_leap_230 rfl h4 ?_
  refine y_ic dX1_leap_233 zi_2 ?_
  refine y_ll dX1_leap_234 rfl ?_
  refine y_lst Wκ3 dX1_leap_236 (ty_caFactors Wκ3 h4) F.1 (fun κ5 eκ5 => ?_)
  replace F := F.2 κ5 eκ5
  have Wκ5 : zW C n0 κ5 := zW_uj Wκ3 eκ5
  have Mκ5 : zM (zn κ3) κ3 κ5 := by rw [eκ5]; exact zM.of rfl rfl rfl
  replace F := F Wκ5
  refine y_aln dX1_leap_237 rfl ?_
  have h6 := (ztm Wκ3 Mκ5 h4)
  refine gf_X1_7 Wκ5 dX1_leap_238 rfl h6 ?_
  refine y_ic dX1_leap_241 zi_3 ?_
  refine y_ll dX1_leap_242 rfl ?_
  refine y_lst Wκ5 dX1_leap_244 (ty_caFactors Wκ5 h6) F.1 (fun κ7 eκ7 => ?_)
  replace F := F.2 κ7 eκ7
  have Wκ7 : zW C n0 κ7 := zW_uj Wκ5 eκ7
  have Mκ7 : zM (zn κ5) κ5 κ7 := by rw [eκ7]; exact zM.of rfl rfl rfl
  replace F := F Wκ7
  refine y_ll dX1_leap_245 rfl ?_
  refine y_lc dX1_leap_247 zl_0 ?_
  refine y_lcmp dX1_leap_248 ?_
  refine y_i ((lg_cmp a8 (0 : Int64)) = (0 : Int32)) dX1_leap_249 (t := 256) rfl rfl (fun c9 => ?_) (fun c9 => ?_)
  · replace F := F.1 c9
    refine y_ic dX1_leap_256 zi_0 ?_
    exact y_ri Wκ7 dX1_leap_257 rfl (nb_nar nb_0) F
  · replace F := F.2 c9
    refine y_ic dX1_leap_252 zi_1 ?_
    refine y_goto dX1_leap_253 (t := 257) rfl ?_
    exact y_ri Wκ7 dX1_leap_257 rfl (nb_nar nb_1) F

def w_Ca_leap_49 (C : zC) (n0 : Nat) (Q : Int32 → zS → Prop)  (a0 : Nat) (a2 : Int64) (a4 : Int64) (a6 : Int64) (a8 : Int64) (a10 : Int64) (a12 : Int64) (a14 : Int32) (κ : zS) : Prop :=
  ∃ I : Nat → Nat → Int64 → Int64 → Int64 → Int64 → Int64 → Int64 → Int32 → zS → Prop, (∃ n, I n a0 a2 a4 a6 a8 a10 a12 a14 κ) ∧ ∀ n a0 a2 a4 a6 a8 a10 a12 a14 κ, zW C n0 κ → zT κ a0 = 4 → I n a0 a2 a4 a6 a8 a10 a12 a14 κ →
    ((100 : Int32) ≤ a14 →
      w_Ca_leap_213 C n0 Q  a0 a6 a8 a10 a12 κ) ∧
    (¬ (100 : Int32) ≤ a14 →
      ((lg_cmp (a4 + a10) (0 : Int64)) ≤ (0 : Int32) →
        w_Ca_leap_213 C n0 Q  a0 a6 a8 a10 a12 κ) ∧
      (¬ (lg_cmp (a4 + a10) (0 : Int64)) ≤ (0 : Int32) →
        ((lg_cmp (a4 + a12) (0 : Int64)) ≤ (0 : Int32) →
          w_Ca_leap_213 C n0 Q  a0 a6 a8 a10 a12 κ) ∧
        (¬ (lg_cmp (a4 + a12) (0 : Int64)) ≤ (0 : Int32) →
          ¬ (a4 + a10) = 0 ∧
          ∀ v15_1 : Int64, v15_1 = ((a2 + a6) / (a4 + a10)) →
          ¬ (a4 + a12) = 0 ∧
          (¬ (lg_cmp v15_1 ((a2 + a8) / (a4 + a12))) = (0 : Int32) →
            w_Ca_leap_213 C n0 Q  a0 a6 a8 a10 a12 κ) ∧
          ((lg_cmp v15_1 ((a2 + a8) / (a4 + a12))) = (0 : Int32) →
            ((lg_cmp v15_1 (2147483647 : Int64)) ≤ (0 : Int32) →
              ∀ v17_2 : Int64, v17_2 = (a6 - (v15_1 * a10)) →
              ∀ v19_3 : Int64, v19_3 = (a8 - (v15_1 * a12)) →
              ((0 : Int32) < (lg_cmp v17_2 (2147483647 : Int64)) →
                w_Ca_leap_213 C n0 Q  a0 a6 a8 a10 a12 κ) ∧
              (¬ (0 : Int32) < (lg_cmp v17_2 (2147483647 : Int64)) →
                ((lg_cmp v17_2 (-2147483647 : Int64)) < (0 : Int32) →
                  w_Ca_leap_213 C n0 Q  a0 a6 a8 a10 a12 κ) ∧
                (¬ (lg_cmp v17_2 (-2147483647 : Int64)) < (0 : Int32) →
                  ((0 : Int32) < (lg_cmp v19_3 (2147483647 : Int64)) →
                    w_Ca_leap_213 C n0 Q  a0 a6 a8 a10 a12 κ) ∧
                  (¬ (0 : Int32) < (lg_cmp v19_3 (2147483647 : Int64)) →
                    ((0 : Int32) ≤ (lg_cmp v19_3 (-2147483647 : Int64)) →
                      ∀ v21_4 : Int64, v21_4 = (a2 - (v15_1 * a4)) →
                      ∀ v14_5 : Int32, v14_5 = a14 + (1 : Int32) →
                      ∃ k < n, I k a0 a4 v21_4 a10 a12 v17_2 v19_3 v14_5 κ) ∧
                    (¬ (0 : Int32) ≤ (lg_cmp v19_3 (-2147483647 : Int64)) →
                      w_Ca_leap_213 C n0 Q  a0 a6 a8 a10 a12 κ))))) ∧
            (¬ (lg_cmp v15_1 (2147483647 : Int64)) ≤ (0 : Int32) →
              w_Ca_leap_213 C n0 Q  a0 a6 a8 a10 a12 κ)))))
theorem t_Ca_leap_49 {C : zC} {n0 : Nat} {Q : Int32 → zS → Prop}   {a0 : Nat} {a2 : Int64} {a4 : Int64} {a6 : Int64} {a8 : Int64} {a10 : Int64} {a12 : Int64} {a14 : Int32} {κ : zS} (W : zW C n0 κ) (Ta0 : zT κ a0 = 4) (F : w_Ca_leap_49 C n0 Q  a0 a2 a4 a6 a8 a10 a12 a14 κ) : zG C n0 1 mCa_leap 49 [some (.ref a0), none, some (.long a2), none, some (.long a4), none, some (.long a6), none, some (.long a8), none, some (.long a10), none, some (.long a12), none, some (.int a14), none, none, none, none, none, none, none, none] [] κ (oI Q noX) := by
  obtain ⟨I, ⟨m0, hI0⟩, F0⟩ := F
  have key : ∀ n a0 a2 a4 a6 a8 a10 a12 a14 κ, zW C n0 κ → zT κ a0 = 4 → I n a0 a2 a4 a6 a8 a10 a12 a14 κ → zG C n0 1 mCa_leap 49 [some (.ref a0), none, some (.long a2), none, some (.long a4), none, some (.long a6), none, some (.long a8), none, some (.long a10), none, some (.long a12), none, some (.int a14), none, none, none, none, none, none, none, none] [] κ (oI Q noX) := by
    intro n
    induction n using Nat.strongRecOn with
    | _ n ih =>
      intro a0 a2 a4 a6 a8 a10 a12 a14 κ W Ta0 hI
      have F := F0 n a0 a2 a4 a6 a8 a10 a12 a14 κ W Ta0 hI
      clear hI hI0
      refine y_il dX1_leap_49 rfl ?_
      refine y_bi1 dX1_leap_51 zb_100 ?_
      refine y_ii ((100 : Int32) ≤ a14) dX1_leap_53 (t := 213) rfl rfl (fun c9 => ?_) (fun c9 => ?_)
      · replace F := F.1 c9
        exact y_k (t_Ca_leap_213  W Ta0 F) ⟨rfl, rfl, rfl, rfl, rfl, trivial⟩
      · replace F := F.2 c9
        refine y_ll dX1_leap_56 rfl ?_
        refine y_ll dX1_leap_58 rfl ?_
        refine y_ladd dX1_leap_60 ?_
        refine y_lc dX1_leap_61 zl_0 ?_
        refine y_lcmp dX1_leap_62 ?_
        refine y_i ((lg_cmp (a4 + a10) (0 : Int64)) ≤ (0 : Int32)) dX1_leap_63 (t := 213) rfl rfl (fun c9 => ?_) (fun c9 => ?_)
        · replace F := F.1 c9
          exact y_k (t_Ca_leap_213  W Ta0 F) ⟨rfl, rfl, rfl, rfl, rfl, trivial⟩
        · replace F := F.2 c9
          refine y_ll dX1_leap_66 rfl ?_
          refine y_ll dX1_leap_68 rfl ?_
          refine y_ladd dX1_leap_70 ?_
          refine y_lc dX1_leap_71 zl_0 ?_
          refine y_lcmp dX1_leap_72 ?_
          refine y_i ((lg_cmp (a4 + a12) (0 : Int64)) ≤ (0 : Int32)) dX1_leap_73 (t := 213) rfl rfl (fun c9 => ?_) (fun c9 => ?_)
          · replace F := F.1 c9
            exact y_k (t_Ca_leap_213  W Ta0 F) ⟨rfl, rfl, rfl, rfl, rfl, trivial⟩
          · replace F := F.2 c9
            refine y_lln dX1_leap_76 rfl ?_
            refine y_ll dX1_leap_77 rfl ?_
            refine y_ladd dX1_leap_79 ?_
            refine y_ll dX1_leap_80 rfl ?_
            refine y_ll dX1_leap_82 rfl ?_
            refine y_ladd dX1_leap_84 ?_
            refine y_ldiv dX1_leap_85 F.1 ?_
            replace F := F.2
            refine y_lsb dX1_leap_86 (Nat.le_of_ble_eq_true rfl) (fun v15_1 ev15_1 => ?_)
            replace F := F v15_1 ev15_1
            show zG _ _ _ _ _ [some (.ref a0), none, some (.long a2), none, some (.long a4), none, some (.long a6), none, some (.long a8), none, some (.long a10), none, some (.long a12), none, some (.int a14), some (.long v15_1), none, none, none, none, none, none, none] _ _ _
            refine y_ll dX1_leap_88 rfl ?_
            refine y_lln dX1_leap_90 rfl ?_
            refine y_ll dX1_leap_91 rfl ?_
            refine y_ladd dX1_leap_93 ?_
            refine y_ll dX1_leap_94 rfl ?_
            refine y_ll dX1_leap_96 rfl ?_
            refine y_ladd dX1_leap_98 ?_
            refine y_ldiv dX1_leap_99 F.1 ?_
            replace F := F.2
            refine y_lcmp dX1_leap_100 ?_
            refine y_in ((lg_cmp v15_1 ((a2 + a8) / (a4 + a12))) = (0 : Int32)) dX1_leap_101 (t := 213) rfl rfl (fun c9 => ?_) (fun c9 => ?_)
            · replace F := F.1 c9
              exact y_k (t_Ca_leap_213  W Ta0 F) ⟨rfl, rfl, rfl, rfl, rfl, trivial⟩
            · replace F := F.2 c9
              refine y_ll dX1_leap_104 rfl ?_
              refine y_ldcl dX1_leap_106 rfl zcl_X1_78 ?_
              refine y_lcmp dX1_leap_109 ?_
              refine y_i ((lg_cmp v15_1 (2147483647 : Int64)) ≤ (0 : Int32)) dX1_leap_110 (t := 116) rfl rfl (fun c9 => ?_) (fun c9 => ?_)
              · replace F := F.1 c9
                refine y_ll dX1_leap_116 rfl ?_
                refine y_ll dX1_leap_118 rfl ?_
                refine y_ll dX1_leap_120 rfl ?_
                refine y_lmul dX1_leap_122 ?_
                refine y_lsub dX1_leap_123 ?_
                refine y_lsb dX1_leap_124 (Nat.le_of_ble_eq_true rfl) (fun v17_2 ev17_2 => ?_)
                replace F := F v17_2 ev17_2
                show zG _ _ _ _ _ [some (.ref a0), none, some (.long a2), none, some (.long a4), none, some (.long a6), none, some (.long a8), none, some (.long a10), none, some (.long a12), none, some (.int a14), some (.long v15_1), none, some (.long v17_2), none, none, none, none, none] _ _ _
                refine y_ll dX1_leap_126 rfl ?_
                refine y_ll dX1_leap_128 rfl ?_
                refine y_ll dX1_leap_130 rfl ?_
                refine y_lmul dX1_leap_132 ?_
                refine y_lsub dX1_leap_133 ?_
                refine y_lsb dX1_leap_134 (Nat.le_of_ble_eq_true rfl) (fun v19_3 ev19_3 => ?_)
                replace F := F v19_3 ev19_3
                show zG _ _ _ _ _ [some (.ref a0), none, some (.long a2), none, some (.long a4), none, some (.long a6), none, some (.long a8), none, some (.long a10), none, some (.long a12), none, some (.int a14), some (.long v15_1), none, some (.long v17_2), none, some (.long v19_3), none, none, none] _ _ _
                refine y_ll dX1_leap_136 rfl ?_
                refine y_ldcl dX1_leap_138 rfl zcl_X1_78 ?_
                refine y_lcmp dX1_leap_141 ?_
                refine y_i ((0 : Int32) < (lg_cmp v17_2 (2147483647 : Int64))) dX1_leap_142 (t := 213) rfl rfl (fun c9 => ?_) (fun c9 => ?_)
                · replace F := F.1 c9
                  exact y_k (t_Ca_leap_213  W Ta0 F) ⟨rfl, rfl, rfl, rfl, rfl, trivial⟩
                · replace F := F.2 c9
                  refine y_ll dX1_leap_145 rfl ?_
                  refine y_ldcl dX1_leap_147 rfl zcl_X1_118 ?_
                  refine y_lcmp dX1_leap_150 ?_
                  refine y_i ((lg_cmp v17_2 (-2147483647 : Int64)) < (0 : Int32)) dX1_leap_151 (t := 213) rfl rfl (fun c9 => ?_) (fun c9 => ?_)
                  · replace F := F.1 c9
                    exact y_k (t_Ca_leap_213  W Ta0 F) ⟨rfl, rfl, rfl, rfl, rfl, trivial⟩
                  · replace F := F.2 c9
                    refine y_ll dX1_leap_154 rfl ?_
                    refine y_ldcl dX1_leap_156 rfl zcl_X1_78 ?_
                    refine y_lcmp dX1_leap_159 ?_
                    refine y_i ((0 : Int32) < (lg_cmp v19_3 (2147483647 : Int64))) dX1_leap_160 (t := 213) rfl rfl (fun c9 => ?_) (fun c9 => ?_)
                    · replace F := F.1 c9
                      exact y_k (t_Ca_leap_213  W Ta0 F) ⟨rfl, rfl, rfl, rfl, rfl, trivial⟩
                    · replace F := F.2 c9
                      refine y_ll dX1_leap_163 rfl ?_
                      refine y_ldcl dX1_leap_165 rfl zcl_X1_118 ?_
                      refine y_lcmp dX1_leap_168 ?_
                      refine y_i ((0 : Int32) ≤ (lg_cmp v19_3 (-2147483647 : Int64))) dX1_leap_169 (t := 175) rfl rfl (fun c9 => ?_) (fun c9 => ?_)
                      · replace F := F.1 c9
                        refine y_ll dX1_leap_175 rfl ?_
                        refine y_ls dX1_leap_177 (Nat.le_of_ble_eq_true rfl) rfl ?_
                        show zG _ _ _ _ _ [some (.ref a0), none, some (.long a2), none, some (.long a4), none, some (.long a10), none, some (.long a8), none, some (.long a10), none, some (.long a12), none, some (.int a14), some (.long v15_1), none, some (.long v17_2), none, some (.long v19_3), none, none, none] _ _ _
                        refine y_ll dX1_leap_179 rfl ?_
                        refine y_ls dX1_leap_181 (Nat.le_of_ble_eq_true rfl) rfl ?_
                        show zG _ _ _ _ _ [some (.ref a0), none, some (.long a2), none, some (.long a4), none, some (.long a10), none, some (.long a8), none, some (.long v17_2), none, some (.long a12), none, some (.int a14), some (.long v15_1), none, some (.long v17_2), none, some (.long v19_3), none, none, none] _ _ _
                        refine y_ll dX1_leap_183 rfl ?_
                        refine y_ls dX1_leap_185 (Nat.le_of_ble_eq_true rfl) rfl ?_
                        show zG _ _ _ _ _ [some (.ref a0), none, some (.long a2), none, some (.long a4), none, some (.long a10), none, some (.long a12), none, some (.long v17_2), none, some (.long a12), none, some (.int a14), some (.long v15_1), none, some (.long v17_2), none, some (.long v19_3), none, none, none] _ _ _
                        refine y_ll dX1_leap_187 rfl ?_
                        refine y_ls dX1_leap_189 (Nat.le_of_ble_eq_true rfl) rfl ?_
                        show zG _ _ _ _ _ [some (.ref a0), none, some (.long a2), none, some (.long a4), none, some (.long a10), none, some (.long a12), none, some (.long v17_2), none, some (.long v19_3), none, some (.int a14), some (.long v15_1), none, some (.long v17_2), none, some (.long v19_3), none, none, none] _ _ _
                        refine y_lln dX1_leap_191 rfl ?_
                        refine y_ll dX1_leap_192 rfl ?_
                        refine y_ll dX1_leap_194 rfl ?_
                        refine y_lmul dX1_leap_196 ?_
                        refine y_lsub dX1_leap_197 ?_
                        refine y_lsb dX1_leap_198 (Nat.le_of_ble_eq_true rfl) (fun v21_4 ev21_4 => ?_)
                        replace F := F v21_4 ev21_4
                        show zG _ _ _ _ _ [some (.ref a0), none, some (.long a2), none, some (.long a4), none, some (.long a10), none, some (.long a12), none, some (.long v17_2), none, some (.long v19_3), none, some (.int a14), some (.long v15_1), none, some (.long v17_2), none, some (.long v19_3), none, some (.long v21_4), none] _ _ _
                        refine y_ll dX1_leap_200 rfl ?_
                        refine y_lsn dX1_leap_202 (Nat.le_of_ble_eq_true rfl) rfl ?_
                        show zG _ _ _ _ _ [some (.ref a0), none, some (.long a4), none, some (.long a4), none, some (.long a10), none, some (.long a12), none, some (.long v17_2), none, some (.long v19_3), none, some (.int a14), some (.long v15_1), none, some (.long v17_2), none, some (.long v19_3), none, some (.long v21_4), none] _ _ _
                        refine y_ll dX1_leap_203 rfl ?_
                        refine y_ls dX1_leap_205 (Nat.le_of_ble_eq_true rfl) rfl ?_
                        show zG _ _ _ _ _ [some (.ref a0), none, some (.long a4), none, some (.long v21_4), none, some (.long a10), none, some (.long a12), none, some (.long v17_2), none, some (.long v19_3), none, some (.int a14), some (.long v15_1), none, some (.long v17_2), none, some (.long v19_3), none, some (.long v21_4), none] _ _ _
                        refine y_incb dX1_leap_207 zi_1 rfl (Nat.le_of_ble_eq_true rfl) (fun v14_5 ev14_5 => ?_)
                        replace F := F v14_5 ev14_5
                        show zG _ _ _ _ _ [some (.ref a0), none, some (.long a4), none, some (.long v21_4), none, some (.long a10), none, some (.long a12), none, some (.long v17_2), none, some (.long v19_3), none, some (.int v14_5), some (.long v15_1), none, some (.long v17_2), none, some (.long v19_3), none, some (.long v21_4), none] _ _ _
                        refine y_goto dX1_leap_210 (t := 49) rfl ?_
                        obtain ⟨k, hk, hI⟩ := F
                        exact y_k (ih k hk _ _ _ _ _ _ _ _ _ W Ta0 hI) ⟨rfl, rfl, rfl, rfl, rfl, rfl, rfl, rfl, trivial⟩
                      · replace F := F.2 c9
                        refine y_goto dX1_leap_172 (t := 213) rfl ?_
                        exact y_k (t_Ca_leap_213  W Ta0 F) ⟨rfl, rfl, rfl, rfl, rfl, trivial⟩
              · replace F := F.2 c9
                refine y_goto dX1_leap_113 (t := 213) rfl ?_
                exact y_k (t_Ca_leap_213  W Ta0 F) ⟨rfl, rfl, rfl, rfl, rfl, trivial⟩
  exact key m0 a0 a2 a4 a6 a8 a10 a12 a14 κ W Ta0 hI0

def w_Ca_leap_0 (C : zC) (n0 : Nat) (Q : Int32 → zS → Prop)  (a0 : Nat) (κ : zS) : Prop :=
  ∀ _ : zT κ (zR κ caX a0) = 8,
  zRun C 0 mNu_bits [.ref (zR κ caX a0)] κ (oI (fun r2 κ1 =>
    ∀ _ : zW C n0 κ1,
    ∀ _ : zM (zn κ) κ κ1,
    ∀ v1_4 : Int32, v1_4 = (if (r2 - (62 : Int32)) < (0 : Int32) then (0 : Int32) else (r2 - (62 : Int32))) →
    ∀ _ : zT κ1 (zR κ1 caX a0) = 8,
    zRun C 0 mNu_high [.ref (zR κ1 caX a0), .int v1_4] κ1 (oJ (fun r7 κ6 =>
      ∀ _ : zW C n0 κ6,
      ∀ _ : zM (zn κ1) κ1 κ6,
      ∀ _ : zT κ6 (zR κ6 caY a0) = 8,
      zRun C 0 mNu_high [.ref (zR κ6 caY a0), .int v1_4] κ6 (oJ (fun r11 κ10 =>
        ∀ _ : zW C n0 κ10,
        ∀ _ : zM (zn κ6) κ6 κ10,
        w_Ca_leap_49 C n0 Q  a0 r7 r11 (1 : Int64) (0 : Int64) (0 : Int64) (1 : Int64) (0 : Int32) κ10) noX)) noX)) noX)
theorem t_Ca_leap_0 {C : zC} {n0 : Nat} {Q : Int32 → zS → Prop}   {a0 : Nat} {κ : zS} (W : zW C n0 κ) (Ta0 : zT κ a0 = 4) (F : w_Ca_leap_0 C n0 Q  a0 κ) : zG C n0 1 mCa_leap 0 [some (.ref a0), none, none, none, none, none, none, none, none, none, none, none, none, none, none, none, none, none, none, none, none, none, none] [] κ (oI Q noX) := by
  unfold w_Ca_leap_0 at F
  refine y_aln dX1_leap_0 rfl ?_
  refine gf_X1_28 W dX1_leap_1 rfl Ta0 ?_
  replace F := F (ty_caX W Ta0)
  refine k_X1_110 W dX1_leap_4 rfl (Nat.le_of_ble_eq_true rfl) (Nat.le_of_ble_eq_true rfl) (Or.inl (ty_caX W Ta0)) F (fun r2 κ1 Wκ1 Mκ1 F => ?_) (fun _ _ h9 => False.elim h9)
  replace F := F Wκ1 Mκ1
  refine y_bi1 dX1_leap_7 zb_62 ?_
  refine y_isub dX1_leap_9 ?_
  refine y_ic dX1_leap_10 zi_0 ?_
  refine y_max dX1_leap_11 rfl zbi_X1_72 (Nat.le_of_ble_eq_true rfl) (Nat.le_of_ble_eq_true rfl) ?_
  refine y_isnb dX1_leap_14 (Nat.le_of_ble_eq_true rfl) (fun v1_4 ev1_4 => ?_)
  replace F := F v1_4 ev1_4
  show zG _ _ _ _ _ [some (.ref a0), some (.int v1_4), none, none, none, none, none, none, none, none, none, none, none, none, none, none, none, none, none, none, none, none, none] _ _ _
  refine y_aln dX1_leap_15 rfl ?_
  have h5 := (ztm W Mκ1 Ta0)
  refine gf_X1_28 Wκ1 dX1_leap_16 rfl h5 ?_
  refine y_iln dX1_leap_19 rfl ?_
  replace F := F (ty_caX Wκ1 h5)
  refine k_X1_114 Wκ1 dX1_leap_20 rfl (Nat.le_of_ble_eq_true rfl) (Nat.le_of_ble_eq_true rfl) (Or.inl (ty_caX Wκ1 h5)) F (fun r7 κ6 Wκ6 Mκ6 F => ?_) (fun _ _ h9 => False.elim h9)
  replace F := F Wκ6 Mκ6
  refine y_lsn dX1_leap_23 (Nat.le_of_ble_eq_true rfl) rfl ?_
  show zG _ _ _ _ _ [some (.ref a0), some (.int v1_4), some (.long r7), none, none, none, none, none, none, none, none, none, none, none, none, none, none, none, none, none, none, none, none] _ _ _
  refine y_aln dX1_leap_24 rfl ?_
  have h9 := (ztm Wκ1 Mκ6 h5)
  refine gf_X1_31 Wκ6 dX1_leap_25 rfl h9 ?_
  refine y_iln dX1_leap_28 rfl ?_
  replace F := F (ty_caY Wκ6 h9)
  refine k_X1_114 Wκ6 dX1_leap_29 rfl (Nat.le_of_ble_eq_true rfl) (Nat.le_of_ble_eq_true rfl) (Or.inl (ty_caY Wκ6 h9)) F (fun r11 κ10 Wκ10 Mκ10 F => ?_) (fun _ _ h9 => False.elim h9)
  replace F := F Wκ10 Mκ10
  refine y_ls dX1_leap_32 (Nat.le_of_ble_eq_true rfl) rfl ?_
  show zG _ _ _ _ _ [some (.ref a0), some (.int v1_4), some (.long r7), none, some (.long r11), none, none, none, none, none, none, none, none, none, none, none, none, none, none, none, none, none, none] _ _ _
  refine y_lc dX1_leap_34 zl_1 ?_
  refine y_ls dX1_leap_35 (Nat.le_of_ble_eq_true rfl) rfl ?_
  show zG _ _ _ _ _ [some (.ref a0), some (.int v1_4), some (.long r7), none, some (.long r11), none, some (.long (1 : Int64)), none, none, none, none, none, none, none, none, none, none, none, none, none, none, none, none] _ _ _
  refine y_lc dX1_leap_37 zl_0 ?_
  refine y_ls dX1_leap_38 (Nat.le_of_ble_eq_true rfl) rfl ?_
  show zG _ _ _ _ _ [some (.ref a0), some (.int v1_4), some (.long r7), none, some (.long r11), none, some (.long (1 : Int64)), none, some (.long (0 : Int64)), none, none, none, none, none, none, none, none, none, none, none, none, none, none] _ _ _
  refine y_lc dX1_leap_40 zl_0 ?_
  refine y_ls dX1_leap_41 (Nat.le_of_ble_eq_true rfl) rfl ?_
  show zG _ _ _ _ _ [some (.ref a0), some (.int v1_4), some (.long r7), none, some (.long r11), none, some (.long (1 : Int64)), none, some (.long (0 : Int64)), none, some (.long (0 : Int64)), none, none, none, none, none, none, none, none, none, none, none, none] _ _ _
  refine y_lc dX1_leap_43 zl_1 ?_
  refine y_ls dX1_leap_44 (Nat.le_of_ble_eq_true rfl) rfl ?_
  show zG _ _ _ _ _ [some (.ref a0), some (.int v1_4), some (.long r7), none, some (.long r11), none, some (.long (1 : Int64)), none, some (.long (0 : Int64)), none, some (.long (0 : Int64)), none, some (.long (1 : Int64)), none, none, none, none, none, none, none, none, none, none] _ _ _
  refine y_ic dX1_leap_46 zi_0 ?_
  refine y_is dX1_leap_47 (Nat.le_of_ble_eq_true rfl) rfl ?_
  show zG _ _ _ _ _ [some (.ref a0), some (.int v1_4), some (.long r7), none, some (.long r11), none, some (.long (1 : Int64)), none, some (.long (0 : Int64)), none, some (.long (0 : Int64)), none, some (.long (1 : Int64)), none, some (.int (0 : Int32)), none, none, none, none, none, none, none, none] _ _ _
  have h13 := (ztm Wκ6 Mκ10 h9)
  exact y_k (t_Ca_leap_49  Wκ10 h13 F) ⟨rfl, rfl, rfl, rfl, rfl, rfl, rfl, rfl, trivial⟩

theorem Ca_leap_run {C : zC} {n0 : Nat} {Q : Int32 → zS → Prop} {a0 : Nat} {κ : zS} (W : zW C n0 κ) (Ta0 : zT κ a0 = 4) (F : w_Ca_leap_0 C (zn κ) Q a0 κ) : zRun C 1 mCa_leap [.ref a0] κ (oI Q noX) := z_run (m_ent _ 22) (t_Ca_leap_0 (W.lo (Nat.le_trans W.1.2.1 W.1.2.2) (Nat.le_refl _)) Ta0 F)

