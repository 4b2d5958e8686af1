/-! methods of the class: Nu_widen, Ca_blend, Ch_commonLong, Ca_common, Nu_isOne, Ca_reduce, Nu_trim, Nu_product, Ca_join, Co_init -/
theorem dX5_widen_0 : decode cX5_widen 0 = .ok (.iload_n 1, 1) := by decide +kernel
theorem dX5_widen_1 : decode cX5_widen 1 = .ok (.aload_n 0, 1) := by decide +kernel
theorem dX5_widen_2 : decode cX5_widen 2 = .ok (.getfield 13, 3) := by decide +kernel
theorem dX5_widen_5 : decode cX5_widen 5 = .ok (.arraylength, 1) := by decide +kernel
theorem dX5_widen_6 : decode cX5_widen 6 = .ok (.if_icmp .le 21, 3) := by decide +kernel
theorem dX5_widen_9 : decode cX5_widen 9 = .ok (.aload_n 0, 1) := by decide +kernel
theorem dX5_widen_10 : decode cX5_widen 10 = .ok (.aload_n 0, 1) := by decide +kernel
theorem dX5_widen_11 : decode cX5_widen 11 = .ok (.getfield 13, 3) := by decide +kernel
theorem dX5_widen_14 : decode cX5_widen 14 = .ok (.iload_n 1, 1) := by decide +kernel
theorem dX5_widen_15 : decode cX5_widen 15 = .ok (.iload_n 1, 1) := by decide +kernel
theorem dX5_widen_16 : decode cX5_widen 16 = .ok (.iconst 2, 1) := by decide +kernel
theorem dX5_widen_17 : decode cX5_widen 17 = .ok (.idiv, 1) := by decide +kernel
theorem dX5_widen_18 : decode cX5_widen 18 = .ok (.iadd, 1) := by decide +kernel
theorem dX5_widen_19 : decode cX5_widen 19 = .ok (.iconst 1, 1) := by decide +kernel
theorem dX5_widen_20 : decode cX5_widen 20 = .ok (.iadd, 1) := by decide +kernel
theorem dX5_widen_21 : decode cX5_widen 21 = .ok (.invokestatic 19, 3) := by decide +kernel
theorem dX5_widen_24 : decode cX5_widen 24 = .ok (.putfield 13, 3) := by decide +kernel
theorem dX5_widen_27 : decode cX5_widen 27 = .ok (.return_, 1) := by decide +kernel
def w_Nu_widen_0 (C : zC) (n0 : Nat) (Q : zS → Prop)  (a0 : Nat) (a1 : Int32) (κ : zS) : Prop :=
  (a1 ≤ (Int32.ofNat (zN κ (zR κ nuLimbs a0))) →
    Q κ) ∧
  (¬ a1 ≤ (Int32.ofNat (zN κ (zR κ nuLimbs a0))) →
    ¬ (2 : Int32) = 0 ∧
    ∀ _ : zT κ (zR κ nuLimbs a0) = 20,
    zRun C 1 mAr_copyOf [.ref (zR κ nuLimbs a0), .int ((a1 + (a1 / (2 : Int32))) + (1 : Int32))] κ (oR 20 (fun r2 κ1 =>
      ∀ _ : zW C n0 κ1,
      ∀ _ : zM (zn κ) κ κ1,
      ∀ _ : zT κ1 r2 = 20,
      zO κ1 r2 = (0, 0) ∧
      ∀ κ4, κ4 = uo κ1 nuLimbs a0 r2 →
      ∀ _ : zW C n0 κ4,
      Q κ4) noX))
theorem t_Nu_widen_0 {C : zC} {n0 : Nat} {Q : zS → Prop}   {a0 : Nat} {a1 : Int32} {κ : zS} (W : zW C n0 κ) (Ta0 : zT κ a0 = 8) (F : w_Nu_widen_0 C n0 Q  a0 a1 κ) : zG C n0 2 mNu_widen 0 [some (.ref a0), some (.int a1)] [] κ (oV Q noX) := by
  unfold w_Nu_widen_0 at F
  refine y_iln dX5_widen_0 rfl ?_
  refine y_aln dX5_widen_1 rfl ?_
  refine gf_X5_13 W dX5_widen_2 rfl Ta0 ?_
  refine y_alen (t := 0) dX5_widen_5 (ty_nuLimbs W Ta0) (by decide) ?_
  refine y_ii (a1 ≤ (Int32.ofNat (zN κ (zR κ nuLimbs a0)))) dX5_widen_6 (t := 27) rfl rfl (fun c9 => ?_) (fun c9 => ?_)
  · replace F := F.1 c9
    exact y_rv W dX5_widen_27 rfl F
  · replace F := F.2 c9
    refine y_aln dX5_widen_9 rfl ?_
    refine y_aln dX5_widen_10 rfl ?_
    refine gf_X5_13 W dX5_widen_11 rfl Ta0 ?_
    refine y_iln dX5_widen_14 rfl ?_
    refine y_iln dX5_widen_15 rfl ?_
    refine y_ic dX5_widen_16 zi_2 ?_
    refine y_div dX5_widen_17 F.1 ?_
    replace F := F.2
    refine y_iadd dX5_widen_18 ?_
    refine y_ic dX5_widen_19 zi_1 ?_
    refine y_iadd dX5_widen_20 ?_
    replace F := F (ty_nuLimbs W Ta0)
    refine k_X5_19 W dX5_widen_21 rfl (Nat.le_of_ble_eq_true rfl) (Nat.le_of_ble_eq_true rfl)  F (fun r2 κ1 Wκ1 Mκ1 g3 F => ?_) (fun _ _ h9 => False.elim h9)
    replace F := F Wκ1 Mκ1 g3
    have b5 := F.1
    replace F := F.2
    have h6 := (ztm W Mκ1 Ta0)
    refine pf_X5_13 Wκ1 dX5_widen_24 rfl (Or.inl h6) g3 (fun κ4 eκ4 => ?_)
    replace F := F κ4 eκ4
    have Wκ4 : zW C n0 κ4 := zW_uo Wκ1 eκ4 (fun t ht => by cases ht; exact g3) b5
    have Mκ4 : zM (zn κ1) κ1 κ4 := by rw [eκ4]; exact zM.of rfl rfl rfl
    replace F := F Wκ4
    exact y_rv Wκ4 dX5_widen_27 rfl F

theorem Nu_widen_run {C : zC} {n0 : Nat} {Q : zS → Prop} {a0 : Nat} {a1 : Int32} {κ : zS} (W : zW C n0 κ) (Ta0 : zT κ a0 = 8) (F : w_Nu_widen_0 C (zn κ) Q a0 a1 κ) : zRun C 2 mNu_widen [.ref a0, .int a1] κ (oV Q noX) := z_run (m_ent _ 0) (t_Nu_widen_0 (W.lo (Nat.le_trans W.1.2.1 W.1.2.2) (Nat.le_refl _)) Ta0 F)

theorem dX1_blend_0 : decode cX1_blend 0 = .ok (.aload_n 0, 1) := by decide +kernel
theorem dX1_blend_1 : decode cX1_blend 1 = .ok (.getfield 28, 3) := by decide +kernel
theorem dX1_blend_4 : decode cX1_blend 4 = .ok (.getfield 37, 3) := by decide +kernel
theorem dX1_blend_7 : decode cX1_blend 7 = .ok (.istore 9, 2) := by decide +kernel
theorem dX1_blend_9 : decode cX1_blend 9 = .ok (.aload_n 0, 1) := by decide +kernel
theorem dX1_blend_10 : decode cX1_blend 10 = .ok (.getfield 31, 3) := by decide +kernel
theorem dX1_blend_13 : decode cX1_blend 13 = .ok (.iload 9, 2) := by decide +kernel
theorem dX1_blend_15 : decode cX1_blend 15 = .ok (.invokevirtual 120, 3) := by decide +kernel
theorem dX1_blend_18 : decode cX1_blend 18 = .ok (.aload_n 0, 1) := by decide +kernel
theorem dX1_blend_19 : decode cX1_blend 19 = .ok (.getfield 31, 3) := by decide +kernel
theorem dX1_blend_22 : decode cX1_blend 22 = .ok (.getfield 57, 3) := by decide +kernel
theorem dX1_blend_25 : decode cX1_blend 25 = .ok (.aload_n 0, 1) := by decide +kernel
theorem dX1_blend_26 : decode cX1_blend 26 = .ok (.getfield 31, 3) := by decide +kernel
theorem dX1_blend_29 : decode cX1_blend 29 = .ok (.getfield 37, 3) := by decide +kernel
theorem dX1_blend_32 : decode cX1_blend 32 = .ok (.iload 9, 2) := by decide +kernel
theorem dX1_blend_34 : decode cX1_blend 34 = .ok (.iconst 0, 1) := by decide +kernel
theorem dX1_blend_35 : decode cX1_blend 35 = .ok (.invokestatic 123, 3) := by decide +kernel
theorem dX1_blend_38 : decode cX1_blend 38 = .ok (.lconst 0, 1) := by decide +kernel
theorem dX1_blend_39 : decode cX1_blend 39 = .ok (.lstore 10, 2) := by decide +kernel
theorem dX1_blend_41 : decode cX1_blend 41 = .ok (.lconst 0, 1) := by decide +kernel
theorem dX1_blend_42 : decode cX1_blend 42 = .ok (.lstore 12, 2) := by decide +kernel
theorem dX1_blend_44 : decode cX1_blend 44 = .ok (.iconst 0, 1) := by decide +kernel
theorem dX1_blend_45 : decode cX1_blend 45 = .ok (.istore 14, 2) := by decide +kernel
theorem dX1_blend_47 : decode cX1_blend 47 = .ok (.iload 14, 2) := by decide +kernel
theorem dX1_blend_49 : decode cX1_blend 49 = .ok (.iload 9, 2) := by decide +kernel
theorem dX1_blend_51 : decode cX1_blend 51 = .ok (.if_icmp .ge 113, 3) := by decide +kernel
theorem dX1_blend_54 : decode cX1_blend 54 = .ok (.aload_n 0, 1) := by decide +kernel
theorem dX1_blend_55 : decode cX1_blend 55 = .ok (.getfield 28, 3) := by decide +kernel
theorem dX1_blend_58 : decode cX1_blend 58 = .ok (.getfield 57, 3) := by decide +kernel
theorem dX1_blend_61 : decode cX1_blend 61 = .ok (.iload 14, 2) := by decide +kernel
theorem dX1_blend_63 : decode cX1_blend 63 = .ok (.iaload, 1) := by decide +kernel
theorem dX1_blend_64 : decode cX1_blend 64 = .ok (.i2l, 1) := by decide +kernel
theorem dX1_blend_65 : decode cX1_blend 65 = .ok (.lstore 15, 2) := by decide +kernel
theorem dX1_blend_67 : decode cX1_blend 67 = .ok (.aload_n 0, 1) := by decide +kernel
theorem dX1_blend_68 : decode cX1_blend 68 = .ok (.getfield 31, 3) := by decide +kernel
theorem dX1_blend_71 : decode cX1_blend 71 = .ok (.getfield 57, 3) := by decide +kernel
theorem dX1_blend_74 : decode cX1_blend 74 = .ok (.iload 14, 2) := by decide +kernel
theorem dX1_blend_76 : decode cX1_blend 76 = .ok (.iaload, 1) := by decide +kernel
theorem dX1_blend_77 : decode cX1_blend 77 = .ok (.i2l, 1) := by decide +kernel
theorem dX1_blend_78 : decode cX1_blend 78 = .ok (.lstore 17, 2) := by decide +kernel
theorem dX1_blend_80 : decode cX1_blend 80 = .ok (.lload 10, 2) := by decide +kernel
theorem dX1_blend_82 : decode cX1_blend 82 = .ok (.lload_n 1, 1) := by decide +kernel
theorem dX1_blend_83 : decode cX1_blend 83 = .ok (.lload 15, 2) := by decide +kernel
theorem dX1_blend_85 : decode cX1_blend 85 = .ok (.lmul, 1) := by decide +kernel
theorem dX1_blend_86 : decode cX1_blend 86 = .ok (.lload_n 3, 1) := by decide +kernel
theorem dX1_blend_87 : decode cX1_blend 87 = .ok (.lload 17, 2) := by decide +kernel
theorem dX1_blend_89 : decode cX1_blend 89 = .ok (.lmul, 1) := by decide +kernel
theorem dX1_blend_90 : decode cX1_blend 90 = .ok (.ladd, 1) := by decide +kernel
theorem dX1_blend_91 : decode cX1_blend 91 = .ok (.ladd, 1) := by decide +kernel
theorem dX1_blend_92 : decode cX1_blend 92 = .ok (.lstore 10, 2) := by decide +kernel
theorem dX1_blend_94 : decode cX1_blend 94 = .ok (.lload 12, 2) := by decide +kernel
theorem dX1_blend_96 : decode cX1_blend 96 = .ok (.lload 5, 2) := by decide +kernel
theorem dX1_blend_98 : decode cX1_blend 98 = .ok (.lload 15, 2) := by decide +kernel
theorem dX1_blend_100 : decode cX1_blend 100 = .ok (.lmul, 1) := by decide +kernel
theorem dX1_blend_101 : decode cX1_blend 101 = .ok (.lload 7, 2) := by decide +kernel
theorem dX1_blend_103 : decode cX1_blend 103 = .ok (.lload 17, 2) := by decide +kernel
theorem dX1_blend_105 : decode cX1_blend 105 = .ok (.lmul, 1) := by decide +kernel
theorem dX1_blend_106 : decode cX1_blend 106 = .ok (.ladd, 1) := by decide +kernel
theorem dX1_blend_107 : decode cX1_blend 107 = .ok (.ladd, 1) := by decide +kernel
theorem dX1_blend_108 : decode cX1_blend 108 = .ok (.lstore 12, 2) := by decide +kernel
theorem dX1_blend_110 : decode cX1_blend 110 = .ok (.aload_n 0, 1) := by decide +kernel
theorem dX1_blend_111 : decode cX1_blend 111 = .ok (.getfield 28, 3) := by decide +kernel
theorem dX1_blend_114 : decode cX1_blend 114 = .ok (.getfield 57, 3) := by decide +kernel
theorem dX1_blend_117 : decode cX1_blend 117 = .ok (.iload 14, 2) := by decide +kernel
theorem dX1_blend_119 : decode cX1_blend 119 = .ok (.lload 10, 2) := by decide +kernel
theorem dX1_blend_121 : decode cX1_blend 121 = .ok (.ldc2_w 78, 3) := by decide +kernel
theorem dX1_blend_124 : decode cX1_blend 124 = .ok (.land, 1) := by decide +kernel
theorem dX1_blend_125 : decode cX1_blend 125 = .ok (.l2i, 1) := by decide +kernel
theorem dX1_blend_126 : decode cX1_blend 126 = .ok (.iastore, 1) := by decide +kernel
theorem dX1_blend_127 : decode cX1_blend 127 = .ok (.aload_n 0, 1) := by decide +kernel
theorem dX1_blend_128 : decode cX1_blend 128 = .ok (.getfield 31, 3) := by decide +kernel
theorem dX1_blend_131 : decode cX1_blend 131 = .ok (.getfield 57, 3) := by decide +kernel
theorem dX1_blend_134 : decode cX1_blend 134 = .ok (.iload 14, 2) := by decide +kernel
theorem dX1_blend_136 : decode cX1_blend 136 = .ok (.lload 12, 2) := by decide +kernel
theorem dX1_blend_138 : decode cX1_blend 138 = .ok (.ldc2_w 78, 3) := by decide +kernel
theorem dX1_blend_141 : decode cX1_blend 141 = .ok (.land, 1) := by decide +kernel
theorem dX1_blend_142 : decode cX1_blend 142 = .ok (.l2i, 1) := by decide +kernel
theorem dX1_blend_143 : decode cX1_blend 143 = .ok (.iastore, 1) := by decide +kernel
theorem dX1_blend_144 : decode cX1_blend 144 = .ok (.lload 10, 2) := by decide +kernel
theorem dX1_blend_146 : decode cX1_blend 146 = .ok (.bipush 31, 2) := by decide +kernel
theorem dX1_blend_148 : decode cX1_blend 148 = .ok (.lshr, 1) := by decide +kernel
theorem dX1_blend_149 : decode cX1_blend 149 = .ok (.lstore 10, 2) := by decide +kernel
theorem dX1_blend_151 : decode cX1_blend 151 = .ok (.lload 12, 2) := by decide +kernel
theorem dX1_blend_153 : decode cX1_blend 153 = .ok (.bipush 31, 2) := by decide +kernel
theorem dX1_blend_155 : decode cX1_blend 155 = .ok (.lshr, 1) := by decide +kernel
theorem dX1_blend_156 : decode cX1_blend 156 = .ok (.lstore 12, 2) := by decide +kernel
theorem dX1_blend_158 : decode cX1_blend 158 = .ok (.iinc 14 1, 3) := by decide +kernel
theorem dX1_blend_161 : decode cX1_blend 161 = .ok (.goto (-114), 3) := by decide +kernel
theorem dX1_blend_164 : decode cX1_blend 164 = .ok (.aload_n 0, 1) := by decide +kernel
theorem dX1_blend_165 : decode cX1_blend 165 = .ok (.getfield 28, 3) := by decide +kernel
theorem dX1_blend_168 : decode cX1_blend 168 = .ok (.iload 9, 2) := by decide +kernel
theorem dX1_blend_170 : decode cX1_blend 170 = .ok (.putfield 37, 3) := by decide +kernel
theorem dX1_blend_173 : decode cX1_blend 173 = .ok (.aload_n 0, 1) := by decide +kernel
theorem dX1_blend_174 : decode cX1_blend 174 = .ok (.getfield 31, 3) := by decide +kernel
theorem dX1_blend_177 : decode cX1_blend 177 = .ok (.iload 9, 2) := by decide +kernel
theorem dX1_blend_179 : decode cX1_blend 179 = .ok (.putfield 37, 3) := by decide +kernel
theorem dX1_blend_182 : decode cX1_blend 182 = .ok (.aload_n 0, 1) := by decide +kernel
theorem dX1_blend_183 : decode cX1_blend 183 = .ok (.getfield 28, 3) := by decide +kernel
theorem dX1_blend_186 : decode cX1_blend 186 = .ok (.getfield 37, 3) := by decide +kernel
theorem dX1_blend_189 : decode cX1_blend 189 = .ok (.ifCond .le 39, 3) := by decide +kernel
theorem dX1_blend_192 : decode cX1_blend 192 = .ok (.aload_n 0, 1) := by decide +kernel
theorem dX1_blend_193 : decode cX1_blend 193 = .ok (.getfield 28, 3) := by decide +kernel
theorem dX1_blend_196 : decode cX1_blend 196 = .ok (.getfield 57, 3) := by decide +kernel
theorem dX1_blend_199 : decode cX1_blend 199 = .ok (.aload_n 0, 1) := by decide +kernel
theorem dX1_blend_200 : decode cX1_blend 200 = .ok (.getfield 28, 3) := by decide +kernel
theorem dX1_blend_203 : decode cX1_blend 203 = .ok (.getfield 37, 3) := by decide +kernel
theorem dX1_blend_206 : decode cX1_blend 206 = .ok (.iconst 1, 1) := by decide +kernel
theorem dX1_blend_207 : decode cX1_blend 207 = .ok (.isub, 1) := by decide +kernel
theorem dX1_blend_208 : decode cX1_blend 208 = .ok (.iaload, 1) := by decide +kernel
theorem dX1_blend_209 : decode cX1_blend 209 = .ok (.ifCond .ne 19, 3) := by decide +kernel
theorem dX1_blend_212 : decode cX1_blend 212 = .ok (.aload_n 0, 1) := by decide +kernel
theorem dX1_blend_213 : decode cX1_blend 213 = .ok (.getfield 28, 3) := by decide +kernel
theorem dX1_blend_216 : decode cX1_blend 216 = .ok (.dup, 1) := by decide +kernel
theorem dX1_blend_217 : decode cX1_blend 217 = .ok (.getfield 37, 3) := by decide +kernel
theorem dX1_blend_220 : decode cX1_blend 220 = .ok (.iconst 1, 1) := by decide +kernel
theorem dX1_blend_221 : decode cX1_blend 221 = .ok (.isub, 1) := by decide +kernel
theorem dX1_blend_222 : decode cX1_blend 222 = .ok (.putfield 37, 3) := by decide +kernel
theorem dX1_blend_225 : decode cX1_blend 225 = .ok (.goto (-43), 3) := by decide +kernel
theorem dX1_blend_228 : decode cX1_blend 228 = .ok (.aload_n 0, 1) := by decide +kernel
theorem dX1_blend_229 : decode cX1_blend 229 = .ok (.getfield 31, 3) := by decide +kernel
theorem dX1_blend_232 : decode cX1_blend 232 = .ok (.getfield 37, 3) := by decide +kernel
theorem dX1_blend_235 : decode cX1_blend 235 = .ok (.ifCond .le 39, 3) := by decide +kernel
theorem dX1_blend_238 : decode cX1_blend 238 = .ok (.aload_n 0, 1) := by decide +kernel
theorem dX1_blend_239 : decode cX1_blend 239 = .ok (.getfield 31, 3) := by decide +kernel
theorem dX1_blend_242 : decode cX1_blend 242 = .ok (.getfield 57, 3) := by decide +kernel
theorem dX1_blend_245 : decode cX1_blend 245 = .ok (.aload_n 0, 1) := by decide +kernel
theorem dX1_blend_246 : decode cX1_blend 246 = .ok (.getfield 31, 3) := by decide +kernel
theorem dX1_blend_249 : decode cX1_blend 249 = .ok (.getfield 37, 3) := by decide +kernel
theorem dX1_blend_252 : decode cX1_blend 252 = .ok (.iconst 1, 1) := by decide +kernel
theorem dX1_blend_253 : decode cX1_blend 253 = .ok (.isub, 1) := by decide +kernel
theorem dX1_blend_254 : decode cX1_blend 254 = .ok (.iaload, 1) := by decide +kernel
theorem dX1_blend_255 : decode cX1_blend 255 = .ok (.ifCond .ne 19, 3) := by decide +kernel
theorem dX1_blend_258 : decode cX1_blend 258 = .ok (.aload_n 0, 1) := by decide +kernel
theorem dX1_blend_259 : decode cX1_blend 259 = .ok (.getfield 31, 3) := by decide +kernel
theorem dX1_blend_262 : decode cX1_blend 262 = .ok (.dup, 1) := by decide +kernel
theorem dX1_blend_263 : decode cX1_blend 263 = .ok (.getfield 37, 3) := by decide +kernel
theorem dX1_blend_266 : decode cX1_blend 266 = .ok (.iconst 1, 1) := by decide +kernel
theorem dX1_blend_267 : decode cX1_blend 267 = .ok (.isub, 1) := by decide +kernel
theorem dX1_blend_268 : decode cX1_blend 268 = .ok (.putfield 37, 3) := by decide +kernel
theorem dX1_blend_271 : decode cX1_blend 271 = .ok (.goto (-43), 3) := by decide +kernel
theorem dX1_blend_274 : decode cX1_blend 274 = .ok (.return_, 1) := by decide +kernel
def w_Ca_blend_228 (C : zC) (n0 : Nat) (Q : zS → Prop)  (a0 : Nat) (κ : zS) : Prop :=
  ∃ I : Nat → Nat → zS → Prop, (∃ n, I n a0 κ) ∧ ∀ n a0 κ, zW C n0 κ → zT κ a0 = 4 → I n a0 κ →
    ((zI κ nuLength (zR κ caY a0)) ≤ (0 : Int32) →
      Q κ) ∧
    (¬ (zI κ nuLength (zR κ caY a0)) ≤ (0 : Int32) →
      inb ((zI κ nuLength (zR κ caY a0)) - (1 : Int32)) (zN κ (zR κ nuLimbs (zR κ caY a0))) ∧
      (¬ (zA κ (zR κ nuLimbs (zR κ caY a0)) (((zI κ nuLength (zR κ caY a0)) - (1 : Int32))).toNatClampNeg) = (0 : Int32) →
        Q κ) ∧
      ((zA κ (zR κ nuLimbs (zR κ caY a0)) (((zI κ nuLength (zR κ caY a0)) - (1 : Int32))).toNatClampNeg) = (0 : Int32) →
        ∀ κ1, κ1 = ui κ nuLength (zR κ caY a0) ((zI κ nuLength (zR κ caY a0)) - (1 : Int32)) →
        ∀ _ : zW C n0 κ1,
        ∃ k < n, I k a0 κ1))
theorem t_Ca_blend_228 {C : zC} {n0 : Nat} {Q : zS → Prop}   {a0 : Nat} {κ : zS} (W : zW C n0 κ) (Ta0 : zT κ a0 = 4) (F : w_Ca_blend_228 C n0 Q  a0 κ) : zG C n0 3 mCa_blend 228 [some (.ref a0), none, none, none, none, none, none, none, none, none, none, none, none, none, none, none, none, none, none] [] κ (oV Q noX) := by
  obtain ⟨I, ⟨m0, hI0⟩, F0⟩ := F
  have key : ∀ n a0 κ, zW C n0 κ → zT κ a0 = 4 → I n a0 κ → zG C n0 3 mCa_blend 228 [some (.ref a0), none, none, none, none, none, none, none, none, none, none, none, none, none, none, none, none, none, none] [] κ (oV Q noX) := by
    intro n
    induction n using Nat.strongRecOn with
    | _ n ih =>
      intro a0 κ W Ta0 hI
      have F := F0 n a0 κ W Ta0 hI
      clear hI hI0
      refine y_aln dX1_blend_228 rfl ?_
      refine gf_X1_31 W dX1_blend_229 rfl Ta0 ?_
      refine gf_X1_37 dX1_blend_232 rfl (Or.inl (ty_caY W Ta0)) ?_
      refine y_i ((zI κ nuLength (zR κ caY a0)) ≤ (0 : Int32)) dX1_blend_235 (t := 274) rfl rfl (fun c9 => ?_) (fun c9 => ?_)
      · replace F := F.1 c9
        exact y_rv W dX1_blend_274 rfl F
      · replace F := F.2 c9
        refine y_aln dX1_blend_238 rfl ?_
        refine gf_X1_31 W dX1_blend_239 rfl Ta0 ?_
        refine gf_X1_57 W dX1_blend_242 rfl (ty_caY W Ta0) ?_
        refine y_aln dX1_blend_245 rfl ?_
        refine gf_X1_31 W dX1_blend_246 rfl Ta0 ?_
        refine gf_X1_37 dX1_blend_249 rfl (Or.inl (ty_caY W Ta0)) ?_
        refine y_ic dX1_blend_252 zi_1 ?_
        refine y_isub dX1_blend_253 ?_
        refine y_ald dX1_blend_254 (ty_nuLimbs W (ty_caY W Ta0)) F.1 ?_
        replace F := F.2
        refine y_in ((zA κ (zR κ nuLimbs (zR κ caY a0)) (((zI κ nuLength (zR κ caY a0)) - (1 : Int32))).toNatClampNeg) = (0 : Int32)) dX1_blend_255 (t := 274) rfl rfl (fun c9 => ?_) (fun c9 => ?_)
        · replace F := F.1 c9
          exact y_rv W dX1_blend_274 rfl F
        · replace F := F.2 c9
          refine y_aln dX1_blend_258 rfl ?_
          refine gf_X1_31 W dX1_blend_259 rfl Ta0 ?_
          refine y_dup dX1_blend_262 rfl ?_
          refine gf_X1_37 dX1_blend_263 rfl (Or.inl (ty_caY W Ta0)) ?_
          refine y_ic dX1_blend_266 zi_1 ?_
          refine y_isub dX1_blend_267 ?_
          refine pf_X1_37 W dX1_blend_268 rfl (Or.inl (ty_caY W Ta0)) (fun κ1 eκ1 => ?_)
          replace F := F κ1 eκ1
          have Wκ1 : zW C n0 κ1 := zW_ui W eκ1 (fun h => absurd h (by decide))
          have Mκ1 : zM (zn κ) κ κ1 := by rw [eκ1]; exact zM.of rfl rfl rfl
          replace F := F Wκ1
          refine y_goto dX1_blend_271 (t := 228) rfl ?_
          have h2 := (ztm W Mκ1 Ta0)
          obtain ⟨k, hk, hI⟩ := F
          exact y_k (ih k hk _ _ Wκ1 h2 hI) ⟨rfl, trivial⟩
  exact key m0 a0 κ W Ta0 hI0

def w_Ca_blend_182 (C : zC) (n0 : Nat) (Q : zS → Prop)  (a0 : Nat) (κ : zS) : Prop :=
  ∃ I : Nat → Nat → zS → Prop, (∃ n, I n a0 κ) ∧ ∀ n a0 κ, zW C n0 κ → zT κ a0 = 4 → I n a0 κ →
    ((zI κ nuLength (zR κ caX a0)) ≤ (0 : Int32) →
      w_Ca_blend_228 C n0 Q  a0 κ) ∧
    (¬ (zI κ nuLength (zR κ caX a0)) ≤ (0 : Int32) →
      inb ((zI κ nuLength (zR κ caX a0)) - (1 : Int32)) (zN κ (zR κ nuLimbs (zR κ caX a0))) ∧
      (¬ (zA κ (zR κ nuLimbs (zR κ caX a0)) (((zI κ nuLength (zR κ caX a0)) - (1 : Int32))).toNatClampNeg) = (0 : Int32) →
        w_Ca_blend_228 C n0 Q  a0 κ) ∧
      ((zA κ (zR κ nuLimbs (zR κ caX a0)) (((zI κ nuLength (zR κ caX a0)) - (1 : Int32))).toNatClampNeg) = (0 : Int32) →
        ∀ κ1, κ1 = ui κ nuLength (zR κ caX a0) ((zI κ nuLength (zR κ caX a0)) - (1 : Int32)) →
        ∀ _ : zW C n0 κ1,
        ∃ k < n, I k a0 κ1))
theorem t_Ca_blend_182 {C : zC} {n0 : Nat} {Q : zS → Prop}   {a0 : Nat} {κ : zS} (W : zW C n0 κ) (Ta0 : zT κ a0 = 4) (F : w_Ca_blend_182 C n0 Q  a0 κ) : zG C n0 3 mCa_blend 182 [some (.ref a0), none, none, none, none, none, none, none, none, none, none, none, none, none, none, none, none, none, none] [] κ (oV Q noX) := by
  obtain ⟨I, ⟨m0, hI0⟩, F0⟩ := F
  have key : ∀ n a0 κ, zW C n0 κ → zT κ a0 = 4 → I n a0 κ → zG C n0 3 mCa_blend 182 [some (.ref a0), none, none, none, none, none, none, none, none, none, none, none, none, none, none, none, none, none, none] [] κ (oV Q noX) := by
    intro n
    induction n using Nat.strongRecOn with
    | _ n ih =>
      intro a0 κ W Ta0 hI
      have F := F0 n a0 κ W Ta0 hI
      clear hI hI0
      refine y_aln dX1_blend_182 rfl ?_
      refine gf_X1_28 W dX1_blend_183 rfl Ta0 ?_
      refine gf_X1_37 dX1_blend_186 rfl (Or.inl (ty_caX W Ta0)) ?_
      refine y_i ((zI κ nuLength (zR κ caX a0)) ≤ (0 : Int32)) dX1_blend_189 (t := 228) rfl rfl (fun c9 => ?_) (fun c9 => ?_)
      · replace F := F.1 c9
        exact y_k (t_Ca_blend_228  W Ta0 F) ⟨rfl, trivial⟩
      · replace F := F.2 c9
        refine y_aln dX1_blend_192 rfl ?_
        refine gf_X1_28 W dX1_blend_193 rfl Ta0 ?_
        refine gf_X1_57 W dX1_blend_196 rfl (ty_caX W Ta0) ?_
        refine y_aln dX1_blend_199 rfl ?_
        refine gf_X1_28 W dX1_blend_200 rfl Ta0 ?_
        refine gf_X1_37 dX1_blend_203 rfl (Or.inl (ty_caX W Ta0)) ?_
        refine y_ic dX1_blend_206 zi_1 ?_
        refine y_isub dX1_blend_207 ?_
        refine y_ald dX1_blend_208 (ty_nuLimbs W (ty_caX W Ta0)) F.1 ?_
        replace F := F.2
        refine y_in ((zA κ (zR κ nuLimbs (zR κ caX a0)) (((zI κ nuLength (zR κ caX a0)) - (1 : Int32))).toNatClampNeg) = (0 : Int32)) dX1_blend_209 (t := 228) rfl rfl (fun c9 => ?_) (fun c9 => ?_)
        · replace F := F.1 c9
          exact y_k (t_Ca_blend_228  W Ta0 F) ⟨rfl, trivial⟩
        · replace F := F.2 c9
          refine y_aln dX1_blend_212 rfl ?_
          refine gf_X1_28 W dX1_blend_213 rfl Ta0 ?_
          refine y_dup dX1_blend_216 rfl ?_
          refine gf_X1_37 dX1_blend_217 rfl (Or.inl (ty_caX W Ta0)) ?_
          refine y_ic dX1_blend_220 zi_1 ?_
          refine y_isub dX1_blend_221 ?_
          refine pf_X1_37 W dX1_blend_222 rfl (Or.inl (ty_caX W Ta0)) (fun κ1 eκ1 => ?_)
          replace F := F κ1 eκ1
          have Wκ1 : zW C n0 κ1 := zW_ui W eκ1 (fun h => absurd h (by decide))
          have Mκ1 : zM (zn κ) κ κ1 := by rw [eκ1]; exact zM.of rfl rfl rfl
          replace F := F Wκ1
          refine y_goto dX1_blend_225 (t := 182) rfl ?_
          have h2 := (ztm W Mκ1 Ta0)
          obtain ⟨k, hk, hI⟩ := F
          exact y_k (ih k hk _ _ Wκ1 h2 hI) ⟨rfl, trivial⟩
  exact key m0 a0 κ W Ta0 hI0

def w_Ca_blend_47 (C : zC) (n0 : Nat) (Q : zS → Prop)  (a0 : Nat) (a1 : Int64) (a3 : Int64) (a5 : Int64) (a7 : Int64) (a9 : Int32) (a10 : Int64) (a12 : Int64) (a14 : Int32) (κ : zS) : Prop :=
  ∃ I : Nat → Nat → Int64 → Int64 → Int64 → Int64 → Int32 → Int64 → Int64 → Int32 → zS → Prop, (∃ n, I n a0 a1 a3 a5 a7 a9 a10 a12 a14 κ) ∧ ∀ n a0 a1 a3 a5 a7 a9 a10 a12 a14 κ, zW C n0 κ → zT κ a0 = 4 → I n a0 a1 a3 a5 a7 a9 a10 a12 a14 κ →
    (a9 ≤ a14 →
      ∀ κ1, κ1 = ui κ nuLength (zR κ caX a0) a9 →
      ∀ _ : zW C n0 κ1,
      ∀ κ3, κ3 = ui κ1 nuLength (zR κ1 caY a0) a9 →
      ∀ _ : zW C n0 κ3,
      w_Ca_blend_182 C n0 Q  a0 κ3) ∧
    (¬ a9 ≤ a14 →
      inb a14 (zN κ (zR κ nuLimbs (zR κ caX a0))) ∧
      ∀ v15_5 : Int64, v15_5 = (Int32.toInt64 (zA κ (zR κ nuLimbs (zR κ caX a0)) (a14).toNatClampNeg)) →
      inb a14 (zN κ (zR κ nuLimbs (zR κ caY a0))) ∧
      ∀ v17_6 : Int64, v17_6 = (Int32.toInt64 (zA κ (zR κ nuLimbs (zR κ caY a0)) (a14).toNatClampNeg)) →
      ∀ v10_7 : Int64, v10_7 = (a10 + ((a1 * v15_5) + (a3 * v17_6))) →
      ∀ v12_8 : Int64, v12_8 = (a12 + ((a5 * v15_5) + (a7 * v17_6))) →
      inb a14 (zN κ (zR κ nuLimbs (zR κ caX a0))) ∧
      ∀ κ9, κ9 = ua κ (zR κ nuLimbs (zR κ caX a0)) (a14).toNatClampNeg (Int64.toInt32 (v10_7 &&& (2147483647 : Int64))) →
      ∀ _ : zW C n0 κ9,
      inb a14 (zN κ9 (zR κ9 nuLimbs (zR κ9 caY a0))) ∧
      ∀ κ11, κ11 = ua κ9 (zR κ9 nuLimbs (zR κ9 caY a0)) (a14).toNatClampNeg (Int64.toInt32 (v12_8 &&& (2147483647 : Int64))) →
      ∀ _ : zW C n0 κ11,
      ∀ v10_12 : Int64, v10_12 = (v10_7 >>> (Int32.toInt64 (31 : Int32) &&& 63)) →
      ∀ v12_13 : Int64, v12_13 = (v12_8 >>> (Int32.toInt64 (31 : Int32) &&& 63)) →
      ∀ v14_14 : Int32, v14_14 = a14 + (1 : Int32) →
      ∃ k < n, I k a0 a1 a3 a5 a7 a9 v10_12 v12_13 v14_14 κ11)
theorem t_Ca_blend_47 {C : zC} {n0 : Nat} {Q : zS → Prop}   {a0 : Nat} {a1 : Int64} {a3 : Int64} {a5 : Int64} {a7 : Int64} {a9 : Int32} {a10 : Int64} {a12 : Int64} {a14 : Int32} {κ : zS} (W : zW C n0 κ) (Ta0 : zT κ a0 = 4) (F : w_Ca_blend_47 C n0 Q  a0 a1 a3 a5 a7 a9 a10 a12 a14 κ) : zG C n0 3 mCa_blend 47 [some (.ref a0), some (.long a1), none, some (.long a3), none, some (.long a5), none, some (.long a7), none, some (.int a9), some (.long a10), none, some (.long a12), none, some (.int a14), none, none, none, none] [] κ (oV Q noX) := by
  obtain ⟨I, ⟨m0, hI0⟩, F0⟩ := F
  have key : ∀ n a0 a1 a3 a5 a7 a9 a10 a12 a14 κ, zW C n0 κ → zT κ a0 = 4 → I n a0 a1 a3 a5 a7 a9 a10 a12 a14 κ → zG C n0 3 mCa_blend 47 [some (.ref a0), some (.long a1), none, some (.long a3), none, some (.long a5), none, some (.long a7), none, some (.int a9), some (.long a10), none, some (.long a12), none, some (.int a14), none, none, none, none] [] κ (oV Q noX) := by
    intro n
    induction n using Nat.strongRecOn with
    | _ n ih =>
      intro a0 a1 a3 a5 a7 a9 a10 a12 a14 κ W Ta0 hI
      have F := F0 n a0 a1 a3 a5 a7 a9 a10 a12 a14 κ W Ta0 hI
      clear hI hI0
      refine y_il dX1_blend_47 rfl ?_
      refine y_il dX1_blend_49 rfl ?_
      refine y_ii (a9 ≤ a14) dX1_blend_51 (t := 164) rfl rfl (fun c9 => ?_) (fun c9 => ?_)
      · replace F := F.1 c9
        refine y_aln dX1_blend_164 rfl ?_
        refine gf_X1_28 W dX1_blend_165 rfl Ta0 ?_
        refine y_il dX1_blend_168 rfl ?_
        refine pf_X1_37 W dX1_blend_170 rfl (Or.inl (ty_caX W Ta0)) (fun κ1 eκ1 => ?_)
        replace F := F κ1 eκ1
        have Wκ1 : zW C n0 κ1 := zW_ui W eκ1 (fun h => absurd h (by decide))
        have Mκ1 : zM (zn κ) κ κ1 := by rw [eκ1]; exact zM.of rfl rfl rfl
        replace F := F Wκ1
        refine y_aln dX1_blend_173 rfl ?_
        have h2 := (ztm W Mκ1 Ta0)
        refine gf_X1_31 Wκ1 dX1_blend_174 rfl h2 ?_
        refine y_il dX1_blend_177 rfl ?_
        refine pf_X1_37 Wκ1 dX1_blend_179 rfl (Or.inl (ty_caY Wκ1 h2)) (fun κ3 eκ3 => ?_)
        replace F := F κ3 eκ3
        have Wκ3 : zW C n0 κ3 := zW_ui Wκ1 eκ3 (fun h => absurd h (by decide))
        have Mκ3 : zM (zn κ1) κ1 κ3 := by rw [eκ3]; exact zM.of rfl rfl rfl
        replace F := F Wκ3
        have h4 := (ztm Wκ1 Mκ3 h2)
        exact y_k (t_Ca_blend_182  Wκ3 h4 F) ⟨rfl, trivial⟩
      · replace F := F.2 c9
        refine y_aln dX1_blend_54 rfl ?_
        refine gf_X1_28 W dX1_blend_55 rfl Ta0 ?_
        refine gf_X1_57 W dX1_blend_58 rfl (ty_caX W Ta0) ?_
        refine y_il dX1_blend_61 rfl ?_
        refine y_ald dX1_blend_63 (ty_nuLimbs W (ty_caX W Ta0)) F.1 ?_
        replace F := F.2
        refine y_i2l dX1_blend_64 ?_
        refine y_lsb dX1_blend_65 (Nat.le_of_ble_eq_true rfl) (fun v15_5 ev15_5 => ?_)
        replace F := F v15_5 ev15_5
        show zG _ _ _ _ _ [some (.ref a0), some (.long a1), none, some (.long a3), none, some (.long a5), none, some (.long a7), none, some (.int a9), some (.long a10), none, some (.long a12), none, some (.int a14), some (.long v15_5), none, none, none] _ _ _
        refine y_aln dX1_blend_67 rfl ?_
        refine gf_X1_31 W dX1_blend_68 rfl Ta0 ?_
        refine gf_X1_57 W dX1_blend_71 rfl (ty_caY W Ta0) ?_
        refine y_il dX1_blend_74 rfl ?_
        refine y_ald dX1_blend_76 (ty_nuLimbs W (ty_caY W Ta0)) F.1 ?_
        replace F := F.2
        refine y_i2l dX1_blend_77 ?_
        refine y_lsb dX1_blend_78 (Nat.le_of_ble_eq_true rfl) (fun v17_6 ev17_6 => ?_)
        replace F := F v17_6 ev17_6
        show zG _ _ _ _ _ [some (.ref a0), some (.long a1), none, some (.long a3), none, some (.long a5), none, some (.long a7), none, some (.int a9), some (.long a10), none, some (.long a12), none, some (.int a14), some (.long v15_5), none, some (.long v17_6), none] _ _ _
        refine y_ll dX1_blend_80 rfl ?_
        refine y_lln dX1_blend_82 rfl ?_
        refine y_ll dX1_blend_83 rfl ?_
        refine y_lmul dX1_blend_85 ?_
        refine y_lln dX1_blend_86 rfl ?_
        refine y_ll dX1_blend_87 rfl ?_
        refine y_lmul dX1_blend_89 ?_
        refine y_ladd dX1_blend_90 ?_
        refine y_ladd dX1_blend_91 ?_
        refine y_lsb dX1_blend_92 (Nat.le_of_ble_eq_true rfl) (fun v10_7 ev10_7 => ?_)
        replace F := F v10_7 ev10_7
        show zG _ _ _ _ _ [some (.ref a0), some (.long a1), none, some (.long a3), none, some (.long a5), none, some (.long a7), none, some (.int a9), some (.long v10_7), none, some (.long a12), none, some (.int a14), some (.long v15_5), none, some (.long v17_6), none] _ _ _
        refine y_ll dX1_blend_94 rfl ?_
        refine y_ll dX1_blend_96 rfl ?_
        refine y_ll dX1_blend_98 rfl ?_
        refine y_lmul dX1_blend_100 ?_
        refine y_ll dX1_blend_101 rfl ?_
        refine y_ll dX1_blend_103 rfl ?_
        refine y_lmul dX1_blend_105 ?_
        refine y_ladd dX1_blend_106 ?_
        refine y_ladd dX1_blend_107 ?_
        refine y_lsb dX1_blend_108 (Nat.le_of_ble_eq_true rfl) (fun v12_8 ev12_8 => ?_)
        replace F := F v12_8 ev12_8
        show zG _ _ _ _ _ [some (.ref a0), some (.long a1), none, some (.long a3), none, some (.long a5), none, some (.long a7), none, some (.int a9), some (.long v10_7), none, some (.long v12_8), none, some (.int a14), some (.long v15_5), none, some (.long v17_6), none] _ _ _
        refine y_aln dX1_blend_110 rfl ?_
        refine gf_X1_28 W dX1_blend_111 rfl Ta0 ?_
        refine gf_X1_57 W dX1_blend_114 rfl (ty_caX W Ta0) ?_
        refine y_il dX1_blend_117 rfl ?_
        refine y_ll dX1_blend_119 rfl ?_
        refine y_ldcl dX1_blend_121 rfl zcl_X1_78 ?_
        refine y_land dX1_blend_124 ?_
        refine y_l2i dX1_blend_125 ?_
        refine y_ast W dX1_blend_126 (ty_nuLimbs W (ty_caX W Ta0)) F.1 (fun κ9 eκ9 => ?_)
        replace F := F.2 κ9 eκ9
        have Wκ9 : zW C n0 κ9 := zW_ua W eκ9 (fun h => absurd (h.symm.trans (ty_nuLimbs W (ty_caX W Ta0))) (by decide)) (fun h => absurd (h.symm.trans (ty_nuLimbs W (ty_caX W Ta0))) (by decide))
        have Mκ9 : zM (zn κ) κ κ9 := by rw [eκ9]; exact zM.of rfl rfl rfl
        replace F := F Wκ9
        refine y_aln dX1_blend_127 rfl ?_
        have h10 := (ztm W Mκ9 Ta0)
        refine gf_X1_31 Wκ9 dX1_blend_128 rfl h10 ?_
        refine gf_X1_57 Wκ9 dX1_blend_131 rfl (ty_caY Wκ9 h10) ?_
        refine y_il dX1_blend_134 rfl ?_
        refine y_ll dX1_blend_136 rfl ?_
        refine y_ldcl dX1_blend_138 rfl zcl_X1_78 ?_
        refine y_land dX1_blend_141 ?_
        refine y_l2i dX1_blend_142 ?_
        refine y_ast Wκ9 dX1_blend_143 (ty_nuLimbs Wκ9 (ty_caY Wκ9 h10)) F.1 (fun κ11 eκ11 => ?_)
        replace F := F.2 κ11 eκ11
        have Wκ11 : zW C n0 κ11 := zW_ua Wκ9 eκ11 (fun h => absurd (h.symm.trans (ty_nuLimbs Wκ9 (ty_caY Wκ9 h10))) (by decide)) (fun h => absurd (h.symm.trans (ty_nuLimbs Wκ9 (ty_caY Wκ9 h10))) (by decide))
        have Mκ11 : zM (zn κ9) κ9 κ11 := by rw [eκ11]; exact zM.of rfl rfl rfl
        replace F := F Wκ11
        refine y_ll dX1_blend_144 rfl ?_
        refine y_bi1 dX1_blend_146 zb_31 ?_
        refine y_lshr dX1_blend_148 ?_
        refine y_lsb dX1_blend_149 (Nat.le_of_ble_eq_true rfl) (fun v10_12 ev10_12 => ?_)
        replace F := F v10_12 ev10_12
        show zG _ _ _ _ _ [some (.ref a0), some (.long a1), none, some (.long a3), none, some (.long a5), none, some (.long a7), none, some (.int a9), some (.long v10_12), none, some (.long v12_8), none, some (.int a14), some (.long v15_5), none, some (.long v17_6), none] _ _ _
        refine y_ll dX1_blend_151 rfl ?_
        refine y_bi1 dX1_blend_153 zb_31 ?_
        refine y_lshr dX1_blend_155 ?_
        refine y_lsb dX1_blend_156 (Nat.le_of_ble_eq_true rfl) (fun v12_13 ev12_13 => ?_)
        replace F := F v12_13 ev12_13
        show zG _ _ _ _ _ [some (.ref a0), some (.long a1), none, some (.long a3), none, some (.long a5), none, some (.long a7), none, some (.int a9), some (.long v10_12), none, some (.long v12_13), none, some (.int a14), some (.long v15_5), none, some (.long v17_6), none] _ _ _
        refine y_incb dX1_blend_158 zi_1 rfl (Nat.le_of_ble_eq_true rfl) (fun v14_14 ev14_14 => ?_)
        replace F := F v14_14 ev14_14
        show zG _ _ _ _ _ [some (.ref a0), some (.long a1), none, some (.long a3), none, some (.long a5), none, some (.long a7), none, some (.int a9), some (.long v10_12), none, some (.long v12_13), none, some (.int v14_14), some (.long v15_5), none, some (.long v17_6), none] _ _ _
        refine y_goto dX1_blend_161 (t := 47) rfl ?_
        have h15 := (ztm Wκ9 Mκ11 h10)
        obtain ⟨k, hk, hI⟩ := F
        exact y_k (ih k hk _ _ _ _ _ _ _ _ _ _ Wκ11 h15 hI) ⟨rfl, rfl, rfl, rfl, rfl, rfl, rfl, rfl, rfl, trivial⟩
  exact key m0 a0 a1 a3 a5 a7 a9 a10 a12 a14 κ W Ta0 hI0

def w_Ca_blend_0 (C : zC) (n0 : Nat) (Q : zS → Prop)  (a0 : Nat) (a1 : Int64) (a3 : Int64) (a5 : Int64) (a7 : Int64) (κ : zS) : Prop :=
  ∀ v9_1 : Int32, v9_1 = (zI κ nuLength (zR κ caX a0)) →
  ∀ _ : zT κ (zR κ caY a0) = 8,
  zRun C 2 mNu_widen [.ref (zR κ caY a0), .int v9_1] κ (oV (fun κ2 =>
    ∀ _ : zW C n0 κ2,
    ∀ _ : zM (zn κ) κ κ2,
    ∀ _ : zT κ2 (zR κ2 nuLimbs (zR κ2 caY a0)) = 20,
    zRun C 1 mAr_fill4 [.ref (zR κ2 nuLimbs (zR κ2 caY a0)), .int (zI κ2 nuLength (zR κ2 caY a0)), .int v9_1, .int (0 : Int32)] κ2 (oV (fun κ6 =>
      ∀ _ : zW C n0 κ6,
      ∀ _ : zM (zn κ2) κ2 κ6,
      w_Ca_blend_47 C n0 Q  a0 a1 a3 a5 a7 v9_1 (0 : Int64) (0 : Int64) (0 : Int32) κ6) noX)) noX)
theorem t_Ca_blend_0 {C : zC} {n0 : Nat} {Q : zS → Prop}   {a0 : Nat} {a1 : Int64} {a3 : Int64} {a5 : Int64} {a7 : Int64} {κ : zS} (W : zW C n0 κ) (Ta0 : zT κ a0 = 4) (F : w_Ca_blend_0 C n0 Q  a0 a1 a3 a5 a7 κ) : zG C n0 3 mCa_blend 0 [some (.ref a0), some (.long a1), none, some (.long a3), none, some (.long a5), none, some (.long a7), none, none, none, none, none, none, none, none, none, none, none] [] κ (oV Q noX) := by
  unfold w_Ca_blend_0 at F
  refine y_aln dX1_blend_0 rfl ?_
  refine gf_X1_28 W dX1_blend_1 rfl Ta0 ?_
  refine gf_X1_37 dX1_blend_4 rfl (Or.inl (ty_caX W Ta0)) ?_
  refine y_isb dX1_blend_7 (Nat.le_of_ble_eq_true rfl) (fun v9_1 ev9_1 => ?_)
  replace F := F v9_1 ev9_1
  show zG _ _ _ _ _ [some (.ref a0), some (.long a1), none, some (.long a3), none, some (.long a5), none, some (.long a7), none, some (.int v9_1), none, none, none, none, none, none, none, none, none] _ _ _
  refine y_aln dX1_blend_9 rfl ?_
  refine gf_X1_31 W dX1_blend_10 rfl Ta0 ?_
  refine y_il dX1_blend_13 rfl ?_
  replace F := F (ty_caY W Ta0)
  refine k_X1_120 W dX1_blend_15 rfl (Nat.le_of_ble_eq_true rfl) (Nat.le_of_ble_eq_true rfl) (Or.inl (ty_caY W Ta0)) F (fun  κ2 Wκ2 Mκ2 F => ?_) (fun _ _ h9 => False.elim h9)
  replace F := F Wκ2 Mκ2
  refine y_aln dX1_blend_18 rfl ?_
  have h5 := (ztm W Mκ2 Ta0)
  refine gf_X1_31 Wκ2 dX1_blend_19 rfl h5 ?_
  refine gf_X1_57 Wκ2 dX1_blend_22 rfl (ty_caY Wκ2 h5) ?_
  refine y_aln dX1_blend_25 rfl ?_
  refine gf_X1_31 Wκ2 dX1_blend_26 rfl h5 ?_
  refine gf_X1_37 dX1_blend_29 rfl (Or.inl (ty_caY Wκ2 h5)) ?_
  refine y_il dX1_blend_32 rfl ?_
  refine y_ic dX1_blend_34 zi_0 ?_
  replace F := F (ty_nuLimbs Wκ2 (ty_caY Wκ2 h5))
  refine k_X1_123 Wκ2 dX1_blend_35 rfl (Nat.le_of_ble_eq_true rfl) (Nat.le_of_ble_eq_true rfl)  F (fun  κ6 Wκ6 Mκ6 F => ?_) (fun _ _ h9 => False.elim h9)
  replace F := F Wκ6 Mκ6
  refine y_lc dX1_blend_38 zl_0 ?_
  refine y_ls dX1_blend_39 (Nat.le_of_ble_eq_true rfl) rfl ?_
  show zG _ _ _ _ _ [some (.ref a0), some (.long a1), none, some (.long a3), none, some (.long a5), none, some (.long a7), none, some (.int v9_1), some (.long (0 : Int64)), none, none, none, none, none, none, none, none] _ _ _
  refine y_lc dX1_blend_41 zl_0 ?_
  refine y_ls dX1_blend_42 (Nat.le_of_ble_eq_true rfl) rfl ?_
  show zG _ _ _ _ _ [some (.ref a0), some (.long a1), none, some (.long a3), none, some (.long a5), none, some (.long a7), none, some (.int v9_1), some (.long (0 : Int64)), none, some (.long (0 : Int64)), none, none, none, none, none, none] _ _ _
  refine y_ic dX1_blend_44 zi_0 ?_
  refine y_is dX1_blend_45 (Nat.le_of_ble_eq_true rfl) rfl ?_
  show zG _ _ _ _ _ [some (.ref a0), some (.long a1), none, some (.long a3), none, some (.long a5), none, some (.long a7), none, some (.int v9_1), some (.long (0 : Int64)), none, some (.long (0 : Int64)), none, some (.int (0 : Int32)), none, none, none, none] _ _ _
  have h9 := (ztm Wκ2 Mκ6 h5)
  exact y_k (t_Ca_blend_47  Wκ6 h9 F) ⟨rfl, rfl, rfl, rfl, rfl, rfl, rfl, rfl, rfl, trivial⟩

theorem Ca_blend_run {C : zC} {n0 : Nat} {Q : zS → Prop} {a0 : Nat} {a1 : Int64} {a3 : Int64} {a5 : Int64} {a7 : Int64} {κ : zS} (W : zW C n0 κ) (Ta0 : zT κ a0 = 4) (F : w_Ca_blend_0 C (zn κ) Q a0 a1 a3 a5 a7 κ) : zRun C 3 mCa_blend [.ref a0, .long a1, .long a3, .long a5, .long a7] κ (oV Q noX) := z_run (m_ent _ 10) (t_Ca_blend_0 (W.lo (Nat.le_trans W.1.2.1 W.1.2.2) (Nat.le_refl _)) Ta0 F)

theorem dX12_commonLong_0 : decode cX12_commonLong 0 = .ok (.lload_n 0, 1) := by decide +kernel
theorem dX12_commonLong_1 : decode cX12_commonLong 1 = .ok (.lstore 4, 2) := by decide +kernel
theorem dX12_commonLong_3 : decode cX12_commonLong 3 = .ok (.lload_n 2, 1) := by decide +kernel
theorem dX12_commonLong_4 : decode cX12_commonLong 4 = .ok (.lstore 6, 2) := by decide +kernel
theorem dX12_commonLong_6 : decode cX12_commonLong 6 = .ok (.iconst 0, 1) := by decide +kernel
theorem dX12_commonLong_7 : decode cX12_commonLong 7 = .ok (.istore 8, 2) := by decide +kernel
theorem dX12_commonLong_9 : decode cX12_commonLong 9 = .ok (.iload 8, 2) := by decide +kernel
theorem dX12_commonLong_11 : decode cX12_commonLong 11 = .ok (.sipush 200, 3) := by decide +kernel
theorem dX12_commonLong_14 : decode cX12_commonLong 14 = .ok (.if_icmp .ge 31, 3) := by decide +kernel
theorem dX12_commonLong_17 : decode cX12_commonLong 17 = .ok (.lload 6, 2) := by decide +kernel
theorem dX12_commonLong_19 : decode cX12_commonLong 19 = .ok (.lconst 0, 1) := by decide +kernel
theorem dX12_commonLong_20 : decode cX12_commonLong 20 = .ok (.lcmp, 1) := by decide +kernel
theorem dX12_commonLong_21 : decode cX12_commonLong 21 = .ok (.ifCond .eq 24, 3) := by decide +kernel
theorem dX12_commonLong_24 : decode cX12_commonLong 24 = .ok (.lload 4, 2) := by decide +kernel
theorem dX12_commonLong_26 : decode cX12_commonLong 26 = .ok (.lload 6, 2) := by decide +kernel
theorem dX12_commonLong_28 : decode cX12_commonLong 28 = .ok (.lrem, 1) := by decide +kernel
theorem dX12_commonLong_29 : decode cX12_commonLong 29 = .ok (.lstore 9, 2) := by decide +kernel
theorem dX12_commonLong_31 : decode cX12_commonLong 31 = .ok (.lload 6, 2) := by decide +kernel
theorem dX12_commonLong_33 : decode cX12_commonLong 33 = .ok (.lstore 4, 2) := by decide +kernel
theorem dX12_commonLong_35 : decode cX12_commonLong 35 = .ok (.lload 9, 2) := by decide +kernel
theorem dX12_commonLong_37 : decode cX12_commonLong 37 = .ok (.lstore 6, 2) := by decide +kernel
theorem dX12_commonLong_39 : decode cX12_commonLong 39 = .ok (.iinc 8 1, 3) := by decide +kernel
theorem dX12_commonLong_42 : decode cX12_commonLong 42 = .ok (.goto (-33), 3) := by decide +kernel
theorem dX12_commonLong_45 : decode cX12_commonLong 45 = .ok (.lload 4, 2) := by decide +kernel
theorem dX12_commonLong_47 : decode cX12_commonLong 47 = .ok (.lreturn, 1) := by decide +kernel
def w_Ch_commonLong_9 (C : zC) (n0 : Nat) (Q : Int64 → zS → Prop)  (a4 : Int64) (a6 : Int64) (a8 : Int32) (κ : zS) : Prop :=
  ∃ I : Nat → Int64 → Int64 → Int32 → zS → Prop, (∃ n, I n a4 a6 a8 κ) ∧ ∀ n a4 a6 a8 κ, zW C n0 κ → I n a4 a6 a8 κ →
    ((200 : Int32) ≤ a8 →
      Q a4 κ) ∧
    (¬ (200 : Int32) ≤ a8 →
      ((lg_cmp a6 (0 : Int64)) = (0 : Int32) →
        Q a4 κ) ∧
      (¬ (lg_cmp a6 (0 : Int64)) = (0 : Int32) →
        ¬ a6 = 0 ∧
        ∀ v9_1 : Int64, v9_1 = (a4 - a4 / a6 * a6) →
        ∀ v8_2 : Int32, v8_2 = a8 + (1 : Int32) →
        ∃ k < n, I k a6 v9_1 v8_2 κ))
theorem t_Ch_commonLong_9 {C : zC} {n0 : Nat} {Q : Int64 → zS → Prop}   {a4 : Int64} {a6 : Int64} {a8 : Int32} {κ : zS} (W : zW C n0 κ)  (F : w_Ch_commonLong_9 C n0 Q  a4 a6 a8 κ) : zG C n0 0 mCh_commonLong 9 [none, none, none, none, some (.long a4), none, some (.long a6), none, some (.int a8), none, none] [] κ (oJ Q noX) := by
  obtain ⟨I, ⟨m0, hI0⟩, F0⟩ := F
  have key : ∀ n a4 a6 a8 κ, zW C n0 κ → I n a4 a6 a8 κ → zG C n0 0 mCh_commonLong 9 [none, none, none, none, some (.long a4), none, some (.long a6), none, some (.int a8), none, none] [] κ (oJ Q noX) := by
    intro n
    induction n using Nat.strongRecOn with
    | _ n ih =>
      intro a4 a6 a8 κ W  hI
      have F := F0 n a4 a6 a8 κ W  hI
      clear hI hI0
      refine y_il dX12_commonLong_9 rfl ?_
      refine y_si dX12_commonLong_11 zs_200 ?_
      refine y_ii ((200 : Int32) ≤ a8) dX12_commonLong_14 (t := 45) rfl rfl (fun c9 => ?_) (fun c9 => ?_)
      · replace F := F.1 c9
        refine y_ll dX12_commonLong_45 rfl ?_
        exact y_rl W dX12_commonLong_47 rfl F
      · replace F := F.2 c9
        refine y_ll dX12_commonLong_17 rfl ?_
        refine y_lc dX12_commonLong_19 zl_0 ?_
        refine y_lcmp dX12_commonLong_20 ?_
        refine y_i ((lg_cmp a6 (0 : Int64)) = (0 : Int32)) dX12_commonLong_21 (t := 45) rfl rfl (fun c9 => ?_) (fun c9 => ?_)
        · replace F := F.1 c9
          refine y_ll dX12_commonLong_45 rfl ?_
          exact y_rl W dX12_commonLong_47 rfl F
        · replace F := F.2 c9
          refine y_ll dX12_commonLong_24 rfl ?_
          refine y_ll dX12_commonLong_26 rfl ?_
          refine y_lrem dX12_commonLong_28 F.1 ?_
          replace F := F.2
          refine y_lsb dX12_commonLong_29 (Nat.le_of_ble_eq_true rfl) (fun v9_1 ev9_1 => ?_)
          replace F := F v9_1 ev9_1
          show zG _ _ _ _ _ [none, none, none, none, some (.long a4), none, some (.long a6), none, some (.int a8), some (.long v9_1), none] _ _ _
          refine y_ll dX12_commonLong_31 rfl ?_
          refine y_ls dX12_commonLong_33 (Nat.le_of_ble_eq_true rfl) rfl ?_
          show zG _ _ _ _ _ [none, none, none, none, some (.long a6), none, some (.long a6), none, some (.int a8), some (.long v9_1), none] _ _ _
          refine y_ll dX12_commonLong_35 rfl ?_
          refine y_ls dX12_commonLong_37 (Nat.le_of_ble_eq_true rfl) rfl ?_
          show zG _ _ _ _ _ [none, none, none, none, some (.long a6), none, some (.long v9_1), none, some (.int a8), some (.long v9_1), none] _ _ _
          refine y_incb dX12_commonLong_39 zi_1 rfl (Nat.le_of_ble_eq_true rfl) (fun v8_2 ev8_2 => ?_)
          replace F := F v8_2 ev8_2
          show zG _ _ _ _ _ [none, none, none, none, some (.long a6), none, some (.long v9_1), none, some (.int v8_2), some (.long v9_1), none] _ _ _
          refine y_goto dX12_commonLong_42 (t := 9) rfl ?_
          obtain ⟨k, hk, hI⟩ := F
          exact y_k (ih k hk _ _ _ _ W  hI) ⟨rfl, rfl, rfl, trivial⟩
  exact key m0 a4 a6 a8 κ W  hI0

def w_Ch_commonLong_0 (C : zC) (n0 : Nat) (Q : Int64 → zS → Prop)  (a0 : Int64) (a2 : Int64) (κ : zS) : Prop :=
  w_Ch_commonLong_9 C n0 Q  a0 a2 (0 : Int32) κ
theorem t_Ch_commonLong_0 {C : zC} {n0 : Nat} {Q : Int64 → zS → Prop}   {a0 : Int64} {a2 : Int64} {κ : zS} (W : zW C n0 κ)  (F : w_Ch_commonLong_0 C n0 Q  a0 a2 κ) : zG C n0 0 mCh_commonLong 0 [some (.long a0), none, some (.long a2), none, none, none, none, none, none, none, none] [] κ (oJ Q noX) := by
  unfold w_Ch_commonLong_0 at F
  refine y_lln dX12_commonLong_0 rfl ?_
  refine y_ls dX12_commonLong_1 (Nat.le_of_ble_eq_true rfl) rfl ?_
  show zG _ _ _ _ _ [some (.long a0), none, some (.long a2), none, some (.long a0), none, none, none, none, none, none] _ _ _
  refine y_lln dX12_commonLong_3 rfl ?_
  refine y_ls dX12_commonLong_4 (Nat.le_of_ble_eq_true rfl) rfl ?_
  show zG _ _ _ _ _ [some (.long a0), none, some (.long a2), none, some (.long a0), none, some (.long a2), none, none, none, none] _ _ _
  refine y_ic dX12_commonLong_6 zi_0 ?_
  refine y_is dX12_commonLong_7 (Nat.le_of_ble_eq_true rfl) rfl ?_
  show zG _ _ _ _ _ [some (.long a0), none, some (.long a2), none, some (.long a0), none, some (.long a2), none, some (.int (0 : Int32)), none, none] _ _ _
  exact y_k (t_Ch_commonLong_9  W  F) ⟨rfl, rfl, rfl, trivial⟩

theorem Ch_commonLong_run {C : zC} {n0 : Nat} {Q : Int64 → zS → Prop} {a0 : Int64} {a2 : Int64} {κ : zS} (W : zW C n0 κ)  (F : w_Ch_commonLong_0 C (zn κ) Q a0 a2 κ) : zRun C 0 mCh_commonLong [.long a0, .long a2] κ (oJ Q noX) := z_run (m_ent _ 7) (t_Ch_commonLong_0 (W.lo (Nat.le_trans W.1.2.1 W.1.2.2) (Nat.le_refl _))  F)

theorem dX1_common_0 : decode cX1_common 0 = .ok (.aload_n 1, 1) := by decide +kernel
theorem dX1_common_1 : decode cX1_common 1 = .ok (.aload_n 2, 1) := by decide +kernel
theorem dX1_common_2 : decode cX1_common 2 = .ok (.invokevirtual 41, 3) := by decide +kernel
theorem dX1_common_5 : decode cX1_common 5 = .ok (.ifCond .lt 7, 3) := by decide +kernel
theorem dX1_common_8 : decode cX1_common 8 = .ok (.iconst 1, 1) := by decide +kernel
theorem dX1_common_9 : decode cX1_common 9 = .ok (.goto 4, 3) := by decide +kernel
theorem dX1_common_12 : decode cX1_common 12 = .ok (.iconst 0, 1) := by decide +kernel
theorem dX1_common_13 : decode cX1_common 13 = .ok (.istore_n 3, 1) := by decide +kernel
theorem dX1_common_14 : decode cX1_common 14 = .ok (.aload_n 0, 1) := by decide +kernel
theorem dX1_common_15 : decode cX1_common 15 = .ok (.getfield 28, 3) := by decide +kernel
theorem dX1_common_18 : decode cX1_common 18 = .ok (.iload_n 3, 1) := by decide +kernel
theorem dX1_common_19 : decode cX1_common 19 = .ok (.ifCond .eq 7, 3) := by decide +kernel
theorem dX1_common_22 : decode cX1_common 22 = .ok (.aload_n 1, 1) := by decide +kernel
theorem dX1_common_23 : decode cX1_common 23 = .ok (.goto 4, 3) := by decide +kernel
theorem dX1_common_26 : decode cX1_common 26 = .ok (.aload_n 2, 1) := by decide +kernel
theorem dX1_common_27 : decode cX1_common 27 = .ok (.invokevirtual 49, 3) := by decide +kernel
theorem dX1_common_30 : decode cX1_common 30 = .ok (.aload_n 0, 1) := by decide +kernel
theorem dX1_common_31 : decode cX1_common 31 = .ok (.getfield 31, 3) := by decide +kernel
theorem dX1_common_34 : decode cX1_common 34 = .ok (.iload_n 3, 1) := by decide +kernel
theorem dX1_common_35 : decode cX1_common 35 = .ok (.ifCond .eq 7, 3) := by decide +kernel
theorem dX1_common_38 : decode cX1_common 38 = .ok (.aload_n 2, 1) := by decide +kernel
theorem dX1_common_39 : decode cX1_common 39 = .ok (.goto 4, 3) := by decide +kernel
theorem dX1_common_42 : decode cX1_common 42 = .ok (.aload_n 1, 1) := by decide +kernel
theorem dX1_common_43 : decode cX1_common 43 = .ok (.invokevirtual 49, 3) := by decide +kernel
theorem dX1_common_46 : decode cX1_common 46 = .ok (.iconst 0, 1) := by decide +kernel
theorem dX1_common_47 : decode cX1_common 47 = .ok (.istore 4, 2) := by decide +kernel
theorem dX1_common_49 : decode cX1_common 49 = .ok (.iload 4, 2) := by decide +kernel
theorem dX1_common_51 : decode cX1_common 51 = .ok (.ldc 92, 2) := by decide +kernel
theorem dX1_common_53 : decode cX1_common 53 = .ok (.if_icmp .ge 119, 3) := by decide +kernel
theorem dX1_common_56 : decode cX1_common 56 = .ok (.aload_n 0, 1) := by decide +kernel
theorem dX1_common_57 : decode cX1_common 57 = .ok (.getfield 31, 3) := by decide +kernel
theorem dX1_common_60 : decode cX1_common 60 = .ok (.getfield 37, 3) := by decide +kernel
theorem dX1_common_63 : decode cX1_common 63 = .ok (.ifCond .le 109, 3) := by decide +kernel
theorem dX1_common_66 : decode cX1_common 66 = .ok (.aload_n 0, 1) := by decide +kernel
theorem dX1_common_67 : decode cX1_common 67 = .ok (.getfield 28, 3) := by decide +kernel
theorem dX1_common_70 : decode cX1_common 70 = .ok (.getfield 37, 3) := by decide +kernel
theorem dX1_common_73 : decode cX1_common 73 = .ok (.iconst 2, 1) := by decide +kernel
theorem dX1_common_74 : decode cX1_common 74 = .ok (.if_icmp .le 98, 3) := by decide +kernel
theorem dX1_common_77 : decode cX1_common 77 = .ok (.aload_n 0, 1) := by decide +kernel
theorem dX1_common_78 : decode cX1_common 78 = .ok (.getfield 31, 3) := by decide +kernel
theorem dX1_common_81 : decode cX1_common 81 = .ok (.getfield 37, 3) := by decide +kernel
theorem dX1_common_84 : decode cX1_common 84 = .ok (.iconst 2, 1) := by decide +kernel
theorem dX1_common_85 : decode cX1_common 85 = .ok (.if_icmp .le 41, 3) := by decide +kernel
theorem dX1_common_88 : decode cX1_common 88 = .ok (.aload_n 0, 1) := by decide +kernel
theorem dX1_common_89 : decode cX1_common 89 = .ok (.invokevirtual 93, 3) := by decide +kernel
theorem dX1_common_92 : decode cX1_common 92 = .ok (.ifCond .eq 34, 3) := by decide +kernel
theorem dX1_common_95 : decode cX1_common 95 = .ok (.aload_n 0, 1) := by decide +kernel
theorem dX1_common_96 : decode cX1_common 96 = .ok (.aload_n 0, 1) := by decide +kernel
theorem dX1_common_97 : decode cX1_common 97 = .ok (.getfield 7, 3) := by decide +kernel
theorem dX1_common_100 : decode cX1_common 100 = .ok (.iconst 0, 1) := by decide +kernel
theorem dX1_common_101 : decode cX1_common 101 = .ok (.laload, 1) := by decide +kernel
theorem dX1_common_102 : decode cX1_common 102 = .ok (.aload_n 0, 1) := by decide +kernel
theorem dX1_common_103 : decode cX1_common 103 = .ok (.getfield 7, 3) := by decide +kernel
theorem dX1_common_106 : decode cX1_common 106 = .ok (.iconst 1, 1) := by decide +kernel
theorem dX1_common_107 : decode cX1_common 107 = .ok (.laload, 1) := by decide +kernel
theorem dX1_common_108 : decode cX1_common 108 = .ok (.aload_n 0, 1) := by decide +kernel
theorem dX1_common_109 : decode cX1_common 109 = .ok (.getfield 7, 3) := by decide +kernel
theorem dX1_common_112 : decode cX1_common 112 = .ok (.iconst 2, 1) := by decide +kernel
theorem dX1_common_113 : decode cX1_common 113 = .ok (.laload, 1) := by decide +kernel
theorem dX1_common_114 : decode cX1_common 114 = .ok (.aload_n 0, 1) := by decide +kernel
theorem dX1_common_115 : decode cX1_common 115 = .ok (.getfield 7, 3) := by decide +kernel
theorem dX1_common_118 : decode cX1_common 118 = .ok (.iconst 3, 1) := by decide +kernel
theorem dX1_common_119 : decode cX1_common 119 = .ok (.laload, 1) := by decide +kernel
theorem dX1_common_120 : decode cX1_common 120 = .ok (.invokevirtual 97, 3) := by decide +kernel
theorem dX1_common_123 : decode cX1_common 123 = .ok (.goto 43, 3) := by decide +kernel
theorem dX1_common_126 : decode cX1_common 126 = .ok (.aload_n 0, 1) := by decide +kernel
theorem dX1_common_127 : decode cX1_common 127 = .ok (.aload_n 0, 1) := by decide +kernel
theorem dX1_common_128 : decode cX1_common 128 = .ok (.getfield 28, 3) := by decide +kernel
theorem dX1_common_131 : decode cX1_common 131 = .ok (.aload_n 0, 1) := by decide +kernel
theorem dX1_common_132 : decode cX1_common 132 = .ok (.getfield 31, 3) := by decide +kernel
theorem dX1_common_135 : decode cX1_common 135 = .ok (.invokevirtual 101, 3) := by decide +kernel
theorem dX1_common_138 : decode cX1_common 138 = .ok (.aload_n 0, 1) := by decide +kernel
theorem dX1_common_139 : decode cX1_common 139 = .ok (.getfield 28, 3) := by decide +kernel
theorem dX1_common_142 : decode cX1_common 142 = .ok (.astore 5, 2) := by decide +kernel
theorem dX1_common_144 : decode cX1_common 144 = .ok (.aload_n 0, 1) := by decide +kernel
theorem dX1_common_145 : decode cX1_common 145 = .ok (.aload_n 0, 1) := by decide +kernel
theorem dX1_common_146 : decode cX1_common 146 = .ok (.getfield 31, 3) := by decide +kernel
theorem dX1_common_149 : decode cX1_common 149 = .ok (.putfield 28, 3) := by decide +kernel
theorem dX1_common_152 : decode cX1_common 152 = .ok (.aload_n 0, 1) := by decide +kernel
theorem dX1_common_153 : decode cX1_common 153 = .ok (.aload_n 0, 1) := by decide +kernel
theorem dX1_common_154 : decode cX1_common 154 = .ok (.getfield 22, 3) := by decide +kernel
theorem dX1_common_157 : decode cX1_common 157 = .ok (.putfield 31, 3) := by decide +kernel
theorem dX1_common_160 : decode cX1_common 160 = .ok (.aload_n 0, 1) := by decide +kernel
theorem dX1_common_161 : decode cX1_common 161 = .ok (.aload 5, 2) := by decide +kernel
theorem dX1_common_163 : decode cX1_common 163 = .ok (.putfield 22, 3) := by decide +kernel
theorem dX1_common_166 : decode cX1_common 166 = .ok (.iinc 4 1, 3) := by decide +kernel
theorem dX1_common_169 : decode cX1_common 169 = .ok (.goto (-120), 3) := by decide +kernel
theorem dX1_common_172 : decode cX1_common 172 = .ok (.aload_n 0, 1) := by decide +kernel
theorem dX1_common_173 : decode cX1_common 173 = .ok (.getfield 28, 3) := by decide +kernel
theorem dX1_common_176 : decode cX1_common 176 = .ok (.getfield 37, 3) := by decide +kernel
theorem dX1_common_179 : decode cX1_common 179 = .ok (.iconst 2, 1) := by decide +kernel
theorem dX1_common_180 : decode cX1_common 180 = .ok (.if_icmp .gt 27, 3) := by decide +kernel
theorem dX1_common_183 : decode cX1_common 183 = .ok (.aload_n 0, 1) := by decide +kernel
theorem dX1_common_184 : decode cX1_common 184 = .ok (.getfield 28, 3) := by decide +kernel
theorem dX1_common_187 : decode cX1_common 187 = .ok (.aload_n 0, 1) := by decide +kernel
theorem dX1_common_188 : decode cX1_common 188 = .ok (.getfield 28, 3) := by decide +kernel
theorem dX1_common_191 : decode cX1_common 191 = .ok (.invokevirtual 53, 3) := by decide +kernel
theorem dX1_common_194 : decode cX1_common 194 = .ok (.aload_n 0, 1) := by decide +kernel
theorem dX1_common_195 : decode cX1_common 195 = .ok (.getfield 31, 3) := by decide +kernel
theorem dX1_common_198 : decode cX1_common 198 = .ok (.invokevirtual 53, 3) := by decide +kernel
theorem dX1_common_201 : decode cX1_common 201 = .ok (.invokestatic 105, 3) := by decide +kernel
theorem dX1_common_204 : decode cX1_common 204 = .ok (.invokevirtual 45, 3) := by decide +kernel
theorem dX1_common_207 : decode cX1_common 207 = .ok (.return_, 1) := by decide +kernel
def w_Ca_common_126 (C : zC) (n0 : Nat) (Q : zS → Prop) (B49 : Nat → Int32 → zS → Prop) (a0 : Nat) (a4 : Int32) (κ : zS) : Prop :=
  ∀ _ : zT κ a0 = 4,
  ∀ _ : zT κ (zR κ caX a0) = 8,
  ∀ _ : zT κ (zR κ caY a0) = 8,
  zRun C 2 mCa_divide [.ref a0, .ref (zR κ caX a0), .ref (zR κ caY a0)] κ (oV (fun κ1 =>
    ∀ _ : zW C n0 κ1,
    ∀ _ : zM (zn κ) κ κ1,
    ∀ v5_5 : Nat, v5_5 = (zR κ1 caX a0) →
    ∀ κ6, κ6 = ur κ1 caX a0 (zR κ1 caY a0) →
    ∀ _ : zW C n0 κ6,
    ∀ κ8, κ8 = ur κ6 caY a0 (zR κ6 caRest a0) →
    ∀ _ : zW C n0 κ8,
    ∀ κ9, κ9 = ur κ8 caRest a0 v5_5 →
    ∀ _ : zW C n0 κ9,
    ∀ v4_12 : Int32, v4_12 = a4 + (1 : Int32) →
    B49 a0 v4_12 κ9) noX)
theorem t_Ca_common_126 {C : zC} {n0 : Nat} {Q : zS → Prop} {B49 : Nat → Int32 → zS → Prop} (hB49 : ∀ a0' a4' τ, zW C n0 τ → zT τ a0' = 4 → B49 a0' a4' τ → zG C n0 4 mCa_common 49 [some (.ref a0'), none, none, none, some (.int a4'), none] [] τ (oV Q noX)) {a0 : Nat} {a4 : Int32} {κ : zS} (W : zW C n0 κ) (Ta0 : zT κ a0 = 4) (F : w_Ca_common_126 C n0 Q B49 a0 a4 κ) : zG C n0 4 mCa_common 126 [some (.ref a0), none, none, none, some (.int a4), none] [] κ (oV Q noX) := by
  unfold w_Ca_common_126 at F
  refine y_aln dX1_common_126 rfl ?_
  refine y_aln dX1_common_127 rfl ?_
  refine gf_X1_28 W dX1_common_128 rfl Ta0 ?_
  refine y_aln dX1_common_131 rfl ?_
  refine gf_X1_31 W dX1_common_132 rfl Ta0 ?_
  replace F := F Ta0
  replace F := F (ty_caX W Ta0)
  replace F := F (ty_caY W Ta0)
  refine k_X1_101 W dX1_common_135 rfl (Nat.le_of_ble_eq_true rfl) (Nat.le_of_ble_eq_true rfl) (Or.inl Ta0) F (fun  κ1 Wκ1 Mκ1 F => ?_) (fun _ _ h9 => False.elim h9)
  replace F := F Wκ1 Mκ1
  refine y_aln dX1_common_138 rfl ?_
  have h4 := (ztm W Mκ1 Ta0)
  refine gf_X1_28 Wκ1 dX1_common_139 rfl h4 ?_
  refine y_asb dX1_common_142 (Nat.le_of_ble_eq_true rfl) (fun v5_5 ev5_5 => ?_)
  replace F := F v5_5 ev5_5
  have Tv5_5 : zT κ1 v5_5 = 8 := by rw [ev5_5]; exact (ty_caX Wκ1 h4)
  show zG _ _ _ _ _ [some (.ref a0), none, none, none, some (.int a4), some (.ref v5_5)] _ _ _
  refine y_aln dX1_common_144 rfl ?_
  refine y_aln dX1_common_145 rfl ?_
  refine gf_X1_31 Wκ1 dX1_common_146 rfl h4 ?_
  refine pf_X1_28 Wκ1 dX1_common_149 rfl (Or.inl h4) (ty_caY Wκ1 h4) (fun κ6 eκ6 => ?_)
  replace F := F κ6 eκ6
  have Wκ6 : zW C n0 κ6 := zW_ur Wκ1 eκ6 (fun t ht => by cases ht; exact ⟨by decide, (ty_caY Wκ1 h4)⟩)
  have Mκ6 : zM (zn κ1) κ1 κ6 := by rw [eκ6]; exact zM.of rfl rfl rfl
  replace F := F Wκ6
  refine y_aln dX1_common_152 rfl ?_
  refine y_aln dX1_common_153 rfl ?_
  have h7 := (ztm Wκ1 Mκ6 h4)
  refine gf_X1_22 Wκ6 dX1_common_154 rfl h7 ?_
  refine pf_X1_31 Wκ6 dX1_common_157 rfl (Or.inl h7) (ty_caRest Wκ6 h7) (fun κ8 eκ8 => ?_)
  replace F := F κ8 eκ8
  have Wκ8 : zW C n0 κ8 := zW_ur Wκ6 eκ8 (fun t ht => by cases ht; exact ⟨by decide, (ty_caRest Wκ6 h7)⟩)
  have Mκ8 : zM (zn κ6) κ6 κ8 := by rw [eκ8]; exact zM.of rfl rfl rfl
  replace F := F Wκ8
  refine y_aln dX1_common_160 rfl ?_
  refine y_al dX1_common_161 rfl ?_
  have h10 := (ztm Wκ6 Mκ8 (ztm Wκ1 Mκ6 Tv5_5))
  have h11 := (ztm Wκ6 Mκ8 h7)
  refine pf_X1_22 Wκ8 dX1_common_163 rfl (Or.inl h11) h10 (fun κ9 eκ9 => ?_)
  replace F := F κ9 eκ9
  have Wκ9 : zW C n0 κ9 := zW_ur Wκ8 eκ9 (fun t ht => by cases ht; exact ⟨by decide, h10⟩)
  have Mκ9 : zM (zn κ8) κ8 κ9 := by rw [eκ9]; exact zM.of rfl rfl rfl
  replace F := F Wκ9
  refine y_incb dX1_common_166 zi_1 rfl (Nat.le_of_ble_eq_true rfl) (fun v4_12 ev4_12 => ?_)
  replace F := F v4_12 ev4_12
  show zG _ _ _ _ _ [some (.ref a0), none, none, none, some (.int v4_12), some (.ref v5_5)] _ _ _
  refine y_goto dX1_common_169 (t := 49) rfl ?_
  have h13 := (ztm Wκ8 Mκ9 h11)
  exact y_k (hB49 _ _ _ Wκ9 h13 F) ⟨rfl, rfl, trivial⟩

def w_Ca_common_172 (C : zC) (n0 : Nat) (Q : zS → Prop)  (a0 : Nat) (κ : zS) : Prop :=
  ((2 : Int32) < (zI κ nuLength (zR κ caX a0)) →
    Q κ) ∧
  (¬ (2 : Int32) < (zI κ nuLength (zR κ caX a0)) →
    ∀ _ : zT κ (zR κ caX a0) = 8,
    zRun C 0 mNu_small [.ref (zR κ caX a0)] κ (oJ (fun r2 κ1 =>
      ∀ _ : zW C n0 κ1,
      ∀ _ : zM (zn κ) κ κ1,
      ∀ _ : zT κ1 (zR κ1 caY a0) = 8,
      zRun C 0 mNu_small [.ref (zR κ1 caY a0)] κ1 (oJ (fun r6 κ5 =>
        ∀ _ : zW C n0 κ5,
        ∀ _ : zM (zn κ1) κ1 κ5,
        zRun C 0 mCh_commonLong [.long r2, .long r6] κ5 (oJ (fun r9 κ8 =>
          ∀ _ : zW C n0 κ8,
          ∀ _ : zM (zn κ5) κ5 κ8,
          ∀ _ : zT κ8 (zR κ caX a0) = 8,
          zRun C 0 mNu_put [.ref (zR κ caX a0), .long r9] κ8 (oV (fun κ11 =>
            ∀ _ : zW C n0 κ11,
            ∀ _ : zM (zn κ8) κ8 κ11,
            Q κ11) noX)) noX)) noX)) noX))
theorem t_Ca_common_172 {C : zC} {n0 : Nat} {Q : zS → Prop}   {a0 : Nat} {κ : zS} (W : zW C n0 κ) (Ta0 : zT κ a0 = 4) (F : w_Ca_common_172 C n0 Q  a0 κ) : zG C n0 4 mCa_common 172 [some (.ref a0), none, none, none, none, none] [] κ (oV Q noX) := by
  unfold w_Ca_common_172 at F
  refine y_aln dX1_common_172 rfl ?_
  refine gf_X1_28 W dX1_common_173 rfl Ta0 ?_
  refine gf_X1_37 dX1_common_176 rfl (Or.inl (ty_caX W Ta0)) ?_
  refine y_ic dX1_common_179 zi_2 ?_
  refine y_ii ((2 : Int32) < (zI κ nuLength (zR κ caX a0))) dX1_common_180 (t := 207) rfl rfl (fun c9 => ?_) (fun c9 => ?_)
  · replace F := F.1 c9
    exact y_rv W dX1_common_207 rfl F
  · replace F := F.2 c9
    refine y_aln dX1_common_183 rfl ?_
    refine gf_X1_28 W dX1_common_184 rfl Ta0 ?_
    refine y_aln dX1_common_187 rfl ?_
    refine gf_X1_28 W dX1_common_188 rfl Ta0 ?_
    replace F := F (ty_caX W Ta0)
    refine k_X1_53 W dX1_common_191 rfl (Nat.le_of_ble_eq_true rfl) (Nat.le_of_ble_eq_true rfl) (Or.inl (ty_caX W Ta0)) F (fun r2 κ1 Wκ1 Mκ1 F => ?_) (fun _ _ h9 => False.elim h9)
    replace F := F Wκ1 Mκ1
    refine y_aln dX1_common_194 rfl ?_
    have h4 := (ztm W Mκ1 Ta0)
    refine gf_X1_31 Wκ1 dX1_common_195 rfl h4 ?_
    replace F := F (ty_caY Wκ1 h4)
    refine k_X1_53 Wκ1 dX1_common_198 rfl (Nat.le_of_ble_eq_true rfl) (Nat.le_of_ble_eq_true rfl) (Or.inl (ty_caY Wκ1 h4)) F (fun r6 κ5 Wκ5 Mκ5 F => ?_) (fun _ _ h9 => False.elim h9)
    replace F := F Wκ5 Mκ5
    refine k_X1_105 Wκ5 dX1_common_201 rfl (Nat.le_of_ble_eq_true rfl) (Nat.le_of_ble_eq_true rfl)  F (fun r9 κ8 Wκ8 Mκ8 F => ?_) (fun _ _ h9 => False.elim h9)
    replace F := F Wκ8 Mκ8
    have h13 := (ztm Wκ5 Mκ8 (ztm Wκ1 Mκ5 (ztm W Mκ1 (ty_caX W Ta0))))
    replace F := F h13
    refine k_X1_45 Wκ8 dX1_common_204 rfl (Nat.le_of_ble_eq_true rfl) (Nat.le_of_ble_eq_true rfl) (Or.inl h13) F (fun  κ11 Wκ11 Mκ11 F => ?_) (fun _ _ h9 => False.elim h9)
    replace F := F Wκ11 Mκ11
    exact y_rv Wκ11 dX1_common_207 rfl F

def w_Ca_common_49 (C : zC) (n0 : Nat) (Q : zS → Prop)  (a0 : Nat) (a4 : Int32) (κ : zS) : Prop :=
  ∃ I : Nat → Nat → Int32 → zS → Prop, (∃ n, I n a0 a4 κ) ∧ ∀ n a0 a4 κ, zW C n0 κ → zT κ a0 = 4 → I n a0 a4 κ →
    ((1000000 : Int32) ≤ a4 →
      w_Ca_common_172 C n0 Q  a0 κ) ∧
    (¬ (1000000 : Int32) ≤ a4 →
      ((zI κ nuLength (zR κ caY a0)) ≤ (0 : Int32) →
        w_Ca_common_172 C n0 Q  a0 κ) ∧
      (¬ (zI κ nuLength (zR κ caY a0)) ≤ (0 : Int32) →
        ((zI κ nuLength (zR κ caX a0)) ≤ (2 : Int32) →
          w_Ca_common_172 C n0 Q  a0 κ) ∧
        (¬ (zI κ nuLength (zR κ caX a0)) ≤ (2 : Int32) →
          ((zI κ nuLength (zR κ caY a0)) ≤ (2 : Int32) →
            w_Ca_common_126 C n0 Q (fun a0' a4' τ => ∃ k < n, I k a0' a4' τ) a0 a4 κ) ∧
          (¬ (zI κ nuLength (zR κ caY a0)) ≤ (2 : Int32) →
            ∀ _ : zT κ a0 = 4,
            zRun C 1 mCa_leap [.ref a0] κ (oI (fun r2 κ1 =>
              ∀ _ : zW C n0 κ1,
              ∀ _ : zM (zn κ) κ κ1,
              (r2 = (0 : Int32) →
                w_Ca_common_126 C n0 Q (fun a0' a4' τ => ∃ k < n, I k a0' a4' τ) a0 a4 κ1) ∧
              (¬ r2 = (0 : Int32) →
                inb (0 : Int32) (zN κ1 (zR κ1 caFactors a0)) ∧
                inb (1 : Int32) (zN κ1 (zR κ1 caFactors a0)) ∧
                inb (2 : Int32) (zN κ1 (zR κ1 caFactors a0)) ∧
                inb (3 : Int32) (zN κ1 (zR κ1 caFactors a0)) ∧
                ∀ _ : zT κ1 a0 = 4,
                zRun C 3 mCa_blend [.ref a0, .long (zJ κ1 (zR κ1 caFactors a0) ((0 : Int32)).toNatClampNeg), .long (zJ κ1 (zR κ1 caFactors a0) ((1 : Int32)).toNatClampNeg), .long (zJ κ1 (zR κ1 caFactors a0) ((2 : Int32)).toNatClampNeg), .long (zJ κ1 (zR κ1 caFactors a0) ((3 : Int32)).toNatClampNeg)] κ1 (oV (fun κ6 =>
                  ∀ _ : zW C n0 κ6,
                  ∀ _ : zM (zn κ1) κ1 κ6,
                  ∀ v4_9 : Int32, v4_9 = a4 + (1 : Int32) →
                  ∃ k < n, I k a0 v4_9 κ6) noX))) noX)))))
theorem t_Ca_common_49 {C : zC} {n0 : Nat} {Q : zS → Prop}   {a0 : Nat} {a4 : Int32} {κ : zS} (W : zW C n0 κ) (Ta0 : zT κ a0 = 4) (F : w_Ca_common_49 C n0 Q  a0 a4 κ) : zG C n0 4 mCa_common 49 [some (.ref a0), none, none, none, some (.int a4), none] [] κ (oV Q noX) := by
  obtain ⟨I, ⟨m0, hI0⟩, F0⟩ := F
  have key : ∀ n a0 a4 κ, zW C n0 κ → zT κ a0 = 4 → I n a0 a4 κ → zG C n0 4 mCa_common 49 [some (.ref a0), none, none, none, some (.int a4), none] [] κ (oV Q noX) := by
    intro n
    induction n using Nat.strongRecOn with
    | _ n ih =>
      intro a0 a4 κ W Ta0 hI
      have F := F0 n a0 a4 κ W Ta0 hI
      clear hI hI0
      refine y_il dX1_common_49 rfl ?_
      refine y_ldc dX1_common_51 rfl zcn_X1_92 ?_
      refine y_ii ((1000000 : Int32) ≤ a4) dX1_common_53 (t := 172) rfl rfl (fun c9 => ?_) (fun c9 => ?_)
      · replace F := F.1 c9
        exact y_k (t_Ca_common_172  W Ta0 F) ⟨rfl, trivial⟩
      · replace F := F.2 c9
        refine y_aln dX1_common_56 rfl ?_
        refine gf_X1_31 W dX1_common_57 rfl Ta0 ?_
        refine gf_X1_37 dX1_common_60 rfl (Or.inl (ty_caY W Ta0)) ?_
        refine y_i ((zI κ nuLength (zR κ caY a0)) ≤ (0 : Int32)) dX1_common_63 (t := 172) rfl rfl (fun c9 => ?_) (fun c9 => ?_)
        · replace F := F.1 c9
          exact y_k (t_Ca_common_172  W Ta0 F) ⟨rfl, trivial⟩
        · replace F := F.2 c9
          refine y_aln dX1_common_66 rfl ?_
          refine gf_X1_28 W dX1_common_67 rfl Ta0 ?_
          refine gf_X1_37 dX1_common_70 rfl (Or.inl (ty_caX W Ta0)) ?_
          refine y_ic dX1_common_73 zi_2 ?_
          refine y_ii ((zI κ nuLength (zR κ caX a0)) ≤ (2 : Int32)) dX1_common_74 (t := 172) rfl rfl (fun c9 => ?_) (fun c9 => ?_)
          · replace F := F.1 c9
            exact y_k (t_Ca_common_172  W Ta0 F) ⟨rfl, trivial⟩
          · replace F := F.2 c9
            refine y_aln dX1_common_77 rfl ?_
            refine gf_X1_31 W dX1_common_78 rfl Ta0 ?_
            refine gf_X1_37 dX1_common_81 rfl (Or.inl (ty_caY W Ta0)) ?_
            refine y_ic dX1_common_84 zi_2 ?_
            refine y_ii ((zI κ nuLength (zR κ caY a0)) ≤ (2 : Int32)) dX1_common_85 (t := 126) rfl rfl (fun c9 => ?_) (fun c9 => ?_)
            · replace F := F.1 c9
              exact y_k (t_Ca_common_126 (fun a0' a4' τ w9 f09 hb => by obtain ⟨k, hk, hI⟩ := hb; exact ih k hk a0' a4' τ w9 f09 hI) W Ta0 F) ⟨rfl, rfl, trivial⟩
            · replace F := F.2 c9
              refine y_aln dX1_common_88 rfl ?_
              replace F := F Ta0
              refine k_X1_93 W dX1_common_89 rfl (Nat.le_of_ble_eq_true rfl) (Nat.le_of_ble_eq_true rfl) (Or.inl Ta0) F (fun r2 κ1 Wκ1 Mκ1 F => ?_) (fun _ _ h9 => False.elim h9)
              replace F := F Wκ1 Mκ1
              refine y_i (r2 = (0 : Int32)) dX1_common_92 (t := 126) rfl rfl (fun c9 => ?_) (fun c9 => ?_)
              · replace F := F.1 c9
                have h4 := (ztm W Mκ1 Ta0)
                exact y_k (t_Ca_common_126 (fun a0' a4' τ w9 f09 hb => by obtain ⟨k, hk, hI⟩ := hb; exact ih k hk a0' a4' τ w9 f09 hI) Wκ1 h4 F) ⟨rfl, rfl, trivial⟩
              · replace F := F.2 c9
                refine y_aln dX1_common_95 rfl ?_
                refine y_aln dX1_common_96 rfl ?_
                have h5 := (ztm W Mκ1 Ta0)
                refine gf_X1_7 Wκ1 dX1_common_97 rfl h5 ?_
                refine y_ic dX1_common_100 zi_0 ?_
                refine y_lld dX1_common_101 (ty_caFactors Wκ1 h5) F.1 ?_
                replace F := F.2
                refine y_aln dX1_common_102 rfl ?_
                refine gf_X1_7 Wκ1 dX1_common_103 rfl h5 ?_
                refine y_ic dX1_common_106 zi_1 ?_
                refine y_lld dX1_common_107 (ty_caFactors Wκ1 h5) F.1 ?_
                replace F := F.2
                refine y_aln dX1_common_108 rfl ?_
                refine gf_X1_7 Wκ1 dX1_common_109 rfl h5 ?_
                refine y_ic dX1_common_112 zi_2 ?_
                refine y_lld dX1_common_113 (ty_caFactors Wκ1 h5) F.1 ?_
                replace F := F.2
                refine y_aln dX1_common_114 rfl ?_
                refine gf_X1_7 Wκ1 dX1_common_115 rfl h5 ?_
                refine y_ic dX1_common_118 zi_3 ?_
                refine y_lld dX1_common_119 (ty_caFactors Wκ1 h5) F.1 ?_
                replace F := F.2
                replace F := F h5
                refine k_X1_97 Wκ1 dX1_common_120 rfl (Nat.le_of_ble_eq_true rfl) (Nat.le_of_ble_eq_true rfl) (Or.inl h5) F (fun  κ6 Wκ6 Mκ6 F => ?_) (fun _ _ h9 => False.elim h9)
                replace F := F Wκ6 Mκ6
                refine y_goto dX1_common_123 (t := 166) rfl ?_
                refine y_incb dX1_common_166 zi_1 rfl (Nat.le_of_ble_eq_true rfl) (fun v4_9 ev4_9 => ?_)
                replace F := F v4_9 ev4_9
                show zG _ _ _ _ _ [some (.ref a0), none, none, none, some (.int v4_9), none] _ _ _
                refine y_goto dX1_common_169 (t := 49) rfl ?_
                have h10 := (ztm Wκ1 Mκ6 h5)
                obtain ⟨k, hk, hI⟩ := F
                exact y_k (ih k hk _ _ _ Wκ6 h10 hI) ⟨rfl, rfl, trivial⟩
  exact key m0 a0 a4 κ W Ta0 hI0

def w_Ca_common_43 (C : zC) (n0 : Nat) (Q : zS → Prop)  (a0 : Nat) (s0 : Nat) (s1 : Nat) (κ : zS) : Prop :=
  ∀ _ : zT κ s0 = 8,
  ∀ _ : zT κ s1 = 8,
  zRun C 1 mNu_copy [.ref s0, .ref s1] κ (oV (fun κ1 =>
    ∀ _ : zW C n0 κ1,
    ∀ _ : zM (zn κ) κ κ1,
    w_Ca_common_49 C n0 Q  a0 (0 : Int32) κ1) noX)
theorem t_Ca_common_43 {C : zC} {n0 : Nat} {Q : zS → Prop}   {a0 : Nat} {s0 : Nat} {s1 : Nat} {κ : zS} (W : zW C n0 κ) (Ta0 : zT κ a0 = 4) (Ts0 : zT κ s0 = 8) (Ts1 : zT κ s1 = 8) (F : w_Ca_common_43 C n0 Q  a0 s0 s1 κ) : zG C n0 4 mCa_common 43 [some (.ref a0), none, none, none, none, none] [.ref s1, .ref s0] κ (oV Q noX) := by
  unfold w_Ca_common_43 at F
  replace F := F Ts0
  replace F := F Ts1
  refine k_X1_49 W dX1_common_43 rfl (Nat.le_of_ble_eq_true rfl) (Nat.le_of_ble_eq_true rfl) (Or.inl Ts0) F (fun  κ1 Wκ1 Mκ1 F => ?_) (fun _ _ h9 => False.elim h9)
  replace F := F Wκ1 Mκ1
  refine y_ic dX1_common_46 zi_0 ?_
  refine y_is dX1_common_47 (Nat.le_of_ble_eq_true rfl) rfl ?_
  show zG _ _ _ _ _ [some (.ref a0), none, none, none, some (.int (0 : Int32)), none] _ _ _
  have h4 := (ztm W Mκ1 Ta0)
  exact y_k (t_Ca_common_49  Wκ1 h4 F) ⟨rfl, rfl, trivial⟩

def w_Ca_common_27 (C : zC) (n0 : Nat) (Q : zS → Prop)  (a0 : Nat) (a1 : Nat) (a2 : Nat) (a3 : Int32) (s0 : Nat) (s1 : Nat) (κ : zS) : Prop :=
  ∀ _ : zT κ s0 = 8,
  ∀ _ : zT κ s1 = 8,
  zRun C 1 mNu_copy [.ref s0, .ref s1] κ (oV (fun κ1 =>
    ∀ _ : zW C n0 κ1,
    ∀ _ : zM (zn κ) κ κ1,
    (a3 = (0 : Int32) →
      w_Ca_common_43 C n0 Q  a0 (zR κ1 caY a0) a1 κ1) ∧
    (¬ a3 = (0 : Int32) →
      w_Ca_common_43 C n0 Q  a0 (zR κ1 caY a0) a2 κ1)) noX)
theorem t_Ca_common_27 {C : zC} {n0 : Nat} {Q : zS → Prop}   {a0 : Nat} {a1 : Nat} {a2 : Nat} {a3 : Int32} {s0 : Nat} {s1 : Nat} {κ : zS} (W : zW C n0 κ) (Ta0 : zT κ a0 = 4) (Ta1 : zT κ a1 = 8) (Ta2 : zT κ a2 = 8) (Ts0 : zT κ s0 = 8) (Ts1 : zT κ s1 = 8) (F : w_Ca_common_27 C n0 Q  a0 a1 a2 a3 s0 s1 κ) : zG C n0 4 mCa_common 27 [some (.ref a0), some (.ref a1), some (.ref a2), some (.int a3), none, none] [.ref s1, .ref s0] κ (oV Q noX) := by
  unfold w_Ca_common_27 at F
  replace F := F Ts0
  replace F := F Ts1
  refine k_X1_49 W dX1_common_27 rfl (Nat.le_of_ble_eq_true rfl) (Nat.le_of_ble_eq_true rfl) (Or.inl Ts0) F (fun  κ1 Wκ1 Mκ1 F => ?_) (fun _ _ h9 => False.elim h9)
  replace F := F Wκ1 Mκ1
  refine y_aln dX1_common_30 rfl ?_
  have h4 := (ztm W Mκ1 Ta0)
  refine gf_X1_31 Wκ1 dX1_common_31 rfl h4 ?_
  refine y_iln dX1_common_34 rfl ?_
  refine y_i (a3 = (0 : Int32)) dX1_common_35 (t := 42) rfl rfl (fun c9 => ?_) (fun c9 => ?_)
  · replace F := F.1 c9
    refine y_aln dX1_common_42 rfl ?_
    have h5 := (ztm W Mκ1 Ta1)
    exact y_k (t_Ca_common_43  Wκ1 h4 (ty_caY Wκ1 h4) h5 F) ⟨rfl, trivial⟩
  · replace F := F.2 c9
    refine y_aln dX1_common_38 rfl ?_
    refine y_goto dX1_common_39 (t := 43) rfl ?_
    have h6 := (ztm W Mκ1 Ta2)
    exact y_k (t_Ca_common_43  Wκ1 h4 (ty_caY Wκ1 h4) h6 F) ⟨rfl, trivial⟩

def w_Ca_common_13 (C : zC) (n0 : Nat) (Q : zS → Prop)  (a0 : Nat) (a1 : Nat) (a2 : Nat) (s0 : Int32) (κ : zS) : Prop :=
  (s0 = (0 : Int32) →
    w_Ca_common_27 C n0 Q  a0 a1 a2 s0 (zR κ caX a0) a2 κ) ∧
  (¬ s0 = (0 : Int32) →
    w_Ca_common_27 C n0 Q  a0 a1 a2 s0 (zR κ caX a0) a1 κ)
theorem t_Ca_common_13 {C : zC} {n0 : Nat} {Q : zS → Prop}   {a0 : Nat} {a1 : Nat} {a2 : Nat} {s0 : Int32} {κ : zS} (W : zW C n0 κ) (Ta0 : zT κ a0 = 4) (Ta1 : zT κ a1 = 8) (Ta2 : zT κ a2 = 8) (F : w_Ca_common_13 C n0 Q  a0 a1 a2 s0 κ) : zG C n0 4 mCa_common 13 [some (.ref a0), some (.ref a1), some (.ref a2), none, none, none] [.int s0] κ (oV Q noX) := by
  unfold w_Ca_common_13 at F
  refine y_isn dX1_common_13 (Nat.le_of_ble_eq_true rfl) rfl ?_
  show zG _ _ _ _ _ [some (.ref a0), some (.ref a1), some (.ref a2), some (.int s0), none, none] _ _ _
  refine y_aln dX1_common_14 rfl ?_
  refine gf_X1_28 W dX1_common_15 rfl Ta0 ?_
  refine y_iln dX1_common_18 rfl ?_
  refine y_i (s0 = (0 : Int32)) dX1_common_19 (t := 26) rfl rfl (fun c9 => ?_) (fun c9 => ?_)
  · replace F := F.1 c9
    refine y_aln dX1_common_26 rfl ?_
    exact y_k (t_Ca_common_27  W Ta0 Ta1 Ta2 (ty_caX W Ta0) Ta2 F) ⟨rfl, rfl, rfl, rfl, trivial⟩
  · replace F := F.2 c9
    refine y_aln dX1_common_22 rfl ?_
    refine y_goto dX1_common_23 (t := 27) rfl ?_
    exact y_k (t_Ca_common_27  W Ta0 Ta1 Ta2 (ty_caX W Ta0) Ta1 F) ⟨rfl, rfl, rfl, rfl, trivial⟩

def w_Ca_common_0 (C : zC) (n0 : Nat) (Q : zS → Prop)  (a0 : Nat) (a1 : Nat) (a2 : Nat) (κ : zS) : Prop :=
  ∀ _ : zT κ a1 = 8,
  ∀ _ : zT κ a2 = 8,
  zRun C 0 mNu_compare [.ref a1, .ref a2] κ (oI (fun r2 κ1 =>
    ∀ _ : zW C n0 κ1,
    ∀ _ : zM (zn κ) κ κ1,
    (r2 < (0 : Int32) →
      w_Ca_common_13 C n0 Q  a0 a1 a2 (0 : Int32) κ1) ∧
    (¬ r2 < (0 : Int32) →
      w_Ca_common_13 C n0 Q  a0 a1 a2 (1 : Int32) κ1)) noX)
theorem t_Ca_common_0 {C : zC} {n0 : Nat} {Q : zS → Prop}   {a0 : Nat} {a1 : Nat} {a2 : Nat} {κ : zS} (W : zW C n0 κ) (Ta0 : zT κ a0 = 4) (Ta1 : zT κ a1 = 8) (Ta2 : zT κ a2 = 8) (F : w_Ca_common_0 C n0 Q  a0 a1 a2 κ) : zG C n0 4 mCa_common 0 [some (.ref a0), some (.ref a1), some (.ref a2), none, none, none] [] κ (oV Q noX) := by
  unfold w_Ca_common_0 at F
  refine y_aln dX1_common_0 rfl ?_
  refine y_aln dX1_common_1 rfl ?_
  replace F := F Ta1
  replace F := F Ta2
  refine k_X1_41 W dX1_common_2 rfl (Nat.le_of_ble_eq_true rfl) (Nat.le_of_ble_eq_true rfl) (Or.inl Ta1) F (fun r2 κ1 Wκ1 Mκ1 F => ?_) (fun _ _ h9 => False.elim h9)
  replace F := F Wκ1 Mκ1
  refine y_i (r2 < (0 : Int32)) dX1_common_5 (t := 12) rfl rfl (fun c9 => ?_) (fun c9 => ?_)
  · replace F := F.1 c9
    refine y_ic dX1_common_12 zi_0 ?_
    have h4 := (ztm W Mκ1 Ta0)
    have h5 := (ztm W Mκ1 Ta1)
    have h6 := (ztm W Mκ1 Ta2)
    exact y_k (t_Ca_common_13  Wκ1 h4 h5 h6 F) ⟨rfl, rfl, rfl, trivial⟩
  · replace F := F.2 c9
    refine y_ic dX1_common_8 zi_1 ?_
    refine y_goto dX1_common_9 (t := 13) rfl ?_
    have h7 := (ztm W Mκ1 Ta0)
    have h8 := (ztm W Mκ1 Ta1)
    have h9 := (ztm W Mκ1 Ta2)
    exact y_k (t_Ca_common_13  Wκ1 h7 h8 h9 F) ⟨rfl, rfl, rfl, trivial⟩

theorem Ca_common_run {C : zC} {n0 : Nat} {Q : zS → Prop} {a0 : Nat} {a1 : Nat} {a2 : Nat} {κ : zS} (W : zW C n0 κ) (Ta0 : zT κ a0 = 4) (Ta1 : zT κ a1 = 8) (Ta2 : zT κ a2 = 8) (F : w_Ca_common_0 C (zn κ) Q a0 a1 a2 κ) : zRun C 4 mCa_common [.ref a0, .ref a1, .ref a2] κ (oV Q noX) := z_run (m_ent _ 3) (t_Ca_common_0 (W.lo (Nat.le_trans W.1.2.1 W.1.2.2) (Nat.le_refl _)) Ta0 Ta1 Ta2 F)

theorem dX5_isOne_0 : decode cX5_isOne 0 = .ok (.aload_n 0, 1) := by decide +kernel
theorem dX5_isOne_1 : decode cX5_isOne 1 = .ok (.getfield 25, 3) := by decide +kernel
theorem dX5_isOne_4 : decode cX5_isOne 4 = .ok (.iconst 1, 1) := by decide +kernel
theorem dX5_isOne_5 : decode cX5_isOne 5 = .ok (.if_icmp .ne 17, 3) := by decide +kernel
theorem dX5_isOne_8 : decode cX5_isOne 8 = .ok (.aload_n 0, 1) := by decide +kernel
theorem dX5_isOne_9 : decode cX5_isOne 9 = .ok (.getfield 13, 3) := by decide +kernel
theorem dX5_isOne_12 : decode cX5_isOne 12 = .ok (.iconst 0, 1) := by decide +kernel
theorem dX5_isOne_13 : decode cX5_isOne 13 = .ok (.iaload, 1) := by decide +kernel
theorem dX5_isOne_14 : decode cX5_isOne 14 = .ok (.iconst 1, 1) := by decide +kernel
theorem dX5_isOne_15 : decode cX5_isOne 15 = .ok (.if_icmp .ne 7, 3) := by decide +kernel
theorem dX5_isOne_18 : decode cX5_isOne 18 = .ok (.iconst 1, 1) := by decide +kernel
theorem dX5_isOne_19 : decode cX5_isOne 19 = .ok (.goto 4, 3) := by decide +kernel
theorem dX5_isOne_22 : decode cX5_isOne 22 = .ok (.iconst 0, 1) := by decide +kernel
theorem dX5_isOne_23 : decode cX5_isOne 23 = .ok (.ireturn, 1) := by decide +kernel
def w_Nu_isOne_0 (C : zC) (n0 : Nat) (Q : Int32 → zS → Prop)  (a0 : Nat) (κ : zS) : Prop :=
  (¬ (zI κ nuLength a0) = (1 : Int32) →
    Q (0 : Int32) κ) ∧
  ((zI κ nuLength a0) = (1 : Int32) →
    inb (0 : Int32) (zN κ (zR κ nuLimbs a0)) ∧
    (¬ (zA κ (zR κ nuLimbs a0) ((0 : Int32)).toNatClampNeg) = (1 : Int32) →
      Q (0 : Int32) κ) ∧
    ((zA κ (zR κ nuLimbs a0) ((0 : Int32)).toNatClampNeg) = (1 : Int32) →
      Q (1 : Int32) κ))
theorem t_Nu_isOne_0 {C : zC} {n0 : Nat} {Q : Int32 → zS → Prop}   {a0 : Nat} {κ : zS} (W : zW C n0 κ) (Ta0 : zT κ a0 = 8) (F : w_Nu_isOne_0 C n0 Q  a0 κ) : zG C n0 0 mNu_isOne 0 [some (.ref a0)] [] κ (oI Q noX) := by
  unfold w_Nu_isOne_0 at F
  refine y_aln dX5_isOne_0 rfl ?_
  refine gf_X5_25 dX5_isOne_1 rfl (Or.inl Ta0) ?_
  refine y_ic dX5_isOne_4 zi_1 ?_
  refine y_iin ((zI κ nuLength a0) = (1 : Int32)) dX5_isOne_5 (t := 22) rfl rfl (fun c9 => ?_) (fun c9 => ?_)
  · replace F := F.1 c9
    refine y_ic dX5_isOne_22 zi_0 ?_
    exact y_ri W dX5_isOne_23 rfl (nb_nar nb_0) F
  · replace F := F.2 c9
    refine y_aln dX5_isOne_8 rfl ?_
    refine gf_X5_13 W dX5_isOne_9 rfl Ta0 ?_
    refine y_ic dX5_isOne_12 zi_0 ?_
    refine y_ald dX5_isOne_13 (ty_nuLimbs W Ta0) F.1 ?_
    replace F := F.2
    refine y_ic dX5_isOne_14 zi_1 ?_
    refine y_iin ((zA κ (zR κ nuLimbs a0) ((0 : Int32)).toNatClampNeg) = (1 : Int32)) dX5_isOne_15 (t := 22) rfl rfl (fun c9 => ?_) (fun c9 => ?_)
    · replace F := F.1 c9
      refine y_ic dX5_isOne_22 zi_0 ?_
      exact y_ri W dX5_isOne_23 rfl (nb_nar nb_0) F
    · replace F := F.2 c9
      refine y_ic dX5_isOne_18 zi_1 ?_
      refine y_goto dX5_isOne_19 (t := 23) rfl ?_
      exact y_ri W dX5_isOne_23 rfl (nb_nar nb_1) F

theorem Nu_isOne_run {C : zC} {n0 : Nat} {Q : Int32 → zS → Prop} {a0 : Nat} {κ : zS} (W : zW C n0 κ) (Ta0 : zT κ a0 = 8) (F : w_Nu_isOne_0 C (zn κ) Q a0 κ) : zRun C 0 mNu_isOne [.ref a0] κ (oI Q noX) := z_run (m_ent _ 0) (t_Nu_isOne_0 (W.lo (Nat.le_trans W.1.2.1 W.1.2.2) (Nat.le_refl _)) Ta0 F)

theorem dX1_reduce_0 : decode cX1_reduce 0 = .ok (.aload_n 0, 1) := by decide +kernel
theorem dX1_reduce_1 : decode cX1_reduce 1 = .ok (.aload_n 1, 1) := by decide +kernel
theorem dX1_reduce_2 : decode cX1_reduce 2 = .ok (.aload_n 2, 1) := by decide +kernel
theorem dX1_reduce_3 : decode cX1_reduce 3 = .ok (.invokevirtual 129, 3) := by decide +kernel
theorem dX1_reduce_6 : decode cX1_reduce 6 = .ok (.aload_n 0, 1) := by decide +kernel
theorem dX1_reduce_7 : decode cX1_reduce 7 = .ok (.getfield 28, 3) := by decide +kernel
theorem dX1_reduce_10 : decode cX1_reduce 10 = .ok (.invokevirtual 132, 3) := by decide +kernel
theorem dX1_reduce_13 : decode cX1_reduce 13 = .ok (.ifCond .ne 47, 3) := by decide +kernel
theorem dX1_reduce_16 : decode cX1_reduce 16 = .ok (.aload_n 0, 1) := by decide +kernel
theorem dX1_reduce_17 : decode cX1_reduce 17 = .ok (.getfield 28, 3) := by decide +kernel
theorem dX1_reduce_20 : decode cX1_reduce 20 = .ok (.getfield 37, 3) := by decide +kernel
theorem dX1_reduce_23 : decode cX1_reduce 23 = .ok (.ifCond .le 37, 3) := by decide +kernel
theorem dX1_reduce_26 : decode cX1_reduce 26 = .ok (.aload_n 0, 1) := by decide +kernel
theorem dX1_reduce_27 : decode cX1_reduce 27 = .ok (.aload_n 1, 1) := by decide +kernel
theorem dX1_reduce_28 : decode cX1_reduce 28 = .ok (.aload_n 0, 1) := by decide +kernel
theorem dX1_reduce_29 : decode cX1_reduce 29 = .ok (.getfield 28, 3) := by decide +kernel
theorem dX1_reduce_32 : decode cX1_reduce 32 = .ok (.invokevirtual 101, 3) := by decide +kernel
theorem dX1_reduce_35 : decode cX1_reduce 35 = .ok (.aload_n 1, 1) := by decide +kernel
theorem dX1_reduce_36 : decode cX1_reduce 36 = .ok (.aload_n 0, 1) := by decide +kernel
theorem dX1_reduce_37 : decode cX1_reduce 37 = .ok (.getfield 18, 3) := by decide +kernel
theorem dX1_reduce_40 : decode cX1_reduce 40 = .ok (.invokevirtual 49, 3) := by decide +kernel
theorem dX1_reduce_43 : decode cX1_reduce 43 = .ok (.aload_n 0, 1) := by decide +kernel
theorem dX1_reduce_44 : decode cX1_reduce 44 = .ok (.aload_n 2, 1) := by decide +kernel
theorem dX1_reduce_45 : decode cX1_reduce 45 = .ok (.aload_n 0, 1) := by decide +kernel
theorem dX1_reduce_46 : decode cX1_reduce 46 = .ok (.getfield 28, 3) := by decide +kernel
theorem dX1_reduce_49 : decode cX1_reduce 49 = .ok (.invokevirtual 101, 3) := by decide +kernel
theorem dX1_reduce_52 : decode cX1_reduce 52 = .ok (.aload_n 2, 1) := by decide +kernel
theorem dX1_reduce_53 : decode cX1_reduce 53 = .ok (.aload_n 0, 1) := by decide +kernel
theorem dX1_reduce_54 : decode cX1_reduce 54 = .ok (.getfield 18, 3) := by decide +kernel
theorem dX1_reduce_57 : decode cX1_reduce 57 = .ok (.invokevirtual 49, 3) := by decide +kernel
theorem dX1_reduce_60 : decode cX1_reduce 60 = .ok (.return_, 1) := by decide +kernel
def w_Ca_reduce_0 (C : zC) (n0 : Nat) (Q : zS → Prop)  (a0 : Nat) (a1 : Nat) (a2 : Nat) (κ : zS) : Prop :=
  ∀ _ : zT κ a0 = 4,
  ∀ _ : zT κ a1 = 8,
  ∀ _ : zT κ a2 = 8,
  zRun C 4 mCa_common [.ref a0, .ref a1, .ref a2] κ (oV (fun κ1 =>
    ∀ _ : zW C n0 κ1,
    ∀ _ : zM (zn κ) κ κ1,
    ∀ _ : zT κ1 (zR κ1 caX a0) = 8,
    zRun C 0 mNu_isOne [.ref (zR κ1 caX a0)] κ1 (oI (fun r6 κ5 =>
      ∀ _ : zW C n0 κ5,
      ∀ _ : zM (zn κ1) κ1 κ5,
      (¬ r6 = (0 : Int32) →
        Q κ5) ∧
      (r6 = (0 : Int32) →
        ((zI κ5 nuLength (zR κ5 caX a0)) ≤ (0 : Int32) →
          Q κ5) ∧
        (¬ (zI κ5 nuLength (zR κ5 caX a0)) ≤ (0 : Int32) →
          ∀ _ : zT κ5 a0 = 4,
          ∀ _ : zT κ5 a1 = 8,
          ∀ _ : zT κ5 (zR κ5 caX a0) = 8,
          zRun C 2 mCa_divide [.ref a0, .ref a1, .ref (zR κ5 caX a0)] κ5 (oV (fun κ9 =>
            ∀ _ : zW C n0 κ9,
            ∀ _ : zM (zn κ5) κ5 κ9,
            ∀ _ : zT κ9 a1 = 8,
            ∀ _ : zT κ9 (zR κ9 caQuotient a0) = 8,
            zRun C 1 mNu_copy [.ref a1, .ref (zR κ9 caQuotient a0)] κ9 (oV (fun κ14 =>
              ∀ _ : zW C n0 κ14,
              ∀ _ : zM (zn κ9) κ9 κ14,
              ∀ _ : zT κ14 a0 = 4,
              ∀ _ : zT κ14 a2 = 8,
              ∀ _ : zT κ14 (zR κ14 caX a0) = 8,
              zRun C 2 mCa_divide [.ref a0, .ref a2, .ref (zR κ14 caX a0)] κ14 (oV (fun κ19 =>
                ∀ _ : zW C n0 κ19,
                ∀ _ : zM (zn κ14) κ14 κ19,
                ∀ _ : zT κ19 a2 = 8,
                ∀ _ : zT κ19 (zR κ19 caQuotient a0) = 8,
                zRun C 1 mNu_copy [.ref a2, .ref (zR κ19 caQuotient a0)] κ19 (oV (fun κ24 =>
                  ∀ _ : zW C n0 κ24,
                  ∀ _ : zM (zn κ19) κ19 κ24,
                  Q κ24) noX)) noX)) noX)) noX)))) noX)) noX)
theorem t_Ca_reduce_0 {C : zC} {n0 : Nat} {Q : zS → Prop}   {a0 : Nat} {a1 : Nat} {a2 : Nat} {κ : zS} (W : zW C n0 κ) (Ta0 : zT κ a0 = 4) (Ta1 : zT κ a1 = 8) (Ta2 : zT κ a2 = 8) (F : w_Ca_reduce_0 C n0 Q  a0 a1 a2 κ) : zG C n0 5 mCa_reduce 0 [some (.ref a0), some (.ref a1), some (.ref a2)] [] κ (oV Q noX) := by
  unfold w_Ca_reduce_0 at F
  refine y_aln dX1_reduce_0 rfl ?_
  refine y_aln dX1_reduce_1 rfl ?_
  refine y_aln dX1_reduce_2 rfl ?_
  replace F := F Ta0
  replace F := F Ta1
  replace F := F Ta2
  refine k_X1_129 W dX1_reduce_3 rfl (Nat.le_of_ble_eq_true rfl) (Nat.le_of_ble_eq_true rfl) (Or.inl Ta0) F (fun  κ1 Wκ1 Mκ1 F => ?_) (fun _ _ h9 => False.elim h9)
  replace F := F Wκ1 Mκ1
  refine y_aln dX1_reduce_6 rfl ?_
  have h4 := (ztm W Mκ1 Ta0)
  refine gf_X1_28 Wκ1 dX1_reduce_7 rfl h4 ?_
  replace F := F (ty_caX Wκ1 h4)
  refine k_X1_132 Wκ1 dX1_reduce_10 rfl (Nat.le_of_ble_eq_true rfl) (Nat.le_of_ble_eq_true rfl) (Or.inl (ty_caX Wκ1 h4)) F (fun r6 κ5 Wκ5 Mκ5 F => ?_) (fun _ _ h9 => False.elim h9)
  replace F := F Wκ5 Mκ5
  refine y_in (r6 = (0 : Int32)) dX1_reduce_13 (t := 60) rfl rfl (fun c9 => ?_) (fun c9 => ?_)
  · replace F := F.1 c9
    exact y_rv Wκ5 dX1_reduce_60 rfl F
  · replace F := F.2 c9
    refine y_aln dX1_reduce_16 rfl ?_
    have h8 := (ztm Wκ1 Mκ5 h4)
    refine gf_X1_28 Wκ5 dX1_reduce_17 rfl h8 ?_
    refine gf_X1_37 dX1_reduce_20 rfl (Or.inl (ty_caX Wκ5 h8)) ?_
    refine y_i ((zI κ5 nuLength (zR κ5 caX a0)) ≤ (0 : Int32)) dX1_reduce_23 (t := 60) rfl rfl (fun c9 => ?_) (fun c9 => ?_)
    · replace F := F.1 c9
      exact y_rv Wκ5 dX1_reduce_60 rfl F
    · replace F := F.2 c9
      refine y_aln dX1_reduce_26 rfl ?_
      refine y_aln dX1_reduce_27 rfl ?_
      refine y_aln dX1_reduce_28 rfl ?_
      refine gf_X1_28 Wκ5 dX1_reduce_29 rfl h8 ?_
      replace F := F h8
      have h11 := (ztm Wκ1 Mκ5 (ztm W Mκ1 Ta1))
      replace F := F h11
      replace F := F (ty_caX Wκ5 h8)
      refine k_X1_101 Wκ5 dX1_reduce_32 rfl (Nat.le_of_ble_eq_true rfl) (Nat.le_of_ble_eq_true rfl) (Or.inl h8) F (fun  κ9 Wκ9 Mκ9 F => ?_) (fun _ _ h9 => False.elim h9)
      replace F := F Wκ9 Mκ9
      refine y_aln dX1_reduce_35 rfl ?_
      refine y_aln dX1_reduce_36 rfl ?_
      have h13 := (ztm Wκ5 Mκ9 h8)
      refine gf_X1_18 Wκ9 dX1_reduce_37 rfl h13 ?_
      have h16 := (ztm Wκ5 Mκ9 h11)
      replace F := F h16
      replace F := F (ty_caQuotient Wκ9 h13)
      refine k_X1_49 Wκ9 dX1_reduce_40 rfl (Nat.le_of_ble_eq_true rfl) (Nat.le_of_ble_eq_true rfl) (Or.inl h16) F (fun  κ14 Wκ14 Mκ14 F => ?_) (fun _ _ h9 => False.elim h9)
      replace F := F Wκ14 Mκ14
      refine y_aln dX1_reduce_43 rfl ?_
      refine y_aln dX1_reduce_44 rfl ?_
      refine y_aln dX1_reduce_45 rfl ?_
      have h18 := (ztm Wκ9 Mκ14 h13)
      refine gf_X1_28 Wκ14 dX1_reduce_46 rfl h18 ?_
      replace F := F h18
      have h21 := (ztm Wκ9 Mκ14 (ztm Wκ5 Mκ9 (ztm Wκ1 Mκ5 (ztm W Mκ1 Ta2))))
      replace F := F h21
      replace F := F (ty_caX Wκ14 h18)
      refine k_X1_101 Wκ14 dX1_reduce_49 rfl (Nat.le_of_ble_eq_true rfl) (Nat.le_of_ble_eq_true rfl) (Or.inl h18) F (fun  κ19 Wκ19 Mκ19 F => ?_) (fun _ _ h9 => False.elim h9)
      replace F := F Wκ19 Mκ19
      refine y_aln dX1_reduce_52 rfl ?_
      refine y_aln dX1_reduce_53 rfl ?_
      have h23 := (ztm Wκ14 Mκ19 h18)
      refine gf_X1_18 Wκ19 dX1_reduce_54 rfl h23 ?_
      have h26 := (ztm Wκ14 Mκ19 h21)
      replace F := F h26
      replace F := F (ty_caQuotient Wκ19 h23)
      refine k_X1_49 Wκ19 dX1_reduce_57 rfl (Nat.le_of_ble_eq_true rfl) (Nat.le_of_ble_eq_true rfl) (Or.inl h26) F (fun  κ24 Wκ24 Mκ24 F => ?_) (fun _ _ h9 => False.elim h9)
      replace F := F Wκ24 Mκ24
      exact y_rv Wκ24 dX1_reduce_60 rfl F

theorem Ca_reduce_run {C : zC} {n0 : Nat} {Q : zS → Prop} {a0 : Nat} {a1 : Nat} {a2 : Nat} {κ : zS} (W : zW C n0 κ) (Ta0 : zT κ a0 = 4) (Ta1 : zT κ a1 = 8) (Ta2 : zT κ a2 = 8) (F : w_Ca_reduce_0 C (zn κ) Q a0 a1 a2 κ) : zRun C 5 mCa_reduce [.ref a0, .ref a1, .ref a2] κ (oV Q noX) := z_run (m_ent _ 0) (t_Ca_reduce_0 (W.lo (Nat.le_trans W.1.2.1 W.1.2.2) (Nat.le_refl _)) Ta0 Ta1 Ta2 F)

theorem dX5_trim_0 : decode cX5_trim 0 = .ok (.aload_n 0, 1) := by decide +kernel
theorem dX5_trim_1 : decode cX5_trim 1 = .ok (.getfield 25, 3) := by decide +kernel
theorem dX5_trim_4 : decode cX5_trim 4 = .ok (.ifCond .le 30, 3) := by decide +kernel
theorem dX5_trim_7 : decode cX5_trim 7 = .ok (.aload_n 0, 1) := by decide +kernel
theorem dX5_trim_8 : decode cX5_trim 8 = .ok (.getfield 13, 3) := by decide +kernel
theorem dX5_trim_11 : decode cX5_trim 11 = .ok (.aload_n 0, 1) := by decide +kernel
theorem dX5_trim_12 : decode cX5_trim 12 = .ok (.getfield 25, 3) := by decide +kernel
theorem dX5_trim_15 : decode cX5_trim 15 = .ok (.iconst 1, 1) := by decide +kernel
theorem dX5_trim_16 : decode cX5_trim 16 = .ok (.isub, 1) := by decide +kernel
theorem dX5_trim_17 : decode cX5_trim 17 = .ok (.iaload, 1) := by decide +kernel
theorem dX5_trim_18 : decode cX5_trim 18 = .ok (.ifCond .ne 16, 3) := by decide +kernel
theorem dX5_trim_21 : decode cX5_trim 21 = .ok (.aload_n 0, 1) := by decide +kernel
theorem dX5_trim_22 : decode cX5_trim 22 = .ok (.dup, 1) := by decide +kernel
theorem dX5_trim_23 : decode cX5_trim 23 = .ok (.getfield 25, 3) := by decide +kernel
theorem dX5_trim_26 : decode cX5_trim 26 = .ok (.iconst 1, 1) := by decide +kernel
theorem dX5_trim_27 : decode cX5_trim 27 = .ok (.isub, 1) := by decide +kernel
theorem dX5_trim_28 : decode cX5_trim 28 = .ok (.putfield 25, 3) := by decide +kernel
theorem dX5_trim_31 : decode cX5_trim 31 = .ok (.goto (-31), 3) := by decide +kernel
theorem dX5_trim_34 : decode cX5_trim 34 = .ok (.return_, 1) := by decide +kernel
def w_Nu_trim_0 (C : zC) (n0 : Nat) (Q : zS → Prop)  (a0 : Nat) (κ : zS) : Prop :=
  ∃ I : Nat → Nat → zS → Prop, (∃ n, I n a0 κ) ∧ ∀ n a0 κ, zW C n0 κ → zT κ a0 = 8 → I n a0 κ →
    ((zI κ nuLength a0) ≤ (0 : Int32) →
      Q κ) ∧
    (¬ (zI κ nuLength a0) ≤ (0 : Int32) →
      inb ((zI κ nuLength a0) - (1 : Int32)) (zN κ (zR κ nuLimbs a0)) ∧
      (¬ (zA κ (zR κ nuLimbs a0) (((zI κ nuLength a0) - (1 : Int32))).toNatClampNeg) = (0 : Int32) →
        Q κ) ∧
      ((zA κ (zR κ nuLimbs a0) (((zI κ nuLength a0) - (1 : Int32))).toNatClampNeg) = (0 : Int32) →
        ∀ κ1, κ1 = ui κ nuLength a0 ((zI κ nuLength a0) - (1 : Int32)) →
        ∀ _ : zW C n0 κ1,
        ∃ k < n, I k a0 κ1))
theorem t_Nu_trim_0 {C : zC} {n0 : Nat} {Q : zS → Prop}   {a0 : Nat} {κ : zS} (W : zW C n0 κ) (Ta0 : zT κ a0 = 8) (F : w_Nu_trim_0 C n0 Q  a0 κ) : zG C n0 0 mNu_trim 0 [some (.ref a0)] [] κ (oV Q noX) := by
  obtain ⟨I, ⟨m0, hI0⟩, F0⟩ := F
  have key : ∀ n a0 κ, zW C n0 κ → zT κ a0 = 8 → I n a0 κ → zG C n0 0 mNu_trim 0 [some (.ref a0)] [] κ (oV Q noX) := by
    intro n
    induction n using Nat.strongRecOn with
    | _ n ih =>
      intro a0 κ W Ta0 hI
      have F := F0 n a0 κ W Ta0 hI
      clear hI hI0
      refine y_aln dX5_trim_0 rfl ?_
      refine gf_X5_25 dX5_trim_1 rfl (Or.inl Ta0) ?_
      refine y_i ((zI κ nuLength a0) ≤ (0 : Int32)) dX5_trim_4 (t := 34) rfl rfl (fun c9 => ?_) (fun c9 => ?_)
      · replace F := F.1 c9
        exact y_rv W dX5_trim_34 rfl F
      · replace F := F.2 c9
        refine y_aln dX5_trim_7 rfl ?_
        refine gf_X5_13 W dX5_trim_8 rfl Ta0 ?_
        refine y_aln dX5_trim_11 rfl ?_
        refine gf_X5_25 dX5_trim_12 rfl (Or.inl Ta0) ?_
        refine y_ic dX5_trim_15 zi_1 ?_
        refine y_isub dX5_trim_16 ?_
        refine y_ald dX5_trim_17 (ty_nuLimbs W Ta0) F.1 ?_
        replace F := F.2
        refine y_in ((zA κ (zR κ nuLimbs a0) (((zI κ nuLength a0) - (1 : Int32))).toNatClampNeg) = (0 : Int32)) dX5_trim_18 (t := 34) rfl rfl (fun c9 => ?_) (fun c9 => ?_)
        · replace F := F.1 c9
          exact y_rv W dX5_trim_34 rfl F
        · replace F := F.2 c9
          refine y_aln dX5_trim_21 rfl ?_
          refine y_dup dX5_trim_22 rfl ?_
          refine gf_X5_25 dX5_trim_23 rfl (Or.inl Ta0) ?_
          refine y_ic dX5_trim_26 zi_1 ?_
          refine y_isub dX5_trim_27 ?_
          refine pf_X5_25 W dX5_trim_28 rfl (Or.inl Ta0) (fun κ1 eκ1 => ?_)
          replace F := F κ1 eκ1
          have Wκ1 : zW C n0 κ1 := zW_ui W eκ1 (fun h => absurd h (by decide))
          have Mκ1 : zM (zn κ) κ κ1 := by rw [eκ1]; exact zM.of rfl rfl rfl
          replace F := F Wκ1
          refine y_goto dX5_trim_31 (t := 0) rfl ?_
          have h2 := (ztm W Mκ1 Ta0)
          obtain ⟨k, hk, hI⟩ := F
          exact y_k (ih k hk _ _ Wκ1 h2 hI) ⟨rfl, trivial⟩
  exact key m0 a0 κ W Ta0 hI0

theorem Nu_trim_run {C : zC} {n0 : Nat} {Q : zS → Prop} {a0 : Nat} {κ : zS} (W : zW C n0 κ) (Ta0 : zT κ a0 = 8) (F : w_Nu_trim_0 C (zn κ) Q a0 κ) : zRun C 0 mNu_trim [.ref a0] κ (oV Q noX) := z_run (m_ent _ 0) (t_Nu_trim_0 (W.lo (Nat.le_trans W.1.2.1 W.1.2.2) (Nat.le_refl _)) Ta0 F)

theorem dX5_product_0 : decode cX5_product 0 = .ok (.aload_n 1, 1) := by decide +kernel
theorem dX5_product_1 : decode cX5_product 1 = .ok (.getfield 25, 3) := by decide +kernel
theorem dX5_product_4 : decode cX5_product 4 = .ok (.aload_n 2, 1) := by decide +kernel
theorem dX5_product_5 : decode cX5_product 5 = .ok (.getfield 25, 3) := by decide +kernel
theorem dX5_product_8 : decode cX5_product 8 = .ok (.iadd, 1) := by decide +kernel
theorem dX5_product_9 : decode cX5_product 9 = .ok (.istore_n 3, 1) := by decide +kernel
theorem dX5_product_10 : decode cX5_product 10 = .ok (.aload_n 0, 1) := by decide +kernel
theorem dX5_product_11 : decode cX5_product 11 = .ok (.iload_n 3, 1) := by decide +kernel
theorem dX5_product_12 : decode cX5_product 12 = .ok (.invokevirtual 41, 3) := by decide +kernel
theorem dX5_product_15 : decode cX5_product 15 = .ok (.aload_n 0, 1) := by decide +kernel
theorem dX5_product_16 : decode cX5_product 16 = .ok (.getfield 13, 3) := by decide +kernel
theorem dX5_product_19 : decode cX5_product 19 = .ok (.astore 4, 2) := by decide +kernel
theorem dX5_product_21 : decode cX5_product 21 = .ok (.aload_n 2, 1) := by decide +kernel
theorem dX5_product_22 : decode cX5_product 22 = .ok (.getfield 13, 3) := by decide +kernel
theorem dX5_product_25 : decode cX5_product 25 = .ok (.astore 5, 2) := by decide +kernel
theorem dX5_product_27 : decode cX5_product 27 = .ok (.aload 4, 2) := by decide +kernel
theorem dX5_product_29 : decode cX5_product 29 = .ok (.iconst 0, 1) := by decide +kernel
theorem dX5_product_30 : decode cX5_product 30 = .ok (.iload_n 3, 1) := by decide +kernel
theorem dX5_product_31 : decode cX5_product 31 = .ok (.iconst 0, 1) := by decide +kernel
theorem dX5_product_32 : decode cX5_product 32 = .ok (.invokestatic 48, 3) := by decide +kernel
theorem dX5_product_35 : decode cX5_product 35 = .ok (.iconst 0, 1) := by decide +kernel
theorem dX5_product_36 : decode cX5_product 36 = .ok (.istore 6, 2) := by decide +kernel
theorem dX5_product_38 : decode cX5_product 38 = .ok (.iload 6, 2) := by decide +kernel
theorem dX5_product_40 : decode cX5_product 40 = .ok (.aload_n 1, 1) := by decide +kernel
theorem dX5_product_41 : decode cX5_product 41 = .ok (.getfield 25, 3) := by decide +kernel
theorem dX5_product_44 : decode cX5_product 44 = .ok (.if_icmp .ge 99, 3) := by decide +kernel
theorem dX5_product_47 : decode cX5_product 47 = .ok (.aload_n 1, 1) := by decide +kernel
theorem dX5_product_48 : decode cX5_product 48 = .ok (.getfield 13, 3) := by decide +kernel
theorem dX5_product_51 : decode cX5_product 51 = .ok (.iload 6, 2) := by decide +kernel
theorem dX5_product_53 : decode cX5_product 53 = .ok (.iaload, 1) := by decide +kernel
theorem dX5_product_54 : decode cX5_product 54 = .ok (.i2l, 1) := by decide +kernel
theorem dX5_product_55 : decode cX5_product 55 = .ok (.lstore 7, 2) := by decide +kernel
theorem dX5_product_57 : decode cX5_product 57 = .ok (.lconst 0, 1) := by decide +kernel
theorem dX5_product_58 : decode cX5_product 58 = .ok (.lstore 9, 2) := by decide +kernel
theorem dX5_product_60 : decode cX5_product 60 = .ok (.iconst 0, 1) := by decide +kernel
theorem dX5_product_61 : decode cX5_product 61 = .ok (.istore 11, 2) := by decide +kernel
theorem dX5_product_63 : decode cX5_product 63 = .ok (.iload 11, 2) := by decide +kernel
theorem dX5_product_65 : decode cX5_product 65 = .ok (.aload_n 2, 1) := by decide +kernel
theorem dX5_product_66 : decode cX5_product 66 = .ok (.getfield 25, 3) := by decide +kernel
theorem dX5_product_69 : decode cX5_product 69 = .ok (.if_icmp .ge 55, 3) := by decide +kernel
theorem dX5_product_72 : decode cX5_product 72 = .ok (.lload 7, 2) := by decide +kernel
theorem dX5_product_74 : decode cX5_product 74 = .ok (.aload 5, 2) := by decide +kernel
theorem dX5_product_76 : decode cX5_product 76 = .ok (.iload 11, 2) := by decide +kernel
theorem dX5_product_78 : decode cX5_product 78 = .ok (.iaload, 1) := by decide +kernel
theorem dX5_product_79 : decode cX5_product 79 = .ok (.i2l, 1) := by decide +kernel
theorem dX5_product_80 : decode cX5_product 80 = .ok (.lmul, 1) := by decide +kernel
theorem dX5_product_81 : decode cX5_product 81 = .ok (.aload 4, 2) := by decide +kernel
theorem dX5_product_83 : decode cX5_product 83 = .ok (.iload 6, 2) := by decide +kernel
theorem dX5_product_85 : decode cX5_product 85 = .ok (.iload 11, 2) := by decide +kernel
theorem dX5_product_87 : decode cX5_product 87 = .ok (.iadd, 1) := by decide +kernel
theorem dX5_product_88 : decode cX5_product 88 = .ok (.iaload, 1) := by decide +kernel
theorem dX5_product_89 : decode cX5_product 89 = .ok (.i2l, 1) := by decide +kernel
theorem dX5_product_90 : decode cX5_product 90 = .ok (.ladd, 1) := by decide +kernel
theorem dX5_product_91 : decode cX5_product 91 = .ok (.lload 9, 2) := by decide +kernel
theorem dX5_product_93 : decode cX5_product 93 = .ok (.ladd, 1) := by decide +kernel
theorem dX5_product_94 : decode cX5_product 94 = .ok (.lstore 12, 2) := by decide +kernel
theorem dX5_product_96 : decode cX5_product 96 = .ok (.aload 4, 2) := by decide +kernel
theorem dX5_product_98 : decode cX5_product 98 = .ok (.iload 6, 2) := by decide +kernel
theorem dX5_product_100 : decode cX5_product 100 = .ok (.iload 11, 2) := by decide +kernel
theorem dX5_product_102 : decode cX5_product 102 = .ok (.iadd, 1) := by decide +kernel
theorem dX5_product_103 : decode cX5_product 103 = .ok (.lload 12, 2) := by decide +kernel
theorem dX5_product_105 : decode cX5_product 105 = .ok (.ldc2_w 29, 3) := by decide +kernel
theorem dX5_product_108 : decode cX5_product 108 = .ok (.land, 1) := by decide +kernel
theorem dX5_product_109 : decode cX5_product 109 = .ok (.l2i, 1) := by decide +kernel
theorem dX5_product_110 : decode cX5_product 110 = .ok (.iastore, 1) := by decide +kernel
theorem dX5_product_111 : decode cX5_product 111 = .ok (.lload 12, 2) := by decide +kernel
theorem dX5_product_113 : decode cX5_product 113 = .ok (.bipush 31, 2) := by decide +kernel
theorem dX5_product_115 : decode cX5_product 115 = .ok (.lushr, 1) := by decide +kernel
theorem dX5_product_116 : decode cX5_product 116 = .ok (.lstore 9, 2) := by decide +kernel
theorem dX5_product_118 : decode cX5_product 118 = .ok (.iinc 11 1, 3) := by decide +kernel
theorem dX5_product_121 : decode cX5_product 121 = .ok (.goto (-58), 3) := by decide +kernel
theorem dX5_product_124 : decode cX5_product 124 = .ok (.aload 4, 2) := by decide +kernel
theorem dX5_product_126 : decode cX5_product 126 = .ok (.iload 6, 2) := by decide +kernel
theorem dX5_product_128 : decode cX5_product 128 = .ok (.aload_n 2, 1) := by decide +kernel
theorem dX5_product_129 : decode cX5_product 129 = .ok (.getfield 25, 3) := by decide +kernel
theorem dX5_product_132 : decode cX5_product 132 = .ok (.iadd, 1) := by decide +kernel
theorem dX5_product_133 : decode cX5_product 133 = .ok (.lload 9, 2) := by decide +kernel
theorem dX5_product_135 : decode cX5_product 135 = .ok (.l2i, 1) := by decide +kernel
theorem dX5_product_136 : decode cX5_product 136 = .ok (.iastore, 1) := by decide +kernel
theorem dX5_product_137 : decode cX5_product 137 = .ok (.iinc 6 1, 3) := by decide +kernel
theorem dX5_product_140 : decode cX5_product 140 = .ok (.goto (-102), 3) := by decide +kernel
theorem dX5_product_143 : decode cX5_product 143 = .ok (.aload_n 0, 1) := by decide +kernel
theorem dX5_product_144 : decode cX5_product 144 = .ok (.iload_n 3, 1) := by decide +kernel
theorem dX5_product_145 : decode cX5_product 145 = .ok (.putfield 25, 3) := by decide +kernel
theorem dX5_product_148 : decode cX5_product 148 = .ok (.aload_n 0, 1) := by decide +kernel
theorem dX5_product_149 : decode cX5_product 149 = .ok (.invokevirtual 45, 3) := by decide +kernel
theorem dX5_product_152 : decode cX5_product 152 = .ok (.return_, 1) := by decide +kernel
def w_Nu_product_63 (C : zC) (n0 : Nat) (Q : zS → Prop) (B38 : Nat → Nat → Nat → Int32 → Nat → Nat → Int32 → zS → Prop) (a0 : Nat) (a1 : Nat) (a2 : Nat) (a3 : Int32) (a4 : Nat) (a5 : Nat) (a6 : Int32) (a7 : Int64) (a9 : Int64) (a11 : Int32) (κ : zS) : Prop :=
  ∃ I : Nat → Nat → Nat → Nat → Int32 → Nat → Nat → Int32 → Int64 → Int64 → Int32 → zS → Prop, (∃ n, I n a0 a1 a2 a3 a4 a5 a6 a7 a9 a11 κ) ∧ ∀ n a0 a1 a2 a3 a4 a5 a6 a7 a9 a11 κ, zW C n0 κ → zT κ a0 = 8 → zT κ a1 = 8 → zT κ a2 = 8 → zT κ a4 = 20 → zT κ a5 = 20 → I n a0 a1 a2 a3 a4 a5 a6 a7 a9 a11 κ →
    ((zI κ nuLength a2) ≤ a11 →
      inb (a6 + (zI κ nuLength a2)) (zN κ a4) ∧
      ∀ κ1, κ1 = ua κ a4 ((a6 + (zI κ nuLength a2))).toNatClampNeg (Int64.toInt32 a9) →
      ∀ _ : zW C n0 κ1,
      ∀ v6_2 : Int32, v6_2 = a6 + (1 : Int32) →
      B38 a0 a1 a2 a3 a4 a5 v6_2 κ1) ∧
    (¬ (zI κ nuLength a2) ≤ a11 →
      inb a11 (zN κ a5) ∧
      inb (a6 + a11) (zN κ a4) ∧
      ∀ v12_8 : Int64, v12_8 = (((a7 * (Int32.toInt64 (zA κ a5 (a11).toNatClampNeg))) + (Int32.toInt64 (zA κ a4 ((a6 + a11)).toNatClampNeg))) + a9) →
      inb (a6 + a11) (zN κ a4) ∧
      ∀ κ9, κ9 = ua κ a4 ((a6 + a11)).toNatClampNeg (Int64.toInt32 (v12_8 &&& (2147483647 : Int64))) →
      ∀ _ : zW C n0 κ9,
      ∀ v9_10 : Int64, v9_10 = (Int64.toUInt64 v12_8 >>> (Int64.toUInt64 (Int32.toInt64 (31 : Int32)) &&& Int64.toUInt64 63)).toInt64 →
      ∀ v11_11 : Int32, v11_11 = a11 + (1 : Int32) →
      ∃ k < n, I k a0 a1 a2 a3 a4 a5 a6 a7 v9_10 v11_11 κ9)
theorem t_Nu_product_63 {C : zC} {n0 : Nat} {Q : zS → Prop} {B38 : Nat → Nat → Nat → Int32 → Nat → Nat → Int32 → zS → Prop} (hB38 : ∀ a0' a1' a2' a3' a4' a5' a6' τ, zW C n0 τ → zT τ a0' = 8 → zT τ a1' = 8 → zT τ a2' = 8 → zT τ a4' = 20 → zT τ a5' = 20 → B38 a0' a1' a2' a3' a4' a5' a6' τ → zG C n0 3 mNu_product 38 [some (.ref a0'), some (.ref a1'), some (.ref a2'), some (.int a3'), some (.ref a4'), some (.ref a5'), some (.int a6'), none, none, none, none, none, none, none] [] τ (oV Q noX)) {a0 : Nat} {a1 : Nat} {a2 : Nat} {a3 : Int32} {a4 : Nat} {a5 : Nat} {a6 : Int32} {a7 : Int64} {a9 : Int64} {a11 : Int32} {κ : zS} (W : zW C n0 κ) (Ta0 : zT κ a0 = 8) (Ta1 : zT κ a1 = 8) (Ta2 : zT κ a2 = 8) (Ta4 : zT κ a4 = 20) (Ta5 : zT κ a5 = 20) (F : w_Nu_product_63 C n0 Q B38 a0 a1 a2 a3 a4 a5 a6 a7 a9 a11 κ) : zG C n0 3 mNu_product 63 [some (.ref a0), some (.ref a1), some (.ref a2), some (.int a3), some (.ref a4), some (.ref a5), some (.int a6), some (.long a7), none, some (.long a9), none, some (.int a11), none, none] [] κ (oV Q noX) := by
  obtain ⟨I, ⟨m0, hI0⟩, F0⟩ := F
  have key : ∀ n a0 a1 a2 a3 a4 a5 a6 a7 a9 a11 κ, zW C n0 κ → zT κ a0 = 8 → zT κ a1 = 8 → zT κ a2 = 8 → zT κ a4 = 20 → zT κ a5 = 20 → I n a0 a1 a2 a3 a4 a5 a6 a7 a9 a11 κ → zG C n0 3 mNu_product 63 [some (.ref a0), some (.ref a1), some (.ref a2), some (.int a3), some (.ref a4), some (.ref a5), some (.int a6), some (.long a7), none, some (.long a9), none, some (.int a11), none, none] [] κ (oV Q noX) := by
    intro n
    induction n using Nat.strongRecOn with
    | _ n ih =>
      intro a0 a1 a2 a3 a4 a5 a6 a7 a9 a11 κ W Ta0 Ta1 Ta2 Ta4 Ta5 hI
      have F := F0 n a0 a1 a2 a3 a4 a5 a6 a7 a9 a11 κ W Ta0 Ta1 Ta2 Ta4 Ta5 hI
      clear hI hI0
      refine y_il dX5_product_63 rfl ?_
      refine y_aln dX5_product_65 rfl ?_
      refine gf_X5_25 dX5_product_66 rfl (Or.inl Ta2) ?_
      refine y_ii ((zI κ nuLength a2) ≤ a11) dX5_product_69 (t := 124) rfl rfl (fun c9 => ?_) (fun c9 => ?_)
      · replace F := F.1 c9
        refine y_al dX5_product_124 rfl ?_
        refine y_il dX5_product_126 rfl ?_
        refine y_aln dX5_product_128 rfl ?_
        refine gf_X5_25 dX5_product_129 rfl (Or.inl Ta2) ?_
        refine y_iadd dX5_product_132 ?_
        refine y_ll dX5_product_133 rfl ?_
        refine y_l2i dX5_product_135 ?_
        refine y_ast W dX5_product_136 Ta4 F.1 (fun κ1 eκ1 => ?_)
        replace F := F.2 κ1 eκ1
        have Wκ1 : zW C n0 κ1 := zW_ua W eκ1 (fun h => absurd (h.symm.trans Ta4) (by decide)) (fun h => absurd (h.symm.trans Ta4) (by decide))
        have Mκ1 : zM (zn κ) κ κ1 := by rw [eκ1]; exact zM.of rfl rfl rfl
        replace F := F Wκ1
        refine y_incb dX5_product_137 zi_1 rfl (Nat.le_of_ble_eq_true rfl) (fun v6_2 ev6_2 => ?_)
        replace F := F v6_2 ev6_2
        show zG _ _ _ _ _ [some (.ref a0), some (.ref a1), some (.ref a2), some (.int a3), some (.ref a4), some (.ref a5), some (.int v6_2), some (.long a7), none, some (.long a9), none, some (.int a11), none, none] _ _ _
        refine y_goto dX5_product_140 (t := 38) rfl ?_
        have h3 := (ztm W Mκ1 Ta0)
        have h4 := (ztm W Mκ1 Ta1)
        have h5 := (ztm W Mκ1 Ta2)
        have h6 := (ztm W Mκ1 Ta4)
        have h7 := (ztm W Mκ1 Ta5)
        exact y_k (hB38 _ _ _ _ _ _ _ _ Wκ1 h3 h4 h5 h6 h7 F) ⟨rfl, rfl, rfl, rfl, rfl, rfl, rfl, trivial⟩
      · replace F := F.2 c9
        refine y_ll dX5_product_72 rfl ?_
        refine y_al dX5_product_74 rfl ?_
        refine y_il dX5_product_76 rfl ?_
        refine y_ald dX5_product_78 Ta5 F.1 ?_
        replace F := F.2
        refine y_i2l dX5_product_79 ?_
        refine y_lmul dX5_product_80 ?_
        refine y_al dX5_product_81 rfl ?_
        refine y_il dX5_product_83 rfl ?_
        refine y_il dX5_product_85 rfl ?_
        refine y_iadd dX5_product_87 ?_
        refine y_ald dX5_product_88 Ta4 F.1 ?_
        replace F := F.2
        refine y_i2l dX5_product_89 ?_
        refine y_ladd dX5_product_90 ?_
        refine y_ll dX5_product_91 rfl ?_
        refine y_ladd dX5_product_93 ?_
        refine y_lsb dX5_product_94 (Nat.le_of_ble_eq_true rfl) (fun v12_8 ev12_8 => ?_)
        replace F := F v12_8 ev12_8
        show zG _ _ _ _ _ [some (.ref a0), some (.ref a1), some (.ref a2), some (.int a3), some (.ref a4), some (.ref a5), some (.int a6), some (.long a7), none, some (.long a9), none, some (.int a11), some (.long v12_8), none] _ _ _
        refine y_al dX5_product_96 rfl ?_
        refine y_il dX5_product_98 rfl ?_
        refine y_il dX5_product_100 rfl ?_
        refine y_iadd dX5_product_102 ?_
        refine y_ll dX5_product_103 rfl ?_
        refine y_ldcl dX5_product_105 rfl zcl_X5_29 ?_
        refine y_land dX5_product_108 ?_
        refine y_l2i dX5_product_109 ?_
        refine y_ast W dX5_product_110 Ta4 F.1 (fun κ9 eκ9 => ?_)
        replace F := F.2 κ9 eκ9
        have Wκ9 : zW C n0 κ9 := zW_ua W eκ9 (fun h => absurd (h.symm.trans Ta4) (by decide)) (fun h => absurd (h.symm.trans Ta4) (by decide))
        have Mκ9 : zM (zn κ) κ κ9 := by rw [eκ9]; exact zM.of rfl rfl rfl
        replace F := F Wκ9
        refine y_ll dX5_product_111 rfl ?_
        refine y_bi1 dX5_product_113 zb_31 ?_
        refine y_lushr dX5_product_115 ?_
        refine y_lsb dX5_product_116 (Nat.le_of_ble_eq_true rfl) (fun v9_10 ev9_10 => ?_)
        replace F := F v9_10 ev9_10
        show zG _ _ _ _ _ [some (.ref a0), some (.ref a1), some (.ref a2), some (.int a3), some (.ref a4), some (.ref a5), some (.int a6), some (.long a7), none, some (.long v9_10), none, some (.int a11), some (.long v12_8), none] _ _ _
        refine y_incb dX5_product_118 zi_1 rfl (Nat.le_of_ble_eq_true rfl) (fun v11_11 ev11_11 => ?_)
        replace F := F v11_11 ev11_11
        show zG _ _ _ _ _ [some (.ref a0), some (.ref a1), some (.ref a2), some (.int a3), some (.ref a4), some (.ref a5), some (.int a6), some (.long a7), none, some (.long v9_10), none, some (.int v11_11), some (.long v12_8), none] _ _ _
        refine y_goto dX5_product_121 (t := 63) rfl ?_
        have h12 := (ztm W Mκ9 Ta0)
        have h13 := (ztm W Mκ9 Ta1)
        have h14 := (ztm W Mκ9 Ta2)
        have h15 := (ztm W Mκ9 Ta4)
        have h16 := (ztm W Mκ9 Ta5)
        obtain ⟨k, hk, hI⟩ := F
        exact y_k (ih k hk _ _ _ _ _ _ _ _ _ _ _ Wκ9 h12 h13 h14 h15 h16 hI) ⟨rfl, rfl, rfl, rfl, rfl, rfl, rfl, rfl, rfl, rfl, trivial⟩
  exact key m0 a0 a1 a2 a3 a4 a5 a6 a7 a9 a11 κ W Ta0 Ta1 Ta2 Ta4 Ta5 hI0

def w_Nu_product_38 (C : zC) (n0 : Nat) (Q : zS → Prop)  (a0 : Nat) (a1 : Nat) (a2 : Nat) (a3 : Int32) (a4 : Nat) (a5 : Nat) (a6 : Int32) (κ : zS) : Prop :=
  ∃ I : Nat → Nat → Nat → Nat → Int32 → Nat → Nat → Int32 → zS → Prop, (∃ n, I n a0 a1 a2 a3 a4 a5 a6 κ) ∧ ∀ n a0 a1 a2 a3 a4 a5 a6 κ, zW C n0 κ → zT κ a0 = 8 → zT κ a1 = 8 → zT κ a2 = 8 → zT κ a4 = 20 → zT κ a5 = 20 → I n a0 a1 a2 a3 a4 a5 a6 κ →
    ((zI κ nuLength a1) ≤ a6 →
      ∀ κ1, κ1 = ui κ nuLength a0 a3 →
      ∀ _ : zW C n0 κ1,
      ∀ _ : zT κ1 a0 = 8,
      zRun C 0 mNu_trim [.ref a0] κ1 (oV (fun κ2 =>
        ∀ _ : zW C n0 κ2,
        ∀ _ : zM (zn κ1) κ1 κ2,
        Q κ2) noX)) ∧
    (¬ (zI κ nuLength a1) ≤ a6 →
      inb a6 (zN κ (zR κ nuLimbs a1)) ∧
      ∀ v7_6 : Int64, v7_6 = (Int32.toInt64 (zA κ (zR κ nuLimbs a1) (a6).toNatClampNeg)) →
      w_Nu_product_63 C n0 Q (fun a0' a1' a2' a3' a4' a5' a6' τ => ∃ k < n, I k a0' a1' a2' a3' a4' a5' a6' τ) a0 a1 a2 a3 a4 a5 a6 v7_6 (0 : Int64) (0 : Int32) κ)
theorem t_Nu_product_38 {C : zC} {n0 : Nat} {Q : zS → Prop}   {a0 : Nat} {a1 : Nat} {a2 : Nat} {a3 : Int32} {a4 : Nat} {a5 : Nat} {a6 : Int32} {κ : zS} (W : zW C n0 κ) (Ta0 : zT κ a0 = 8) (Ta1 : zT κ a1 = 8) (Ta2 : zT κ a2 = 8) (Ta4 : zT κ a4 = 20) (Ta5 : zT κ a5 = 20) (F : w_Nu_product_38 C n0 Q  a0 a1 a2 a3 a4 a5 a6 κ) : zG C n0 3 mNu_product 38 [some (.ref a0), some (.ref a1), some (.ref a2), some (.int a3), some (.ref a4), some (.ref a5), some (.int a6), none, none, none, none, none, none, none] [] κ (oV Q noX) := by
  obtain ⟨I, ⟨m0, hI0⟩, F0⟩ := F
  have key : ∀ n a0 a1 a2 a3 a4 a5 a6 κ, zW C n0 κ → zT κ a0 = 8 → zT κ a1 = 8 → zT κ a2 = 8 → zT κ a4 = 20 → zT κ a5 = 20 → I n a0 a1 a2 a3 a4 a5 a6 κ → zG C n0 3 mNu_product 38 [some (.ref a0), some (.ref a1), some (.ref a2), some (.int a3), some (.ref a4), some (.ref a5), some (.int a6), none, none, none, none, none, none, none] [] κ (oV Q noX) := by
    intro n
    induction n using Nat.strongRecOn with
    | _ n ih =>
      intro a0 a1 a2 a3 a4 a5 a6 κ W Ta0 Ta1 Ta2 Ta4 Ta5 hI
      have F := F0 n a0 a1 a2 a3 a4 a5 a6 κ W Ta0 Ta1 Ta2 Ta4 Ta5 hI
      clear hI hI0
      refine y_il dX5_product_38 rfl ?_
      refine y_aln dX5_product_40 rfl ?_
      refine gf_X5_25 dX5_product_41 rfl (Or.inl Ta1) ?_
      refine y_ii ((zI κ nuLength a1) ≤ a6) dX5_product_44 (t := 143) rfl rfl (fun c9 => ?_) (fun c9 => ?_)
      · replace F := F.1 c9
        refine y_aln dX5_product_143 rfl ?_
        refine y_iln dX5_product_144 rfl ?_
        refine pf_X5_25 W dX5_product_145 rfl (Or.inl Ta0) (fun κ1 eκ1 => ?_)
        replace F := F κ1 eκ1
        have Wκ1 : zW C n0 κ1 := zW_ui W eκ1 (fun h => absurd h (by decide))
        have Mκ1 : zM (zn κ) κ κ1 := by rw [eκ1]; exact zM.of rfl rfl rfl
        replace F := F Wκ1
        refine y_aln dX5_product_148 rfl ?_
        have h4 := (ztm W Mκ1 Ta0)
        replace F := F h4
        refine k_X5_45 Wκ1 dX5_product_149 rfl (Nat.le_of_ble_eq_true rfl) (Nat.le_of_ble_eq_true rfl) (Or.inl h4) F (fun  κ2 Wκ2 Mκ2 F => ?_) (fun _ _ h9 => False.elim h9)
        replace F := F Wκ2 Mκ2
        exact y_rv Wκ2 dX5_product_152 rfl F
      · replace F := F.2 c9
        refine y_aln dX5_product_47 rfl ?_
        refine gf_X5_13 W dX5_product_48 rfl Ta1 ?_
        refine y_il dX5_product_51 rfl ?_
        refine y_ald dX5_product_53 (ty_nuLimbs W Ta1) F.1 ?_
        replace F := F.2
        refine y_i2l dX5_product_54 ?_
        refine y_lsb dX5_product_55 (Nat.le_of_ble_eq_true rfl) (fun v7_6 ev7_6 => ?_)
        replace F := F v7_6 ev7_6
        show zG _ _ _ _ _ [some (.ref a0), some (.ref a1), some (.ref a2), some (.int a3), some (.ref a4), some (.ref a5), some (.int a6), some (.long v7_6), none, none, none, none, none, none] _ _ _
        refine y_lc dX5_product_57 zl_0 ?_
        refine y_ls dX5_product_58 (Nat.le_of_ble_eq_true rfl) rfl ?_
        show zG _ _ _ _ _ [some (.ref a0), some (.ref a1), some (.ref a2), some (.int a3), some (.ref a4), some (.ref a5), some (.int a6), some (.long v7_6), none, some (.long (0 : Int64)), none, none, none, none] _ _ _
        refine y_ic dX5_product_60 zi_0 ?_
        refine y_is dX5_product_61 (Nat.le_of_ble_eq_true rfl) rfl ?_
        show zG _ _ _ _ _ [some (.ref a0), some (.ref a1), some (.ref a2), some (.int a3), some (.ref a4), some (.ref a5), some (.int a6), some (.long v7_6), none, some (.long (0 : Int64)), none, some (.int (0 : Int32)), none, none] _ _ _
        exact y_k (t_Nu_product_63 (fun a0' a1' a2' a3' a4' a5' a6' τ w9 f09 f19 f29 f39 f49 hb => by obtain ⟨k, hk, hI⟩ := hb; exact ih k hk a0' a1' a2' a3' a4' a5' a6' τ w9 f09 f19 f29 f39 f49 hI) W Ta0 Ta1 Ta2 Ta4 Ta5 F) ⟨rfl, rfl, rfl, rfl, rfl, rfl, rfl, rfl, rfl, rfl, trivial⟩
  exact key m0 a0 a1 a2 a3 a4 a5 a6 κ W Ta0 Ta1 Ta2 Ta4 Ta5 hI0

def w_Nu_product_0 (C : zC) (n0 : Nat) (Q : zS → Prop)  (a0 : Nat) (a1 : Nat) (a2 : Nat) (κ : zS) : Prop :=
  ∀ v3_1 : Int32, v3_1 = ((zI κ nuLength a1) + (zI κ nuLength a2)) →
  ∀ _ : zT κ a0 = 8,
  zRun C 2 mNu_widen [.ref a0, .int v3_1] κ (oV (fun κ2 =>
    ∀ _ : zW C n0 κ2,
    ∀ _ : zM (zn κ) κ κ2,
    ∀ v4_6 : Nat, v4_6 = (zR κ2 nuLimbs a0) →
    ∀ v5_8 : Nat, v5_8 = (zR κ2 nuLimbs a2) →
    ∀ _ : zT κ2 v4_6 = 20,
    zRun C 1 mAr_fill4 [.ref v4_6, .int (0 : Int32), .int v3_1, .int (0 : Int32)] κ2 (oV (fun κ9 =>
      ∀ _ : zW C n0 κ9,
      ∀ _ : zM (zn κ2) κ2 κ9,
      w_Nu_product_38 C n0 Q  a0 a1 a2 v3_1 v4_6 v5_8 (0 : Int32) κ9) noX)) noX)
theorem t_Nu_product_0 {C : zC} {n0 : Nat} {Q : zS → Prop}   {a0 : Nat} {a1 : Nat} {a2 : Nat} {κ : zS} (W : zW C n0 κ) (Ta0 : zT κ a0 = 8) (Ta1 : zT κ a1 = 8) (Ta2 : zT κ a2 = 8) (F : w_Nu_product_0 C n0 Q  a0 a1 a2 κ) : zG C n0 3 mNu_product 0 [some (.ref a0), some (.ref a1), some (.ref a2), none, none, none, none, none, none, none, none, none, none, none] [] κ (oV Q noX) := by
  unfold w_Nu_product_0 at F
  refine y_aln dX5_product_0 rfl ?_
  refine gf_X5_25 dX5_product_1 rfl (Or.inl Ta1) ?_
  refine y_aln dX5_product_4 rfl ?_
  refine gf_X5_25 dX5_product_5 rfl (Or.inl Ta2) ?_
  refine y_iadd dX5_product_8 ?_
  refine y_isnb dX5_product_9 (Nat.le_of_ble_eq_true rfl) (fun v3_1 ev3_1 => ?_)
  replace F := F v3_1 ev3_1
  show zG _ _ _ _ _ [some (.ref a0), some (.ref a1), some (.ref a2), some (.int v3_1), none, none, none, none, none, none, none, none, none, none] _ _ _
  refine y_aln dX5_product_10 rfl ?_
  refine y_iln dX5_product_11 rfl ?_
  replace F := F Ta0
  refine k_X5_41 W dX5_product_12 rfl (Nat.le_of_ble_eq_true rfl) (Nat.le_of_ble_eq_true rfl) (Or.inl Ta0) F (fun  κ2 Wκ2 Mκ2 F => ?_) (fun _ _ h9 => False.elim h9)
  replace F := F Wκ2 Mκ2
  refine y_aln dX5_product_15 rfl ?_
  have h5 := (ztm W Mκ2 Ta0)
  refine gf_X5_13 Wκ2 dX5_product_16 rfl h5 ?_
  refine y_asb dX5_product_19 (Nat.le_of_ble_eq_true rfl) (fun v4_6 ev4_6 => ?_)
  replace F := F v4_6 ev4_6
  have Tv4_6 : zT κ2 v4_6 = 20 := by rw [ev4_6]; exact (ty_nuLimbs Wκ2 h5)
  show zG _ _ _ _ _ [some (.ref a0), some (.ref a1), some (.ref a2), some (.int v3_1), some (.ref v4_6), none, none, none, none, none, none, none, none, none] _ _ _
  refine y_aln dX5_product_21 rfl ?_
  have h7 := (ztm W Mκ2 Ta2)
  refine gf_X5_13 Wκ2 dX5_product_22 rfl h7 ?_
  refine y_asb dX5_product_25 (Nat.le_of_ble_eq_true rfl) (fun v5_8 ev5_8 => ?_)
  replace F := F v5_8 ev5_8
  have Tv5_8 : zT κ2 v5_8 = 20 := by rw [ev5_8]; exact (ty_nuLimbs Wκ2 h7)
  show zG _ _ _ _ _ [some (.ref a0), some (.ref a1), some (.ref a2), some (.int v3_1), some (.ref v4_6), some (.ref v5_8), none, none, none, none, none, none, none, none] _ _ _
  refine y_al dX5_product_27 rfl ?_
  refine y_ic dX5_product_29 zi_0 ?_
  refine y_iln dX5_product_30 rfl ?_
  refine y_ic dX5_product_31 zi_0 ?_
  replace F := F Tv4_6
  refine k_X5_48 Wκ2 dX5_product_32 rfl (Nat.le_of_ble_eq_true rfl) (Nat.le_of_ble_eq_true rfl)  F (fun  κ9 Wκ9 Mκ9 F => ?_) (fun _ _ h9 => False.elim h9)
  replace F := F Wκ9 Mκ9
  refine y_ic dX5_product_35 zi_0 ?_
  refine y_is dX5_product_36 (Nat.le_of_ble_eq_true rfl) rfl ?_
  show zG _ _ _ _ _ [some (.ref a0), some (.ref a1), some (.ref a2), some (.int v3_1), some (.ref v4_6), some (.ref v5_8), some (.int (0 : Int32)), none, none, none, none, none, none, none] _ _ _
  have h12 := (ztm Wκ2 Mκ9 h5)
  have h13 := (ztm Wκ2 Mκ9 (ztm W Mκ2 Ta1))
  have h14 := (ztm Wκ2 Mκ9 h7)
  have h15 := (ztm Wκ2 Mκ9 Tv4_6)
  have h16 := (ztm Wκ2 Mκ9 Tv5_8)
  exact y_k (t_Nu_product_38  Wκ9 h12 h13 h14 h15 h16 F) ⟨rfl, rfl, rfl, rfl, rfl, rfl, rfl, trivial⟩

theorem Nu_product_run {C : zC} {n0 : Nat} {Q : zS → Prop} {a0 : Nat} {a1 : Nat} {a2 : Nat} {κ : zS} (W : zW C n0 κ) (Ta0 : zT κ a0 = 8) (Ta1 : zT κ a1 = 8) (Ta2 : zT κ a2 = 8) (F : w_Nu_product_0 C (zn κ) Q a0 a1 a2 κ) : zRun C 3 mNu_product [.ref a0, .ref a1, .ref a2] κ (oV Q noX) := z_run (m_ent _ 11) (t_Nu_product_0 (W.lo (Nat.le_trans W.1.2.1 W.1.2.2) (Nat.le_refl _)) Ta0 Ta1 Ta2 F)

theorem dX1_join_0 : decode cX1_join 0 = .ok (.aload_n 0, 1) := by decide +kernel
theorem dX1_join_1 : decode cX1_join 1 = .ok (.aload_n 1, 1) := by decide +kernel
theorem dX1_join_2 : decode cX1_join 2 = .ok (.aload_n 2, 1) := by decide +kernel
theorem dX1_join_3 : decode cX1_join 3 = .ok (.invokevirtual 101, 3) := by decide +kernel
theorem dX1_join_6 : decode cX1_join 6 = .ok (.aload_n 0, 1) := by decide +kernel
theorem dX1_join_7 : decode cX1_join 7 = .ok (.getfield 22, 3) := by decide +kernel
theorem dX1_join_10 : decode cX1_join 10 = .ok (.getfield 37, 3) := by decide +kernel
theorem dX1_join_13 : decode cX1_join 13 = .ok (.ifCond .le 41, 3) := by decide +kernel
theorem dX1_join_16 : decode cX1_join 16 = .ok (.aload_n 0, 1) := by decide +kernel
theorem dX1_join_17 : decode cX1_join 17 = .ok (.aload_n 2, 1) := by decide +kernel
theorem dX1_join_18 : decode cX1_join 18 = .ok (.aload_n 0, 1) := by decide +kernel
theorem dX1_join_19 : decode cX1_join 19 = .ok (.getfield 22, 3) := by decide +kernel
theorem dX1_join_22 : decode cX1_join 22 = .ok (.invokevirtual 129, 3) := by decide +kernel
theorem dX1_join_25 : decode cX1_join 25 = .ok (.aload_n 0, 1) := by decide +kernel
theorem dX1_join_26 : decode cX1_join 26 = .ok (.aload_n 2, 1) := by decide +kernel
theorem dX1_join_27 : decode cX1_join 27 = .ok (.aload_n 0, 1) := by decide +kernel
theorem dX1_join_28 : decode cX1_join 28 = .ok (.getfield 28, 3) := by decide +kernel
theorem dX1_join_31 : decode cX1_join 31 = .ok (.invokevirtual 101, 3) := by decide +kernel
theorem dX1_join_34 : decode cX1_join 34 = .ok (.aload_n 0, 1) := by decide +kernel
theorem dX1_join_35 : decode cX1_join 35 = .ok (.getfield 34, 3) := by decide +kernel
theorem dX1_join_38 : decode cX1_join 38 = .ok (.aload_n 1, 1) := by decide +kernel
theorem dX1_join_39 : decode cX1_join 39 = .ok (.aload_n 0, 1) := by decide +kernel
theorem dX1_join_40 : decode cX1_join 40 = .ok (.getfield 18, 3) := by decide +kernel
theorem dX1_join_43 : decode cX1_join 43 = .ok (.invokevirtual 135, 3) := by decide +kernel
theorem dX1_join_46 : decode cX1_join 46 = .ok (.aload_n 1, 1) := by decide +kernel
theorem dX1_join_47 : decode cX1_join 47 = .ok (.aload_n 0, 1) := by decide +kernel
theorem dX1_join_48 : decode cX1_join 48 = .ok (.getfield 34, 3) := by decide +kernel
theorem dX1_join_51 : decode cX1_join 51 = .ok (.invokevirtual 49, 3) := by decide +kernel
theorem dX1_join_54 : decode cX1_join 54 = .ok (.return_, 1) := by decide +kernel
def w_Ca_join_0 (C : zC) (n0 : Nat) (Q : zS → Prop)  (a0 : Nat) (a1 : Nat) (a2 : Nat) (κ : zS) : Prop :=
  ∀ _ : zT κ a0 = 4,
  ∀ _ : zT κ a1 = 8,
  ∀ _ : zT κ a2 = 8,
  zRun C 2 mCa_divide [.ref a0, .ref a1, .ref a2] κ (oV (fun κ1 =>
    ∀ _ : zW C n0 κ1,
    ∀ _ : zM (zn κ) κ κ1,
    ((zI κ1 nuLength (zR κ1 caRest a0)) ≤ (0 : Int32) →
      Q κ1) ∧
    (¬ (zI κ1 nuLength (zR κ1 caRest a0)) ≤ (0 : Int32) →
      ∀ _ : zT κ1 a0 = 4,
      ∀ _ : zT κ1 a2 = 8,
      ∀ _ : zT κ1 (zR κ1 caRest a0) = 8,
      zRun C 4 mCa_common [.ref a0, .ref a2, .ref (zR κ1 caRest a0)] κ1 (oV (fun κ5 =>
        ∀ _ : zW C n0 κ5,
        ∀ _ : zM (zn κ1) κ1 κ5,
        ∀ _ : zT κ5 a0 = 4,
        ∀ _ : zT κ5 a2 = 8,
        ∀ _ : zT κ5 (zR κ5 caX a0) = 8,
        zRun C 2 mCa_divide [.ref a0, .ref a2, .ref (zR κ5 caX a0)] κ5 (oV (fun κ10 =>
          ∀ _ : zW C n0 κ10,
          ∀ _ : zM (zn κ5) κ5 κ10,
          ∀ _ : zT κ10 (zR κ10 caSpare a0) = 8,
          ∀ _ : zT κ10 a1 = 8,
          ∀ _ : zT κ10 (zR κ10 caQuotient a0) = 8,
          zRun C 3 mNu_product [.ref (zR κ10 caSpare a0), .ref a1, .ref (zR κ10 caQuotient a0)] κ10 (oV (fun κ15 =>
            ∀ _ : zW C n0 κ15,
            ∀ _ : zM (zn κ10) κ10 κ15,
            ∀ _ : zT κ15 a1 = 8,
            ∀ _ : zT κ15 (zR κ15 caSpare a0) = 8,
            zRun C 1 mNu_copy [.ref a1, .ref (zR κ15 caSpare a0)] κ15 (oV (fun κ20 =>
              ∀ _ : zW C n0 κ20,
              ∀ _ : zM (zn κ15) κ15 κ20,
              Q κ20) noX)) noX)) noX)) noX))) noX)
theorem t_Ca_join_0 {C : zC} {n0 : Nat} {Q : zS → Prop}   {a0 : Nat} {a1 : Nat} {a2 : Nat} {κ : zS} (W : zW C n0 κ) (Ta0 : zT κ a0 = 4) (Ta1 : zT κ a1 = 8) (Ta2 : zT κ a2 = 8) (F : w_Ca_join_0 C n0 Q  a0 a1 a2 κ) : zG C n0 5 mCa_join 0 [some (.ref a0), some (.ref a1), some (.ref a2)] [] κ (oV Q noX) := by
  unfold w_Ca_join_0 at F
  refine y_aln dX1_join_0 rfl ?_
  refine y_aln dX1_join_1 rfl ?_
  refine y_aln dX1_join_2 rfl ?_
  replace F := F Ta0
  replace F := F Ta1
  replace F := F Ta2
  refine k_X1_101 W dX1_join_3 rfl (Nat.le_of_ble_eq_true rfl) (Nat.le_of_ble_eq_true rfl) (Or.inl Ta0) F (fun  κ1 Wκ1 Mκ1 F => ?_) (fun _ _ h9 => False.elim h9)
  replace F := F Wκ1 Mκ1
  refine y_aln dX1_join_6 rfl ?_
  have h4 := (ztm W Mκ1 Ta0)
  refine gf_X1_22 Wκ1 dX1_join_7 rfl h4 ?_
  refine gf_X1_37 dX1_join_10 rfl (Or.inl (ty_caRest Wκ1 h4)) ?_
  refine y_i ((zI κ1 nuLength (zR κ1 caRest a0)) ≤ (0 : Int32)) dX1_join_13 (t := 54) rfl rfl (fun c9 => ?_) (fun c9 => ?_)
  · replace F := F.1 c9
    exact y_rv Wκ1 dX1_join_54 rfl F
  · replace F := F.2 c9
    refine y_aln dX1_join_16 rfl ?_
    refine y_aln dX1_join_17 rfl ?_
    refine y_aln dX1_join_18 rfl ?_
    refine gf_X1_22 Wκ1 dX1_join_19 rfl h4 ?_
    replace F := F h4
    have h7 := (ztm W Mκ1 Ta2)
    replace F := F h7
    replace F := F (ty_caRest Wκ1 h4)
    refine k_X1_129 Wκ1 dX1_join_22 rfl (Nat.le_of_ble_eq_true rfl) (Nat.le_of_ble_eq_true rfl) (Or.inl h4) F (fun  κ5 Wκ5 Mκ5 F => ?_) (fun _ _ h9 => False.elim h9)
    replace F := F Wκ5 Mκ5
    refine y_aln dX1_join_25 rfl ?_
    refine y_aln dX1_join_26 rfl ?_
    refine y_aln dX1_join_27 rfl ?_
    have h9 := (ztm Wκ1 Mκ5 h4)
    refine gf_X1_28 Wκ5 dX1_join_28 rfl h9 ?_
    replace F := F h9
    have h12 := (ztm Wκ1 Mκ5 h7)
    replace F := F h12
    replace F := F (ty_caX Wκ5 h9)
    refine k_X1_101 Wκ5 dX1_join_31 rfl (Nat.le_of_ble_eq_true rfl) (Nat.le_of_ble_eq_true rfl) (Or.inl h9) F (fun  κ10 Wκ10 Mκ10 F => ?_) (fun _ _ h9 => False.elim h9)
    replace F := F Wκ10 Mκ10
    refine y_aln dX1_join_34 rfl ?_
    have h14 := (ztm Wκ5 Mκ10 h9)
    refine gf_X1_34 Wκ10 dX1_join_35 rfl h14 ?_
    refine y_aln dX1_join_38 rfl ?_
    refine y_aln dX1_join_39 rfl ?_
    refine gf_X1_18 Wκ10 dX1_join_40 rfl h14 ?_
    replace F := F (ty_caSpare Wκ10 h14)
    have h17 := (ztm Wκ5 Mκ10 (ztm Wκ1 Mκ5 (ztm W Mκ1 Ta1)))
    replace F := F h17
    replace F := F (ty_caQuotient Wκ10 h14)
    refine k_X1_135 Wκ10 dX1_join_43 rfl (Nat.le_of_ble_eq_true rfl) (Nat.le_of_ble_eq_true rfl) (Or.inl (ty_caSpare Wκ10 h14)) F (fun  κ15 Wκ15 Mκ15 F => ?_) (fun _ _ h9 => False.elim h9)
    replace F := F Wκ15 Mκ15
    refine y_aln dX1_join_46 rfl ?_
    refine y_aln dX1_join_47 rfl ?_
    have h19 := (ztm Wκ10 Mκ15 h14)
    refine gf_X1_34 Wκ15 dX1_join_48 rfl h19 ?_
    have h22 := (ztm Wκ10 Mκ15 h17)
    replace F := F h22
    replace F := F (ty_caSpare Wκ15 h19)
    refine k_X1_49 Wκ15 dX1_join_51 rfl (Nat.le_of_ble_eq_true rfl) (Nat.le_of_ble_eq_true rfl) (Or.inl h22) F (fun  κ20 Wκ20 Mκ20 F => ?_) (fun _ _ h9 => False.elim h9)
    replace F := F Wκ20 Mκ20
    exact y_rv Wκ20 dX1_join_54 rfl F

theorem Ca_join_run {C : zC} {n0 : Nat} {Q : zS → Prop} {a0 : Nat} {a1 : Nat} {a2 : Nat} {κ : zS} (W : zW C n0 κ) (Ta0 : zT κ a0 = 4) (Ta1 : zT κ a1 = 8) (Ta2 : zT κ a2 = 8) (F : w_Ca_join_0 C (zn κ) Q a0 a1 a2 κ) : zRun C 5 mCa_join [.ref a0, .ref a1, .ref a2] κ (oV Q noX) := z_run (m_ent _ 0) (t_Ca_join_0 (W.lo (Nat.le_trans W.1.2.1 W.1.2.2) (Nat.le_refl _)) Ta0 Ta1 Ta2 F)

theorem dX2_init_0 : decode cX2_init 0 = .ok (.aload_n 0, 1) := by decide +kernel
theorem dX2_init_1 : decode cX2_init 1 = .ok (.invokespecial 3, 3) := by decide +kernel
theorem dX2_init_4 : decode cX2_init 4 = .ok (.aload_n 0, 1) := by decide +kernel
theorem dX2_init_5 : decode cX2_init 5 = .ok (.bipush 10, 2) := by decide +kernel
theorem dX2_init_7 : decode cX2_init 7 = .ok (.newarray .int, 2) := by decide +kernel
theorem dX2_init_9 : decode cX2_init 9 = .ok (.putfield 9, 3) := by decide +kernel
theorem dX2_init_12 : decode cX2_init 12 = .ok (.aload_n 0, 1) := by decide +kernel
theorem dX2_init_13 : decode cX2_init 13 = .ok (.iconst 3, 1) := by decide +kernel
theorem dX2_init_14 : decode cX2_init 14 = .ok (.newarray .int, 2) := by decide +kernel
theorem dX2_init_16 : decode cX2_init 16 = .ok (.putfield 15, 3) := by decide +kernel
theorem dX2_init_19 : decode cX2_init 19 = .ok (.aload_n 0, 1) := by decide +kernel
theorem dX2_init_20 : decode cX2_init 20 = .ok (.iconst 3, 1) := by decide +kernel
theorem dX2_init_21 : decode cX2_init 21 = .ok (.newarray .int, 2) := by decide +kernel
theorem dX2_init_23 : decode cX2_init 23 = .ok (.putfield 18, 3) := by decide +kernel
theorem dX2_init_26 : decode cX2_init 26 = .ok (.aload_n 0, 1) := by decide +kernel
theorem dX2_init_27 : decode cX2_init 27 = .ok (.bipush 10, 2) := by decide +kernel
theorem dX2_init_29 : decode cX2_init 29 = .ok (.newarray .int, 2) := by decide +kernel
theorem dX2_init_31 : decode cX2_init 31 = .ok (.putfield 21, 3) := by decide +kernel
theorem dX2_init_34 : decode cX2_init 34 = .ok (.aload_n 0, 1) := by decide +kernel
theorem dX2_init_35 : decode cX2_init 35 = .ok (.bipush 10, 2) := by decide +kernel
theorem dX2_init_37 : decode cX2_init 37 = .ok (.newarray .int, 2) := by decide +kernel
theorem dX2_init_39 : decode cX2_init 39 = .ok (.putfield 24, 3) := by decide +kernel
theorem dX2_init_42 : decode cX2_init 42 = .ok (.aload_n 0, 1) := by decide +kernel
theorem dX2_init_43 : decode cX2_init 43 = .ok (.bipush 10, 2) := by decide +kernel
theorem dX2_init_45 : decode cX2_init 45 = .ok (.newarray .int, 2) := by decide +kernel
theorem dX2_init_47 : decode cX2_init 47 = .ok (.putfield 27, 3) := by decide +kernel
theorem dX2_init_50 : decode cX2_init 50 = .ok (.aload_n 0, 1) := by decide +kernel
theorem dX2_init_51 : decode cX2_init 51 = .ok (.bipush 88, 2) := by decide +kernel
theorem dX2_init_53 : decode cX2_init 53 = .ok (.newarray .int, 2) := by decide +kernel
theorem dX2_init_55 : decode cX2_init 55 = .ok (.putfield 30, 3) := by decide +kernel
theorem dX2_init_58 : decode cX2_init 58 = .ok (.aload_n 0, 1) := by decide +kernel
theorem dX2_init_59 : decode cX2_init 59 = .ok (.bipush 64, 2) := by decide +kernel
theorem dX2_init_61 : decode cX2_init 61 = .ok (.newarray .int, 2) := by decide +kernel
theorem dX2_init_63 : decode cX2_init 63 = .ok (.putfield 33, 3) := by decide +kernel
theorem dX2_init_66 : decode cX2_init 66 = .ok (.aload_n 0, 1) := by decide +kernel
theorem dX2_init_67 : decode cX2_init 67 = .ok (.bipush 64, 2) := by decide +kernel
theorem dX2_init_69 : decode cX2_init 69 = .ok (.newarray .int, 2) := by decide +kernel
theorem dX2_init_71 : decode cX2_init 71 = .ok (.putfield 36, 3) := by decide +kernel
theorem dX2_init_74 : decode cX2_init 74 = .ok (.return_, 1) := by decide +kernel
def w_Co_init_0 (C : zC) (n0 : Nat) (Q : zS → Prop)  (a0 : Nat) (κ : zS) : Prop :=
  nsz (10 : Int32) ∧
  ∀ κ1, κ1 = na κ 20 ((10 : Int32)).toNatClampNeg →
  ∀ _ : zW C n0 κ1,
  zO κ1 (zn κ) = (0, 0) ∧
  ∀ κ4, κ4 = uo κ1 coVarStarts a0 (zn κ) →
  ∀ _ : zW C n0 κ4,
  nsz (3 : Int32) ∧
  ∀ κ7, κ7 = na κ4 20 ((3 : Int32)).toNatClampNeg →
  ∀ _ : zW C n0 κ7,
  zO κ7 (zn κ4) = (0, 0) ∧
  ∀ κ10, κ10 = uo κ7 coArrayBases a0 (zn κ4) →
  ∀ _ : zW C n0 κ10,
  nsz (3 : Int32) ∧
  ∀ κ13, κ13 = na κ10 20 ((3 : Int32)).toNatClampNeg →
  ∀ _ : zW C n0 κ13,
  zO κ13 (zn κ10) = (0, 0) ∧
  ∀ κ16, κ16 = uo κ13 coArraySizes a0 (zn κ10) →
  ∀ _ : zW C n0 κ16,
  nsz (10 : Int32) ∧
  ∀ κ19, κ19 = na κ16 20 ((10 : Int32)).toNatClampNeg →
  ∀ _ : zW C n0 κ19,
  zO κ19 (zn κ16) = (0, 0) ∧
  ∀ κ22, κ22 = uo κ19 coFirstStatements a0 (zn κ16) →
  ∀ _ : zW C n0 κ22,
  nsz (10 : Int32) ∧
  ∀ κ25, κ25 = na κ22 20 ((10 : Int32)).toNatClampNeg →
  ∀ _ : zW C n0 κ25,
  zO κ25 (zn κ22) = (0, 0) ∧
  ∀ κ28, κ28 = uo κ25 coNameCounts a0 (zn κ22) →
  ∀ _ : zW C n0 κ28,
  nsz (10 : Int32) ∧
  ∀ κ31, κ31 = na κ28 20 ((10 : Int32)).toNatClampNeg →
  ∀ _ : zW C n0 κ31,
  zO κ31 (zn κ28) = (0, 0) ∧
  ∀ κ34, κ34 = uo κ31 coOwnCounts a0 (zn κ28) →
  ∀ _ : zW C n0 κ34,
  nsz (88 : Int32) ∧
  ∀ κ37, κ37 = na κ34 20 ((88 : Int32)).toNatClampNeg →
  ∀ _ : zW C n0 κ37,
  zO κ37 (zn κ34) = (0, 0) ∧
  ∀ κ40, κ40 = uo κ37 coRows a0 (zn κ34) →
  ∀ _ : zW C n0 κ40,
  nsz (64 : Int32) ∧
  ∀ κ43, κ43 = na κ40 20 ((64 : Int32)).toNatClampNeg →
  ∀ _ : zW C n0 κ43,
  zO κ43 (zn κ40) = (0, 0) ∧
  ∀ κ46, κ46 = uo κ43 coOps a0 (zn κ40) →
  ∀ _ : zW C n0 κ46,
  nsz (64 : Int32) ∧
  ∀ κ49, κ49 = na κ46 20 ((64 : Int32)).toNatClampNeg →
  ∀ _ : zW C n0 κ49,
  zO κ49 (zn κ46) = (0, 0) ∧
  ∀ κ52, κ52 = uo κ49 coArgs a0 (zn κ46) →
  ∀ _ : zW C n0 κ52,
  Q κ52
theorem t_Co_init_0 {C : zC} {n0 : Nat} {Q : zS → Prop}   {a0 : Nat} {κ : zS} (W : zW C n0 κ) (Ta0 : zT κ a0 = 45) (F : w_Co_init_0 C n0 Q  a0 κ) : zG C n0 1 mCo_init 0 [some (.ref a0)] [] κ (oV Q noX) := by
  unfold w_Co_init_0 at F
  refine y_aln dX2_init_0 rfl ?_
  refine y_oinit dX2_init_1 rfl zbi_X2_3 (Nat.le_of_ble_eq_true rfl) (Nat.le_of_ble_eq_true rfl) ?_
  refine y_aln dX2_init_4 rfl ?_
  refine y_bi1 dX2_init_5 zb_10 ?_
  have b2 := F.1
  refine y_newa (t := 0) W dX2_init_7 (by decide) b2 (fun κ1 eκ1 => ?_)
  replace F := F.2 κ1 eκ1
  have Wκ1 : zW C n0 κ1 := zW_na W eκ1 (by decide) (by decide) b2.2
  have Mκ1 : zM (zn κ) κ κ1 := zM_na (W.lo (Nat.le_trans W.1.2.1 W.1.2.2) (Nat.le_refl _)) eκ1
  replace F := F Wκ1
  have g3 : zT κ1 (zn κ) = 20 := by rw [eκ1]; exact if_pos rfl
  have b5 := F.1
  replace F := F.2
  have h6 := (ztm W Mκ1 Ta0)
  refine pf_X2_9 Wκ1 dX2_init_9 rfl rfl (Or.inr h6) g3 (fun κ4 eκ4 => ?_)
  replace F := F κ4 eκ4
  have Wκ4 : zW C n0 κ4 := zW_uo Wκ1 eκ4 (fun t ht => by cases ht; exact g3) b5
  have Mκ4 : zM (zn κ1) κ1 κ4 := by rw [eκ4]; exact zM.of rfl rfl rfl
  replace F := F Wκ4
  refine y_aln dX2_init_12 rfl ?_
  refine y_ic dX2_init_13 zi_3 ?_
  have b8 := F.1
  refine y_newa (t := 0) Wκ4 dX2_init_14 (by decide) b8 (fun κ7 eκ7 => ?_)
  replace F := F.2 κ7 eκ7
  have Wκ7 : zW C n0 κ7 := zW_na Wκ4 eκ7 (by decide) (by decide) b8.2
  have Mκ7 : zM (zn κ4) κ4 κ7 := zM_na (Wκ4.lo (Nat.le_trans Wκ4.1.2.1 Wκ4.1.2.2) (Nat.le_refl _)) eκ7
  replace F := F Wκ7
  have g9 : zT κ7 (zn κ4) = 20 := by rw [eκ7]; exact if_pos rfl
  have b11 := F.1
  replace F := F.2
  have h12 := (ztm Wκ4 Mκ7 (ztm Wκ1 Mκ4 h6))
  refine pf_X2_15 Wκ7 dX2_init_16 rfl rfl (Or.inr h12) g9 (fun κ10 eκ10 => ?_)
  replace F := F κ10 eκ10
  have Wκ10 : zW C n0 κ10 := zW_uo Wκ7 eκ10 (fun t ht => by cases ht; exact g9) b11
  have Mκ10 : zM (zn κ7) κ7 κ10 := by rw [eκ10]; exact zM.of rfl rfl rfl
  replace F := F Wκ10
  refine y_aln dX2_init_19 rfl ?_
  refine y_ic dX2_init_20 zi_3 ?_
  have b14 := F.1
  refine y_newa (t := 0) Wκ10 dX2_init_21 (by decide) b14 (fun κ13 eκ13 => ?_)
  replace F := F.2 κ13 eκ13
  have Wκ13 : zW C n0 κ13 := zW_na Wκ10 eκ13 (by decide) (by decide) b14.2
  have Mκ13 : zM (zn κ10) κ10 κ13 := zM_na (Wκ10.lo (Nat.le_trans Wκ10.1.2.1 Wκ10.1.2.2) (Nat.le_refl _)) eκ13
  replace F := F Wκ13
  have g15 : zT κ13 (zn κ10) = 20 := by rw [eκ13]; exact if_pos rfl
  have b17 := F.1
  replace F := F.2
  have h18 := (ztm Wκ10 Mκ13 (ztm Wκ7 Mκ10 h12))
  refine pf_X2_18 Wκ13 dX2_init_23 rfl rfl (Or.inr h18) g15 (fun κ16 eκ16 => ?_)
  replace F := F κ16 eκ16
  have Wκ16 : zW C n0 κ16 := zW_uo Wκ13 eκ16 (fun t ht => by cases ht; exact g15) b17
  have Mκ16 : zM (zn κ13) κ13 κ16 := by rw [eκ16]; exact zM.of rfl rfl rfl
  replace F := F Wκ16
  refine y_aln dX2_init_26 rfl ?_
  refine y_bi1 dX2_init_27 zb_10 ?_
  have b20 := F.1
  refine y_newa (t := 0) Wκ16 dX2_init_29 (by decide) b20 (fun κ19 eκ19 => ?_)
  replace F := F.2 κ19 eκ19
  have Wκ19 : zW C n0 κ19 := zW_na Wκ16 eκ19 (by decide) (by decide) b20.2
  have Mκ19 : zM (zn κ16) κ16 κ19 := zM_na (Wκ16.lo (Nat.le_trans Wκ16.1.2.1 Wκ16.1.2.2) (Nat.le_refl _)) eκ19
  replace F := F Wκ19
  have g21 : zT κ19 (zn κ16) = 20 := by rw [eκ19]; exact if_pos rfl
  have b23 := F.1
  replace F := F.2
  have h24 := (ztm Wκ16 Mκ19 (ztm Wκ13 Mκ16 h18))
  refine pf_X2_21 Wκ19 dX2_init_31 rfl rfl (Or.inr h24) g21 (fun κ22 eκ22 => ?_)
  replace F := F κ22 eκ22
  have Wκ22 : zW C n0 κ22 := zW_uo Wκ19 eκ22 (fun t ht => by cases ht; exact g21) b23
  have Mκ22 : zM (zn κ19) κ19 κ22 := by rw [eκ22]; exact zM.of rfl rfl rfl
  replace F := F Wκ22
  refine y_aln dX2_init_34 rfl ?_
  refine y_bi1 dX2_init_35 zb_10 ?_
  have b26 := F.1
  refine y_newa (t := 0) Wκ22 dX2_init_37 (by decide) b26 (fun κ25 eκ25 => ?_)
  replace F := F.2 κ25 eκ25
  have Wκ25 : zW C n0 κ25 := zW_na Wκ22 eκ25 (by decide) (by decide) b26.2
  have Mκ25 : zM (zn κ22) κ22 κ25 := zM_na (Wκ22.lo (Nat.le_trans Wκ22.1.2.1 Wκ22.1.2.2) (Nat.le_refl _)) eκ25
  replace F := F Wκ25
  have g27 : zT κ25 (zn κ22) = 20 := by rw [eκ25]; exact if_pos rfl
  have b29 := F.1
  replace F := F.2
  have h30 := (ztm Wκ22 Mκ25 (ztm Wκ19 Mκ22 h24))
  refine pf_X2_24 Wκ25 dX2_init_39 rfl rfl (Or.inr h30) g27 (fun κ28 eκ28 => ?_)
  replace F := F κ28 eκ28
  have Wκ28 : zW C n0 κ28 := zW_uo Wκ25 eκ28 (fun t ht => by cases ht; exact g27) b29
  have Mκ28 : zM (zn κ25) κ25 κ28 := by rw [eκ28]; exact zM.of rfl rfl rfl
  replace F := F Wκ28
  refine y_aln dX2_init_42 rfl ?_
  refine y_bi1 dX2_init_43 zb_10 ?_
  have b32 := F.1
  refine y_newa (t := 0) Wκ28 dX2_init_45 (by decide) b32 (fun κ31 eκ31 => ?_)
  replace F := F.2 κ31 eκ31
  have Wκ31 : zW C n0 κ31 := zW_na Wκ28 eκ31 (by decide) (by decide) b32.2
  have Mκ31 : zM (zn κ28) κ28 κ31 := zM_na (Wκ28.lo (Nat.le_trans Wκ28.1.2.1 Wκ28.1.2.2) (Nat.le_refl _)) eκ31
  replace F := F Wκ31
  have g33 : zT κ31 (zn κ28) = 20 := by rw [eκ31]; exact if_pos rfl
  have b35 := F.1
  replace F := F.2
  have h36 := (ztm Wκ28 Mκ31 (ztm Wκ25 Mκ28 h30))
  refine pf_X2_27 Wκ31 dX2_init_47 rfl rfl (Or.inr h36) g33 (fun κ34 eκ34 => ?_)
  replace F := F κ34 eκ34
  have Wκ34 : zW C n0 κ34 := zW_uo Wκ31 eκ34 (fun t ht => by cases ht; exact g33) b35
  have Mκ34 : zM (zn κ31) κ31 κ34 := by rw [eκ34]; exact zM.of rfl rfl rfl
  replace F := F Wκ34
  refine y_aln dX2_init_50 rfl ?_
  refine y_bi1 dX2_init_51 zb_88 ?_
  have b38 := F.1
  refine y_newa (t := 0) Wκ34 dX2_init_53 (by decide) b38 (fun κ37 eκ37 => ?_)
  replace F := F.2 κ37 eκ37
  have Wκ37 : zW C n0 κ37 := zW_na Wκ34 eκ37 (by decide) (by decide) b38.2
  have Mκ37 : zM (zn κ34) κ34 κ37 := zM_na (Wκ34.lo (Nat.le_trans Wκ34.1.2.1 Wκ34.1.2.2) (Nat.le_refl _)) eκ37
  replace F := F Wκ37
  have g39 : zT κ37 (zn κ34) = 20 := by rw [eκ37]; exact if_pos rfl
  have b41 := F.1
  replace F := F.2
  have h42 := (ztm Wκ34 Mκ37 (ztm Wκ31 Mκ34 h36))
  refine pf_X2_30 Wκ37 dX2_init_55 rfl (Or.inr h42) g39 (fun κ40 eκ40 => ?_)
  replace F := F κ40 eκ40
  have Wκ40 : zW C n0 κ40 := zW_uo Wκ37 eκ40 (fun t ht => by cases ht; exact g39) b41
  have Mκ40 : zM (zn κ37) κ37 κ40 := by rw [eκ40]; exact zM.of rfl rfl rfl
  replace F := F Wκ40
  refine y_aln dX2_init_58 rfl ?_
  refine y_bi1 dX2_init_59 zb_64 ?_
  have b44 := F.1
  refine y_newa (t := 0) Wκ40 dX2_init_61 (by decide) b44 (fun κ43 eκ43 => ?_)
  replace F := F.2 κ43 eκ43
  have Wκ43 : zW C n0 κ43 := zW_na Wκ40 eκ43 (by decide) (by decide) b44.2
  have Mκ43 : zM (zn κ40) κ40 κ43 := zM_na (Wκ40.lo (Nat.le_trans Wκ40.1.2.1 Wκ40.1.2.2) (Nat.le_refl _)) eκ43
  replace F := F Wκ43
  have g45 : zT κ43 (zn κ40) = 20 := by rw [eκ43]; exact if_pos rfl
  have b47 := F.1
  replace F := F.2
  have h48 := (ztm Wκ40 Mκ43 (ztm Wκ37 Mκ40 h42))
  refine pf_X2_33 Wκ43 dX2_init_63 rfl (Or.inr h48) g45 (fun κ46 eκ46 => ?_)
  replace F := F κ46 eκ46
  have Wκ46 : zW C n0 κ46 := zW_uo Wκ43 eκ46 (fun t ht => by cases ht; exact g45) b47
  have Mκ46 : zM (zn κ43) κ43 κ46 := by rw [eκ46]; exact zM.of rfl rfl rfl
  replace F := F Wκ46
  refine y_aln dX2_init_66 rfl ?_
  refine y_bi1 dX2_init_67 zb_64 ?_
  have b50 := F.1
  refine y_newa (t := 0) Wκ46 dX2_init_69 (by decide) b50 (fun κ49 eκ49 => ?_)
  replace F := F.2 κ49 eκ49
  have Wκ49 : zW C n0 κ49 := zW_na Wκ46 eκ49 (by decide) (by decide) b50.2
  have Mκ49 : zM (zn κ46) κ46 κ49 := zM_na (Wκ46.lo (Nat.le_trans Wκ46.1.2.1 Wκ46.1.2.2) (Nat.le_refl _)) eκ49
  replace F := F Wκ49
  have g51 : zT κ49 (zn κ46) = 20 := by rw [eκ49]; exact if_pos rfl
  have b53 := F.1
  replace F := F.2
  have h54 := (ztm Wκ46 Mκ49 (ztm Wκ43 Mκ46 h48))
  refine pf_X2_36 Wκ49 dX2_init_71 rfl (Or.inr h54) g51 (fun κ52 eκ52 => ?_)
  replace F := F κ52 eκ52
  have Wκ52 : zW C n0 κ52 := zW_uo Wκ49 eκ52 (fun t ht => by cases ht; exact g51) b53
  have Mκ52 : zM (zn κ49) κ49 κ52 := by rw [eκ52]; exact zM.of rfl rfl rfl
  replace F := F Wκ52
  exact y_rv Wκ52 dX2_init_74 rfl F

theorem Co_init_run {C : zC} {n0 : Nat} {Q : zS → Prop} {a0 : Nat} {κ : zS} (W : zW C n0 κ) (Ta0 : zT κ a0 = 45) (F : w_Co_init_0 C (zn κ) Q a0 κ) : zRun C 1 mCo_init [.ref a0] κ (oV Q noX) := z_run (m_ent _ 0) (t_Co_init_0 (W.lo (Nat.le_trans W.1.2.1 W.1.2.2) (Nat.le_refl _)) Ta0 F)

