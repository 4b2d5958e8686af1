/-! methods of the class: Pa_addStatement, Pa_hold, Pa_operand, Pa_findArray, Pa_findVariable, Pa_operandName, Pa_binary, Pa_rankOf, Pa_emitWaiting, Pa_operator, Pa_closeInner, Pa_expression -/
theorem dX7_addStatement_0 : decode cX7_addStatement 0 = .ok (.aload_n 0, 1) := by decide +kernel
theorem dX7_addStatement_1 : decode cX7_addStatement 1 = .ok (.getfield 78, 3) := by decide +kernel
theorem dX7_addStatement_4 : decode cX7_addStatement 4 = .ok (.sipush 140, 3) := by decide +kernel
theorem dX7_addStatement_7 : decode cX7_addStatement 7 = .ok (.if_icmp .eq 52, 3) := by decide +kernel
theorem dX7_addStatement_10 : decode cX7_addStatement 10 = .ok (.aload_n 0, 1) := by decide +kernel
theorem dX7_addStatement_11 : decode cX7_addStatement 11 = .ok (.getfield 78, 3) := by decide +kernel
theorem dX7_addStatement_14 : decode cX7_addStatement 14 = .ok (.sipush 153, 3) := by decide +kernel
theorem dX7_addStatement_17 : decode cX7_addStatement 17 = .ok (.if_icmp .eq 42, 3) := by decide +kernel
theorem dX7_addStatement_20 : decode cX7_addStatement 20 = .ok (.aload_n 0, 1) := by decide +kernel
theorem dX7_addStatement_21 : decode cX7_addStatement 21 = .ok (.getfield 78, 3) := by decide +kernel
theorem dX7_addStatement_24 : decode cX7_addStatement 24 = .ok (.sipush 154, 3) := by decide +kernel
theorem dX7_addStatement_27 : decode cX7_addStatement 27 = .ok (.if_icmp .eq 32, 3) := by decide +kernel
theorem dX7_addStatement_30 : decode cX7_addStatement 30 = .ok (.aload_n 0, 1) := by decide +kernel
theorem dX7_addStatement_31 : decode cX7_addStatement 31 = .ok (.getfield 78, 3) := by decide +kernel
theorem dX7_addStatement_34 : decode cX7_addStatement 34 = .ok (.sipush 156, 3) := by decide +kernel
theorem dX7_addStatement_37 : decode cX7_addStatement 37 = .ok (.if_icmp .lt 13, 3) := by decide +kernel
theorem dX7_addStatement_40 : decode cX7_addStatement 40 = .ok (.aload_n 0, 1) := by decide +kernel
theorem dX7_addStatement_41 : decode cX7_addStatement 41 = .ok (.getfield 78, 3) := by decide +kernel
theorem dX7_addStatement_44 : decode cX7_addStatement 44 = .ok (.sipush 159, 3) := by decide +kernel
theorem dX7_addStatement_47 : decode cX7_addStatement 47 = .ok (.if_icmp .le 12, 3) := by decide +kernel
theorem dX7_addStatement_50 : decode cX7_addStatement 50 = .ok (.aload_n 0, 1) := by decide +kernel
theorem dX7_addStatement_51 : decode cX7_addStatement 51 = .ok (.iconst 2, 1) := by decide +kernel
theorem dX7_addStatement_52 : decode cX7_addStatement 52 = .ok (.aload_n 0, 1) := by decide +kernel
theorem dX7_addStatement_53 : decode cX7_addStatement 53 = .ok (.getfield 55, 3) := by decide +kernel
theorem dX7_addStatement_56 : decode cX7_addStatement 56 = .ok (.invokevirtual 123, 3) := by decide +kernel
theorem dX7_addStatement_59 : decode cX7_addStatement 59 = .ok (.aload_n 0, 1) := by decide +kernel
theorem dX7_addStatement_60 : decode cX7_addStatement 60 = .ok (.getfield 15, 3) := by decide +kernel
theorem dX7_addStatement_63 : decode cX7_addStatement 63 = .ok (.getfield 197, 3) := by decide +kernel
theorem dX7_addStatement_66 : decode cX7_addStatement 66 = .ok (.sipush 150, 3) := by decide +kernel
theorem dX7_addStatement_69 : decode cX7_addStatement 69 = .ok (.if_icmp .lt 13, 3) := by decide +kernel
theorem dX7_addStatement_72 : decode cX7_addStatement 72 = .ok (.aload_n 0, 1) := by decide +kernel
theorem dX7_addStatement_73 : decode cX7_addStatement 73 = .ok (.bipush 15, 2) := by decide +kernel
theorem dX7_addStatement_75 : decode cX7_addStatement 75 = .ok (.aload_n 0, 1) := by decide +kernel
theorem dX7_addStatement_76 : decode cX7_addStatement 76 = .ok (.getfield 55, 3) := by decide +kernel
theorem dX7_addStatement_79 : decode cX7_addStatement 79 = .ok (.invokevirtual 123, 3) := by decide +kernel
theorem dX7_addStatement_82 : decode cX7_addStatement 82 = .ok (.aload_n 0, 1) := by decide +kernel
theorem dX7_addStatement_83 : decode cX7_addStatement 83 = .ok (.getfield 15, 3) := by decide +kernel
theorem dX7_addStatement_86 : decode cX7_addStatement 86 = .ok (.invokevirtual 200, 3) := by decide +kernel
theorem dX7_addStatement_89 : decode cX7_addStatement 89 = .ok (.istore_n 1, 1) := by decide +kernel
theorem dX7_addStatement_90 : decode cX7_addStatement 90 = .ok (.aload_n 0, 1) := by decide +kernel
theorem dX7_addStatement_91 : decode cX7_addStatement 91 = .ok (.getfield 69, 3) := by decide +kernel
theorem dX7_addStatement_94 : decode cX7_addStatement 94 = .ok (.ifCond .le 12, 3) := by decide +kernel
theorem dX7_addStatement_97 : decode cX7_addStatement 97 = .ok (.aload_n 0, 1) := by decide +kernel
theorem dX7_addStatement_98 : decode cX7_addStatement 98 = .ok (.getfield 69, 3) := by decide +kernel
theorem dX7_addStatement_101 : decode cX7_addStatement 101 = .ok (.iconst 1, 1) := by decide +kernel
theorem dX7_addStatement_102 : decode cX7_addStatement 102 = .ok (.isub, 1) := by decide +kernel
theorem dX7_addStatement_103 : decode cX7_addStatement 103 = .ok (.goto 4, 3) := by decide +kernel
theorem dX7_addStatement_106 : decode cX7_addStatement 106 = .ok (.iconst 0, 1) := by decide +kernel
theorem dX7_addStatement_107 : decode cX7_addStatement 107 = .ok (.istore_n 2, 1) := by decide +kernel
theorem dX7_addStatement_108 : decode cX7_addStatement 108 = .ok (.aload_n 0, 1) := by decide +kernel
theorem dX7_addStatement_109 : decode cX7_addStatement 109 = .ok (.getfield 32, 3) := by decide +kernel
theorem dX7_addStatement_112 : decode cX7_addStatement 112 = .ok (.iload_n 2, 1) := by decide +kernel
theorem dX7_addStatement_113 : decode cX7_addStatement 113 = .ok (.iaload, 1) := by decide +kernel
theorem dX7_addStatement_114 : decode cX7_addStatement 114 = .ok (.istore_n 3, 1) := by decide +kernel
theorem dX7_addStatement_115 : decode cX7_addStatement 115 = .ok (.aload_n 0, 1) := by decide +kernel
theorem dX7_addStatement_116 : decode cX7_addStatement 116 = .ok (.getfield 35, 3) := by decide +kernel
theorem dX7_addStatement_119 : decode cX7_addStatement 119 = .ok (.iload_n 2, 1) := by decide +kernel
theorem dX7_addStatement_120 : decode cX7_addStatement 120 = .ok (.iaload, 1) := by decide +kernel
theorem dX7_addStatement_121 : decode cX7_addStatement 121 = .ok (.iconst (-1), 1) := by decide +kernel
theorem dX7_addStatement_122 : decode cX7_addStatement 122 = .ok (.if_icmp .eq 22, 3) := by decide +kernel
theorem dX7_addStatement_125 : decode cX7_addStatement 125 = .ok (.aload_n 0, 1) := by decide +kernel
theorem dX7_addStatement_126 : decode cX7_addStatement 126 = .ok (.getfield 15, 3) := by decide +kernel
theorem dX7_addStatement_129 : decode cX7_addStatement 129 = .ok (.aload_n 0, 1) := by decide +kernel
theorem dX7_addStatement_130 : decode cX7_addStatement 130 = .ok (.getfield 35, 3) := by decide +kernel
theorem dX7_addStatement_133 : decode cX7_addStatement 133 = .ok (.iload_n 2, 1) := by decide +kernel
theorem dX7_addStatement_134 : decode cX7_addStatement 134 = .ok (.iaload, 1) := by decide +kernel
theorem dX7_addStatement_135 : decode cX7_addStatement 135 = .ok (.bipush 8, 2) := by decide +kernel
theorem dX7_addStatement_137 : decode cX7_addStatement 137 = .ok (.iload_n 1, 1) := by decide +kernel
theorem dX7_addStatement_138 : decode cX7_addStatement 138 = .ok (.invokevirtual 201, 3) := by decide +kernel
theorem dX7_addStatement_141 : decode cX7_addStatement 141 = .ok (.goto 64, 3) := by decide +kernel
theorem dX7_addStatement_144 : decode cX7_addStatement 144 = .ok (.iload_n 3, 1) := by decide +kernel
theorem dX7_addStatement_145 : decode cX7_addStatement 145 = .ok (.iconst (-1), 1) := by decide +kernel
theorem dX7_addStatement_146 : decode cX7_addStatement 146 = .ok (.if_icmp .eq 31, 3) := by decide +kernel
theorem dX7_addStatement_149 : decode cX7_addStatement 149 = .ok (.aload_n 0, 1) := by decide +kernel
theorem dX7_addStatement_150 : decode cX7_addStatement 150 = .ok (.getfield 15, 3) := by decide +kernel
theorem dX7_addStatement_153 : decode cX7_addStatement 153 = .ok (.iload_n 3, 1) := by decide +kernel
theorem dX7_addStatement_154 : decode cX7_addStatement 154 = .ok (.aload_n 0, 1) := by decide +kernel
theorem dX7_addStatement_155 : decode cX7_addStatement 155 = .ok (.getfield 38, 3) := by decide +kernel
theorem dX7_addStatement_158 : decode cX7_addStatement 158 = .ok (.iload_n 2, 1) := by decide +kernel
theorem dX7_addStatement_159 : decode cX7_addStatement 159 = .ok (.baload, 1) := by decide +kernel
theorem dX7_addStatement_160 : decode cX7_addStatement 160 = .ok (.ifCond .eq 8, 3) := by decide +kernel
theorem dX7_addStatement_163 : decode cX7_addStatement 163 = .ok (.bipush 7, 2) := by decide +kernel
theorem dX7_addStatement_165 : decode cX7_addStatement 165 = .ok (.goto 5, 3) := by decide +kernel
theorem dX7_addStatement_168 : decode cX7_addStatement 168 = .ok (.bipush 6, 2) := by decide +kernel
theorem dX7_addStatement_170 : decode cX7_addStatement 170 = .ok (.iload_n 1, 1) := by decide +kernel
theorem dX7_addStatement_171 : decode cX7_addStatement 171 = .ok (.invokevirtual 201, 3) := by decide +kernel
theorem dX7_addStatement_174 : decode cX7_addStatement 174 = .ok (.goto 31, 3) := by decide +kernel
theorem dX7_addStatement_177 : decode cX7_addStatement 177 = .ok (.aload_n 0, 1) := by decide +kernel
theorem dX7_addStatement_178 : decode cX7_addStatement 178 = .ok (.getfield 15, 3) := by decide +kernel
theorem dX7_addStatement_181 : decode cX7_addStatement 181 = .ok (.getfield 140, 3) := by decide +kernel
theorem dX7_addStatement_184 : decode cX7_addStatement 184 = .ok (.bipush 10, 2) := by decide +kernel
theorem dX7_addStatement_186 : decode cX7_addStatement 186 = .ok (.if_icmp .ge 19, 3) := by decide +kernel
theorem dX7_addStatement_189 : decode cX7_addStatement 189 = .ok (.aload_n 0, 1) := by decide +kernel
theorem dX7_addStatement_190 : decode cX7_addStatement 190 = .ok (.getfield 15, 3) := by decide +kernel
theorem dX7_addStatement_193 : decode cX7_addStatement 193 = .ok (.getfield 205, 3) := by decide +kernel
theorem dX7_addStatement_196 : decode cX7_addStatement 196 = .ok (.aload_n 0, 1) := by decide +kernel
theorem dX7_addStatement_197 : decode cX7_addStatement 197 = .ok (.getfield 15, 3) := by decide +kernel
theorem dX7_addStatement_200 : decode cX7_addStatement 200 = .ok (.getfield 140, 3) := by decide +kernel
theorem dX7_addStatement_203 : decode cX7_addStatement 203 = .ok (.iload_n 1, 1) := by decide +kernel
theorem dX7_addStatement_204 : decode cX7_addStatement 204 = .ok (.iastore, 1) := by decide +kernel
theorem dX7_addStatement_205 : decode cX7_addStatement 205 = .ok (.aload_n 0, 1) := by decide +kernel
theorem dX7_addStatement_206 : decode cX7_addStatement 206 = .ok (.getfield 35, 3) := by decide +kernel
theorem dX7_addStatement_209 : decode cX7_addStatement 209 = .ok (.iload_n 2, 1) := by decide +kernel
theorem dX7_addStatement_210 : decode cX7_addStatement 210 = .ok (.iload_n 1, 1) := by decide +kernel
theorem dX7_addStatement_211 : decode cX7_addStatement 211 = .ok (.iastore, 1) := by decide +kernel
theorem dX7_addStatement_212 : decode cX7_addStatement 212 = .ok (.aload_n 0, 1) := by decide +kernel
theorem dX7_addStatement_213 : decode cX7_addStatement 213 = .ok (.getfield 15, 3) := by decide +kernel
theorem dX7_addStatement_216 : decode cX7_addStatement 216 = .ok (.iload_n 1, 1) := by decide +kernel
theorem dX7_addStatement_217 : decode cX7_addStatement 217 = .ok (.bipush 9, 2) := by decide +kernel
theorem dX7_addStatement_219 : decode cX7_addStatement 219 = .ok (.iload_n 3, 1) := by decide +kernel
theorem dX7_addStatement_220 : decode cX7_addStatement 220 = .ok (.invokevirtual 201, 3) := by decide +kernel
theorem dX7_addStatement_223 : decode cX7_addStatement 223 = .ok (.aload_n 0, 1) := by decide +kernel
theorem dX7_addStatement_224 : decode cX7_addStatement 224 = .ok (.getfield 15, 3) := by decide +kernel
theorem dX7_addStatement_227 : decode cX7_addStatement 227 = .ok (.iload_n 1, 1) := by decide +kernel
theorem dX7_addStatement_228 : decode cX7_addStatement 228 = .ok (.bipush 10, 2) := by decide +kernel
theorem dX7_addStatement_230 : decode cX7_addStatement 230 = .ok (.aload_n 0, 1) := by decide +kernel
theorem dX7_addStatement_231 : decode cX7_addStatement 231 = .ok (.getfield 15, 3) := by decide +kernel
theorem dX7_addStatement_234 : decode cX7_addStatement 234 = .ok (.getfield 140, 3) := by decide +kernel
theorem dX7_addStatement_237 : decode cX7_addStatement 237 = .ok (.invokevirtual 201, 3) := by decide +kernel
theorem dX7_addStatement_240 : decode cX7_addStatement 240 = .ok (.iload_n 1, 1) := by decide +kernel
theorem dX7_addStatement_241 : decode cX7_addStatement 241 = .ok (.ireturn, 1) := by decide +kernel
def w_Pa_addStatement_205 (C : zC) (n0 : Nat) (Q : Int32 → zS → Prop) (X : zXp)  (a0 : Nat) (a1 : Int32) (a2 : Int32) (a3 : Int32) (κ : zS) : Prop :=
  inb a2 (zN κ (zR κ paLasts a0)) ∧
  ∀ κ1, κ1 = ua κ (zR κ paLasts a0) (a2).toNatClampNeg a1 →
  ∀ _ : zW C n0 κ1,
  ∀ _ : zT κ1 (zR κ1 paCode a0) = 5,
  zRun C 0 mCo_setColumn [.ref (zR κ1 paCode a0), .int a1, .int (9 : Int32), .int a3] κ1 (oV (fun κ3 =>
    ∀ _ : zW C n0 κ3,
    ∀ _ : zM (zn κ1) κ1 κ3,
    ∀ _ : zT κ3 (zR κ3 paCode a0) = 5,
    zRun C 0 mCo_setColumn [.ref (zR κ3 paCode a0), .int a1, .int (10 : Int32), .int (zI κ3 coFunctions (zR κ3 paCode a0))] κ3 (oV (fun κ7 =>
      ∀ _ : zW C n0 κ7,
      ∀ _ : zM (zn κ3) κ3 κ7,
      Q a1 κ7) noX)) noX)
theorem t_Pa_addStatement_205 {C : zC} {n0 : Nat} {Q : Int32 → zS → Prop} {X : zXp}   {a0 : Nat} {a1 : Int32} {a2 : Int32} {a3 : Int32} {κ : zS} (W : zW C n0 κ) (Ta0 : zT κ a0 = 10) (F : w_Pa_addStatement_205 C n0 Q X  a0 a1 a2 a3 κ) : zG C n0 9 mPa_addStatement 205 [some (.ref a0), some (.int a1), some (.int a2), some (.int a3)] [] κ (oI Q X) := by
  unfold w_Pa_addStatement_205 at F
  refine y_aln dX7_addStatement_205 rfl ?_
  refine gf_X7_35 W dX7_addStatement_206 rfl Ta0 ?_
  refine y_iln dX7_addStatement_209 rfl ?_
  refine y_iln dX7_addStatement_210 rfl ?_
  refine y_ast W dX7_addStatement_211 (ty_paLasts W Ta0) F.1 (fun κ1 eκ1 => ?_)
  replace F := F.2 κ1 eκ1
  have Wκ1 : zW C n0 κ1 := zW_ua W eκ1 (fun h => absurd (h.symm.trans (ty_paLasts W Ta0)) (by decide)) (fun h => absurd (h.symm.trans (ty_paLasts W Ta0)) (by decide))
  have Mκ1 : zM (zn κ) κ κ1 := by rw [eκ1]; exact zM.of rfl rfl rfl
  replace F := F Wκ1
  refine y_aln dX7_addStatement_212 rfl ?_
  have h2 := (ztm W Mκ1 Ta0)
  refine gf_X7_15 Wκ1 dX7_addStatement_213 rfl h2 ?_
  refine y_iln dX7_addStatement_216 rfl ?_
  refine y_bi1 dX7_addStatement_217 zb_9 ?_
  refine y_iln dX7_addStatement_219 rfl ?_
  replace F := F (ty_paCode Wκ1 h2)
  refine k_X7_201 Wκ1 dX7_addStatement_220 rfl (Nat.le_of_ble_eq_true rfl) (Nat.le_of_ble_eq_true rfl) (Or.inl (ty_paCode Wκ1 h2)) F (fun  κ3 Wκ3 Mκ3 F => ?_) (fun _ _ h9 => False.elim h9)
  replace F := F Wκ3 Mκ3
  refine y_aln dX7_addStatement_223 rfl ?_
  have h6 := (ztm Wκ1 Mκ3 h2)
  refine gf_X7_15 Wκ3 dX7_addStatement_224 rfl h6 ?_
  refine y_iln dX7_addStatement_227 rfl ?_
  refine y_bi1 dX7_addStatement_228 zb_10 ?_
  refine y_aln dX7_addStatement_230 rfl ?_
  refine gf_X7_15 Wκ3 dX7_addStatement_231 rfl h6 ?_
  refine gf_X7_140 dX7_addStatement_234 rfl (Or.inl (ty_paCode Wκ3 h6)) ?_
  replace F := F (ty_paCode Wκ3 h6)
  refine k_X7_201 Wκ3 dX7_addStatement_237 rfl (Nat.le_of_ble_eq_true rfl) (Nat.le_of_ble_eq_true rfl) (Or.inl (ty_paCode Wκ3 h6)) F (fun  κ7 Wκ7 Mκ7 F => ?_) (fun _ _ h9 => False.elim h9)
  replace F := F Wκ7 Mκ7
  refine y_iln dX7_addStatement_240 rfl ?_
  exact y_ri Wκ7 dX7_addStatement_241 rfl in_nar F

def w_Pa_addStatement_170 (C : zC) (n0 : Nat) (Q : Int32 → zS → Prop) (X : zXp)  (a0 : Nat) (a1 : Int32) (a2 : Int32) (a3 : Int32) (s0 : Nat) (s1 : Int32) (s2 : Int32) (κ : zS) : Prop :=
  ∀ _ : zT κ s0 = 5,
  zRun C 0 mCo_setColumn [.ref s0, .int s1, .int s2, .int a1] κ (oV (fun κ1 =>
    ∀ _ : zW C n0 κ1,
    ∀ _ : zM (zn κ) κ κ1,
    w_Pa_addStatement_205 C n0 Q X  a0 a1 a2 a3 κ1) noX)
theorem t_Pa_addStatement_170 {C : zC} {n0 : Nat} {Q : Int32 → zS → Prop} {X : zXp}   {a0 : Nat} {a1 : Int32} {a2 : Int32} {a3 : Int32} {s0 : Nat} {s1 : Int32} {s2 : Int32} {κ : zS} (W : zW C n0 κ) (Ta0 : zT κ a0 = 10) (Ts0 : zT κ s0 = 5) (F : w_Pa_addStatement_170 C n0 Q X  a0 a1 a2 a3 s0 s1 s2 κ) : zG C n0 9 mPa_addStatement 170 [some (.ref a0), some (.int a1), some (.int a2), some (.int a3)] [.int s2, .int s1, .ref s0] κ (oI Q X) := by
  unfold w_Pa_addStatement_170 at F
  refine y_iln dX7_addStatement_170 rfl ?_
  replace F := F Ts0
  refine k_X7_201 W dX7_addStatement_171 rfl (Nat.le_of_ble_eq_true rfl) (Nat.le_of_ble_eq_true rfl) (Or.inl Ts0) F (fun  κ1 Wκ1 Mκ1 F => ?_) (fun _ _ h9 => False.elim h9)
  replace F := F Wκ1 Mκ1
  refine y_goto dX7_addStatement_174 (t := 205) rfl ?_
  have h4 := (ztm W Mκ1 Ta0)
  exact y_k (t_Pa_addStatement_205  Wκ1 h4 F) ⟨rfl, rfl, rfl, rfl, trivial⟩

def w_Pa_addStatement_107 (C : zC) (n0 : Nat) (Q : Int32 → zS → Prop) (X : zXp)  (a0 : Nat) (a1 : Int32) (s0 : Int32) (κ : zS) : Prop :=
  inb s0 (zN κ (zR κ paOwners a0)) ∧
  ∀ v3_1 : Int32, v3_1 = (zA κ (zR κ paOwners a0) (s0).toNatClampNeg) →
  inb s0 (zN κ (zR κ paLasts a0)) ∧
  ((zA κ (zR κ paLasts a0) (s0).toNatClampNeg) = (-1 : Int32) →
    (v3_1 = (-1 : Int32) →
      ((10 : Int32) ≤ (zI κ coFunctions (zR κ paCode a0)) →
        w_Pa_addStatement_205 C n0 Q X  a0 a1 s0 v3_1 κ) ∧
      (¬ (10 : Int32) ≤ (zI κ coFunctions (zR κ paCode a0)) →
        inb (zI κ coFunctions (zR κ paCode a0)) (zN κ (zR κ coFirstStatements (zR κ paCode a0))) ∧
        ∀ κ2, κ2 = ua κ (zR κ coFirstStatements (zR κ paCode a0)) ((zI κ coFunctions (zR κ paCode a0))).toNatClampNeg a1 →
        ∀ _ : zW C n0 κ2,
        w_Pa_addStatement_205 C n0 Q X  a0 a1 s0 v3_1 κ2)) ∧
    (¬ v3_1 = (-1 : Int32) →
      inb s0 (zN κ (zR κ paElses a0)) ∧
      ((zA κ (zR κ paElses a0) (s0).toNatClampNeg) = (0 : Int32) →
        w_Pa_addStatement_170 C n0 Q X  a0 a1 s0 v3_1 (zR κ paCode a0) v3_1 (6 : Int32) κ) ∧
      (¬ (zA κ (zR κ paElses a0) (s0).toNatClampNeg) = (0 : Int32) →
        w_Pa_addStatement_170 C n0 Q X  a0 a1 s0 v3_1 (zR κ paCode a0) v3_1 (7 : Int32) κ))) ∧
  (¬ (zA κ (zR κ paLasts a0) (s0).toNatClampNeg) = (-1 : Int32) →
    inb s0 (zN κ (zR κ paLasts a0)) ∧
    ∀ _ : zT κ (zR κ paCode a0) = 5,
    zRun C 0 mCo_setColumn [.ref (zR κ paCode a0), .int (zA κ (zR κ paLasts a0) (s0).toNatClampNeg), .int (8 : Int32), .int a1] κ (oV (fun κ4 =>
      ∀ _ : zW C n0 κ4,
      ∀ _ : zM (zn κ) κ κ4,
      w_Pa_addStatement_205 C n0 Q X  a0 a1 s0 v3_1 κ4) noX))
theorem t_Pa_addStatement_107 {C : zC} {n0 : Nat} {Q : Int32 → zS → Prop} {X : zXp}   {a0 : Nat} {a1 : Int32} {s0 : Int32} {κ : zS} (W : zW C n0 κ) (Ta0 : zT κ a0 = 10) (F : w_Pa_addStatement_107 C n0 Q X  a0 a1 s0 κ) : zG C n0 9 mPa_addStatement 107 [some (.ref a0), some (.int a1), none, none] [.int s0] κ (oI Q X) := by
  unfold w_Pa_addStatement_107 at F
  refine y_isn dX7_addStatement_107 (Nat.le_of_ble_eq_true rfl) rfl ?_
  show zG _ _ _ _ _ [some (.ref a0), some (.int a1), some (.int s0), none] _ _ _
  refine y_aln dX7_addStatement_108 rfl ?_
  refine gf_X7_32 W dX7_addStatement_109 rfl Ta0 ?_
  refine y_iln dX7_addStatement_112 rfl ?_
  refine y_ald dX7_addStatement_113 (ty_paOwners W Ta0) F.1 ?_
  replace F := F.2
  refine y_isnb dX7_addStatement_114 (Nat.le_of_ble_eq_true rfl) (fun v3_1 ev3_1 => ?_)
  replace F := F v3_1 ev3_1
  show zG _ _ _ _ _ [some (.ref a0), some (.int a1), some (.int s0), some (.int v3_1)] _ _ _
  refine y_aln dX7_addStatement_115 rfl ?_
  refine gf_X7_35 W dX7_addStatement_116 rfl Ta0 ?_
  refine y_iln dX7_addStatement_119 rfl ?_
  refine y_ald dX7_addStatement_120 (ty_paLasts W Ta0) F.1 ?_
  replace F := F.2
  refine y_ic dX7_addStatement_121 zi_m1 ?_
  refine y_ii ((zA κ (zR κ paLasts a0) (s0).toNatClampNeg) = (-1 : Int32)) dX7_addStatement_122 (t := 144) rfl rfl (fun c9 => ?_) (fun c9 => ?_)
  · replace F := F.1 c9
    refine y_iln dX7_addStatement_144 rfl ?_
    refine y_ic dX7_addStatement_145 zi_m1 ?_
    refine y_ii (v3_1 = (-1 : Int32)) dX7_addStatement_146 (t := 177) rfl rfl (fun c9 => ?_) (fun c9 => ?_)
    · replace F := F.1 c9
      refine y_aln dX7_addStatement_177 rfl ?_
      refine gf_X7_15 W dX7_addStatement_178 rfl Ta0 ?_
      refine gf_X7_140 dX7_addStatement_181 rfl (Or.inl (ty_paCode W Ta0)) ?_
      refine y_bi1 dX7_addStatement_184 zb_10 ?_
      refine y_ii ((10 : Int32) ≤ (zI κ coFunctions (zR κ paCode a0))) dX7_addStatement_186 (t := 205) rfl rfl (fun c9 => ?_) (fun c9 => ?_)
      · replace F := F.1 c9
        exact y_k (t_Pa_addStatement_205  W Ta0 F) ⟨rfl, rfl, rfl, rfl, trivial⟩
      · replace F := F.2 c9
        refine y_aln dX7_addStatement_189 rfl ?_
        refine gf_X7_15 W dX7_addStatement_190 rfl Ta0 ?_
        refine gf_X7_205 W dX7_addStatement_193 rfl (ty_paCode W Ta0) ?_
        refine y_aln dX7_addStatement_196 rfl ?_
        refine gf_X7_15 W dX7_addStatement_197 rfl Ta0 ?_
        refine gf_X7_140 dX7_addStatement_200 rfl (Or.inl (ty_paCode W Ta0)) ?_
        refine y_iln dX7_addStatement_203 rfl ?_
        refine y_ast W dX7_addStatement_204 (ty_coFirstStatements W (ty_paCode W Ta0)) F.1 (fun κ2 eκ2 => ?_)
        replace F := F.2 κ2 eκ2
        have Wκ2 : zW C n0 κ2 := zW_ua W eκ2 (fun h => absurd (h.symm.trans (ty_coFirstStatements W (ty_paCode W Ta0))) (by decide)) (fun h => absurd (h.symm.trans (ty_coFirstStatements W (ty_paCode W Ta0))) (by decide))
        have Mκ2 : zM (zn κ) κ κ2 := by rw [eκ2]; exact zM.of rfl rfl rfl
        replace F := F Wκ2
        have h3 := (ztm W Mκ2 Ta0)
        exact y_k (t_Pa_addStatement_205  Wκ2 h3 F) ⟨rfl, rfl, rfl, rfl, trivial⟩
    · replace F := F.2 c9
      refine y_aln dX7_addStatement_149 rfl ?_
      refine gf_X7_15 W dX7_addStatement_150 rfl Ta0 ?_
      refine y_iln dX7_addStatement_153 rfl ?_
      refine y_aln dX7_addStatement_154 rfl ?_
      refine gf_X7_38 W dX7_addStatement_155 rfl Ta0 ?_
      refine y_iln dX7_addStatement_158 rfl ?_
      refine y_zld dX7_addStatement_159 (ty_paElses W Ta0) F.1 ?_
      replace F := F.2
      refine y_i ((zA κ (zR κ paElses a0) (s0).toNatClampNeg) = (0 : Int32)) dX7_addStatement_160 (t := 168) rfl rfl (fun c9 => ?_) (fun c9 => ?_)
      · replace F := F.1 c9
        refine y_bi1 dX7_addStatement_168 zb_6 ?_
        exact y_k (t_Pa_addStatement_170  W Ta0 (ty_paCode W Ta0) F) ⟨rfl, rfl, rfl, rfl, trivial⟩
      · replace F := F.2 c9
        refine y_bi1 dX7_addStatement_163 zb_7 ?_
        refine y_goto dX7_addStatement_165 (t := 170) rfl ?_
        exact y_k (t_Pa_addStatement_170  W Ta0 (ty_paCode W Ta0) F) ⟨rfl, rfl, rfl, rfl, trivial⟩
  · replace F := F.2 c9
    refine y_aln dX7_addStatement_125 rfl ?_
    refine gf_X7_15 W dX7_addStatement_126 rfl Ta0 ?_
    refine y_aln dX7_addStatement_129 rfl ?_
    refine gf_X7_35 W dX7_addStatement_130 rfl Ta0 ?_
    refine y_iln dX7_addStatement_133 rfl ?_
    refine y_ald dX7_addStatement_134 (ty_paLasts W Ta0) F.1 ?_
    replace F := F.2
    refine y_bi1 dX7_addStatement_135 zb_8 ?_
    refine y_iln dX7_addStatement_137 rfl ?_
    replace F := F (ty_paCode W Ta0)
    refine k_X7_201 W dX7_addStatement_138 rfl (Nat.le_of_ble_eq_true rfl) (Nat.le_of_ble_eq_true rfl) (Or.inl (ty_paCode W Ta0)) F (fun  κ4 Wκ4 Mκ4 F => ?_) (fun _ _ h9 => False.elim h9)
    replace F := F Wκ4 Mκ4
    refine y_goto dX7_addStatement_141 (t := 205) rfl ?_
    have h7 := (ztm W Mκ4 Ta0)
    exact y_k (t_Pa_addStatement_205  Wκ4 h7 F) ⟨rfl, rfl, rfl, rfl, trivial⟩

def w_Pa_addStatement_82 (C : zC) (n0 : Nat) (Q : Int32 → zS → Prop) (X : zXp)  (a0 : Nat) (κ : zS) : Prop :=
  ∀ _ : zT κ (zR κ paCode a0) = 5,
  zRun C 2 mCo_addStatement [.ref (zR κ paCode a0)] κ (oI (fun r2 κ1 =>
    ∀ _ : zW C n0 κ1,
    ∀ _ : zM (zn κ) κ κ1,
    ((zI κ1 paBlocks a0) ≤ (0 : Int32) →
      w_Pa_addStatement_107 C n0 Q X  a0 r2 (0 : Int32) κ1) ∧
    (¬ (zI κ1 paBlocks a0) ≤ (0 : Int32) →
      w_Pa_addStatement_107 C n0 Q X  a0 r2 ((zI κ1 paBlocks a0) - (1 : Int32)) κ1)) noX)
theorem t_Pa_addStatement_82 {C : zC} {n0 : Nat} {Q : Int32 → zS → Prop} {X : zXp}   {a0 : Nat} {κ : zS} (W : zW C n0 κ) (Ta0 : zT κ a0 = 10) (F : w_Pa_addStatement_82 C n0 Q X  a0 κ) : zG C n0 9 mPa_addStatement 82 [some (.ref a0), none, none, none] [] κ (oI Q X) := by
  unfold w_Pa_addStatement_82 at F
  refine y_aln dX7_addStatement_82 rfl ?_
  refine gf_X7_15 W dX7_addStatement_83 rfl Ta0 ?_
  replace F := F (ty_paCode W Ta0)
  refine k_X7_200 W dX7_addStatement_86 rfl (Nat.le_of_ble_eq_true rfl) (Nat.le_of_ble_eq_true rfl) (Or.inl (ty_paCode W Ta0)) F (fun r2 κ1 Wκ1 Mκ1 F => ?_) (fun _ _ h9 => False.elim h9)
  replace F := F Wκ1 Mκ1
  refine y_isn dX7_addStatement_89 (Nat.le_of_ble_eq_true rfl) rfl ?_
  show zG _ _ _ _ _ [some (.ref a0), some (.int r2), none, none] _ _ _
  refine y_aln dX7_addStatement_90 rfl ?_
  have h4 := (ztm W Mκ1 Ta0)
  refine gf_X7_69 dX7_addStatement_91 rfl (Or.inl h4) ?_
  refine y_i ((zI κ1 paBlocks a0) ≤ (0 : Int32)) dX7_addStatement_94 (t := 106) rfl rfl (fun c9 => ?_) (fun c9 => ?_)
  · replace F := F.1 c9
    refine y_ic dX7_addStatement_106 zi_0 ?_
    exact y_k (t_Pa_addStatement_107  Wκ1 h4 F) ⟨rfl, rfl, trivial⟩
  · replace F := F.2 c9
    refine y_aln dX7_addStatement_97 rfl ?_
    refine gf_X7_69 dX7_addStatement_98 rfl (Or.inl h4) ?_
    refine y_ic dX7_addStatement_101 zi_1 ?_
    refine y_isub dX7_addStatement_102 ?_
    refine y_goto dX7_addStatement_103 (t := 107) rfl ?_
    exact y_k (t_Pa_addStatement_107  Wκ1 h4 F) ⟨rfl, rfl, trivial⟩

def w_Pa_addStatement_59 (C : zC) (n0 : Nat) (Q : Int32 → zS → Prop) (X : zXp)  (a0 : Nat) (κ : zS) : Prop :=
  ((zI κ coStatements (zR κ paCode a0)) < (150 : Int32) →
    w_Pa_addStatement_82 C n0 Q X  a0 κ) ∧
  (¬ (zI κ coStatements (zR κ paCode a0)) < (150 : Int32) →
    ∀ _ : zT κ a0 = 10,
    zRun C 8 mPa_refuse [.ref a0, .int (15 : Int32), .int (zI κ paAt a0)] κ (oV (fun κ1 =>
      ∀ _ : zW C n0 κ1,
      ∀ _ : zM (zn κ) κ κ1,
      w_Pa_addStatement_82 C n0 Q X  a0 κ1) X))
theorem t_Pa_addStatement_59 {C : zC} {n0 : Nat} {Q : Int32 → zS → Prop} {X : zXp}   {a0 : Nat} {κ : zS} (W : zW C n0 κ) (Ta0 : zT κ a0 = 10) (F : w_Pa_addStatement_59 C n0 Q X  a0 κ) : zG C n0 9 mPa_addStatement 59 [some (.ref a0), none, none, none] [] κ (oI Q X) := by
  unfold w_Pa_addStatement_59 at F
  refine y_aln dX7_addStatement_59 rfl ?_
  refine gf_X7_15 W dX7_addStatement_60 rfl Ta0 ?_
  refine gf_X7_197 dX7_addStatement_63 rfl (Or.inl (ty_paCode W Ta0)) ?_
  refine y_si dX7_addStatement_66 zs_150 ?_
  refine y_ii ((zI κ coStatements (zR κ paCode a0)) < (150 : Int32)) dX7_addStatement_69 (t := 82) rfl rfl (fun c9 => ?_) (fun c9 => ?_)
  · replace F := F.1 c9
    exact y_k (t_Pa_addStatement_82  W Ta0 F) ⟨rfl, trivial⟩
  · replace F := F.2 c9
    refine y_aln dX7_addStatement_72 rfl ?_
    refine y_bi1 dX7_addStatement_73 zb_15 ?_
    refine y_aln dX7_addStatement_75 rfl ?_
    refine gf_X7_55 dX7_addStatement_76 rfl (Or.inl Ta0) ?_
    replace F := F Ta0
    refine k_X7_123 W dX7_addStatement_79 rfl (Nat.le_of_ble_eq_true rfl) (Nat.le_of_ble_eq_true rfl) (Or.inl Ta0) F (fun  κ1 Wκ1 Mκ1 F => ?_) (fun cls9 κ9 h9 => Or.inr ⟨_, rfl, h9⟩)
    replace F := F Wκ1 Mκ1
    have h4 := (ztm W Mκ1 Ta0)
    exact y_k (t_Pa_addStatement_82  Wκ1 h4 F) ⟨rfl, trivial⟩

def w_Pa_addStatement_50 (C : zC) (n0 : Nat) (Q : Int32 → zS → Prop) (X : zXp)  (a0 : Nat) (κ : zS) : Prop :=
  ∀ _ : zT κ a0 = 10,
  zRun C 8 mPa_refuse [.ref a0, .int (2 : Int32), .int (zI κ paAt a0)] κ (oV (fun κ1 =>
    ∀ _ : zW C n0 κ1,
    ∀ _ : zM (zn κ) κ κ1,
    w_Pa_addStatement_59 C n0 Q X  a0 κ1) X)
theorem t_Pa_addStatement_50 {C : zC} {n0 : Nat} {Q : Int32 → zS → Prop} {X : zXp}   {a0 : Nat} {κ : zS} (W : zW C n0 κ) (Ta0 : zT κ a0 = 10) (F : w_Pa_addStatement_50 C n0 Q X  a0 κ) : zG C n0 9 mPa_addStatement 50 [some (.ref a0), none, none, none] [] κ (oI Q X) := by
  unfold w_Pa_addStatement_50 at F
  refine y_aln dX7_addStatement_50 rfl ?_
  refine y_ic dX7_addStatement_51 zi_2 ?_
  refine y_aln dX7_addStatement_52 rfl ?_
  refine gf_X7_55 dX7_addStatement_53 rfl (Or.inl Ta0) ?_
  replace F := F Ta0
  refine k_X7_123 W dX7_addStatement_56 rfl (Nat.le_of_ble_eq_true rfl) (Nat.le_of_ble_eq_true rfl) (Or.inl Ta0) F (fun  κ1 Wκ1 Mκ1 F => ?_) (fun cls9 κ9 h9 => Or.inr ⟨_, rfl, h9⟩)
  replace F := F Wκ1 Mκ1
  have h4 := (ztm W Mκ1 Ta0)
  exact y_k (t_Pa_addStatement_59  Wκ1 h4 F) ⟨rfl, trivial⟩

def w_Pa_addStatement_0 (C : zC) (n0 : Nat) (Q : Int32 → zS → Prop) (X : zXp)  (a0 : Nat) (κ : zS) : Prop :=
  ((zI κ paKind a0) = (140 : Int32) →
    w_Pa_addStatement_59 C n0 Q X  a0 κ) ∧
  (¬ (zI κ paKind a0) = (140 : Int32) →
    ((zI κ paKind a0) = (153 : Int32) →
      w_Pa_addStatement_59 C n0 Q X  a0 κ) ∧
    (¬ (zI κ paKind a0) = (153 : Int32) →
      ((zI κ paKind a0) = (154 : Int32) →
        w_Pa_addStatement_59 C n0 Q X  a0 κ) ∧
      (¬ (zI κ paKind a0) = (154 : Int32) →
        ((zI κ paKind a0) < (156 : Int32) →
          w_Pa_addStatement_50 C n0 Q X  a0 κ) ∧
        (¬ (zI κ paKind a0) < (156 : Int32) →
          ((zI κ paKind a0) ≤ (159 : Int32) →
            w_Pa_addStatement_59 C n0 Q X  a0 κ) ∧
          (¬ (zI κ paKind a0) ≤ (159 : Int32) →
            w_Pa_addStatement_50 C n0 Q X  a0 κ)))))
theorem t_Pa_addStatement_0 {C : zC} {n0 : Nat} {Q : Int32 → zS → Prop} {X : zXp}   {a0 : Nat} {κ : zS} (W : zW C n0 κ) (Ta0 : zT κ a0 = 10) (F : w_Pa_addStatement_0 C n0 Q X  a0 κ) : zG C n0 9 mPa_addStatement 0 [some (.ref a0), none, none, none] [] κ (oI Q X) := by
  unfold w_Pa_addStatement_0 at F
  refine y_aln dX7_addStatement_0 rfl ?_
  refine gf_X7_78 dX7_addStatement_1 rfl (Or.inl Ta0) ?_
  refine y_si dX7_addStatement_4 zs_140 ?_
  refine y_ii ((zI κ paKind a0) = (140 : Int32)) dX7_addStatement_7 (t := 59) rfl rfl (fun c9 => ?_) (fun c9 => ?_)
  · replace F := F.1 c9
    exact y_k (t_Pa_addStatement_59  W Ta0 F) ⟨rfl, trivial⟩
  · replace F := F.2 c9
    refine y_aln dX7_addStatement_10 rfl ?_
    refine gf_X7_78 dX7_addStatement_11 rfl (Or.inl Ta0) ?_
    refine y_si dX7_addStatement_14 zs_153 ?_
    refine y_ii ((zI κ paKind a0) = (153 : Int32)) dX7_addStatement_17 (t := 59) rfl rfl (fun c9 => ?_) (fun c9 => ?_)
    · replace F := F.1 c9
      exact y_k (t_Pa_addStatement_59  W Ta0 F) ⟨rfl, trivial⟩
    · replace F := F.2 c9
      refine y_aln dX7_addStatement_20 rfl ?_
      refine gf_X7_78 dX7_addStatement_21 rfl (Or.inl Ta0) ?_
      refine y_si dX7_addStatement_24 zs_154 ?_
      refine y_ii ((zI κ paKind a0) = (154 : Int32)) dX7_addStatement_27 (t := 59) rfl rfl (fun c9 => ?_) (fun c9 => ?_)
      · replace F := F.1 c9
        exact y_k (t_Pa_addStatement_59  W Ta0 F) ⟨rfl, trivial⟩
      · replace F := F.2 c9
        refine y_aln dX7_addStatement_30 rfl ?_
        refine gf_X7_78 dX7_addStatement_31 rfl (Or.inl Ta0) ?_
        refine y_si dX7_addStatement_34 zs_156 ?_
        refine y_ii ((zI κ paKind a0) < (156 : Int32)) dX7_addStatement_37 (t := 50) rfl rfl (fun c9 => ?_) (fun c9 => ?_)
        · replace F := F.1 c9
          exact y_k (t_Pa_addStatement_50  W Ta0 F) ⟨rfl, trivial⟩
        · replace F := F.2 c9
          refine y_aln dX7_addStatement_40 rfl ?_
          refine gf_X7_78 dX7_addStatement_41 rfl (Or.inl Ta0) ?_
          refine y_si dX7_addStatement_44 zs_159 ?_
          refine y_ii ((zI κ paKind a0) ≤ (159 : Int32)) dX7_addStatement_47 (t := 59) rfl rfl (fun c9 => ?_) (fun c9 => ?_)
          · replace F := F.1 c9
            exact y_k (t_Pa_addStatement_59  W Ta0 F) ⟨rfl, trivial⟩
          · replace F := F.2 c9
            exact y_k (t_Pa_addStatement_50  W Ta0 F) ⟨rfl, trivial⟩

theorem Pa_addStatement_run {C : zC} {n0 : Nat} {Q : Int32 → zS → Prop} {X : zXp} {a0 : Nat} {κ : zS} (W : zW C n0 κ) (Ta0 : zT κ a0 = 10) (F : w_Pa_addStatement_0 C (zn κ) Q X a0 κ) : zRun C 9 mPa_addStatement [.ref a0] κ (oI Q X) := z_run (m_ent _ 3) (t_Pa_addStatement_0 (W.lo (Nat.le_trans W.1.2.1 W.1.2.2) (Nat.le_refl _)) Ta0 F)

theorem dX7_hold_0 : decode cX7_hold 0 = .ok (.aload_n 0, 1) := by decide +kernel
theorem dX7_hold_1 : decode cX7_hold 1 = .ok (.getfield 235, 3) := by decide +kernel
theorem dX7_hold_4 : decode cX7_hold 4 = .ok (.aload_n 0, 1) := by decide +kernel
theorem dX7_hold_5 : decode cX7_hold 5 = .ok (.getfield 42, 3) := by decide +kernel
theorem dX7_hold_8 : decode cX7_hold 8 = .ok (.arraylength, 1) := by decide +kernel
theorem dX7_hold_9 : decode cX7_hold 9 = .ok (.if_icmp .lt 20, 3) := by decide +kernel
theorem dX7_hold_12 : decode cX7_hold 12 = .ok (.aload_n 0, 1) := by decide +kernel
theorem dX7_hold_13 : decode cX7_hold 13 = .ok (.aload_n 0, 1) := by decide +kernel
theorem dX7_hold_14 : decode cX7_hold 14 = .ok (.getfield 42, 3) := by decide +kernel
theorem dX7_hold_17 : decode cX7_hold 17 = .ok (.aload_n 0, 1) := by decide +kernel
theorem dX7_hold_18 : decode cX7_hold 18 = .ok (.getfield 235, 3) := by decide +kernel
theorem dX7_hold_21 : decode cX7_hold 21 = .ok (.iconst 2, 1) := by decide +kernel
theorem dX7_hold_22 : decode cX7_hold 22 = .ok (.imul, 1) := by decide +kernel
theorem dX7_hold_23 : decode cX7_hold 23 = .ok (.invokestatic 267, 3) := by decide +kernel
theorem dX7_hold_26 : decode cX7_hold 26 = .ok (.putfield 42, 3) := by decide +kernel
theorem dX7_hold_29 : decode cX7_hold 29 = .ok (.aload_n 0, 1) := by decide +kernel
theorem dX7_hold_30 : decode cX7_hold 30 = .ok (.getfield 42, 3) := by decide +kernel
theorem dX7_hold_33 : decode cX7_hold 33 = .ok (.aload_n 0, 1) := by decide +kernel
theorem dX7_hold_34 : decode cX7_hold 34 = .ok (.getfield 235, 3) := by decide +kernel
theorem dX7_hold_37 : decode cX7_hold 37 = .ok (.iload_n 1, 1) := by decide +kernel
theorem dX7_hold_38 : decode cX7_hold 38 = .ok (.iastore, 1) := by decide +kernel
theorem dX7_hold_39 : decode cX7_hold 39 = .ok (.aload_n 0, 1) := by decide +kernel
theorem dX7_hold_40 : decode cX7_hold 40 = .ok (.dup, 1) := by decide +kernel
theorem dX7_hold_41 : decode cX7_hold 41 = .ok (.getfield 235, 3) := by decide +kernel
theorem dX7_hold_44 : decode cX7_hold 44 = .ok (.iconst 1, 1) := by decide +kernel
theorem dX7_hold_45 : decode cX7_hold 45 = .ok (.iadd, 1) := by decide +kernel
theorem dX7_hold_46 : decode cX7_hold 46 = .ok (.putfield 235, 3) := by decide +kernel
theorem dX7_hold_49 : decode cX7_hold 49 = .ok (.return_, 1) := by decide +kernel
def w_Pa_hold_29 (C : zC) (n0 : Nat) (Q : zS → Prop)  (a0 : Nat) (a1 : Int32) (κ : zS) : Prop :=
  inb (zI κ paWaits a0) (zN κ (zR κ paWaiting a0)) ∧
  ∀ κ1, κ1 = ua κ (zR κ paWaiting a0) ((zI κ paWaits a0)).toNatClampNeg a1 →
  ∀ _ : zW C n0 κ1,
  ∀ κ3, κ3 = ui κ1 paWaits a0 ((zI κ1 paWaits a0) + (1 : Int32)) →
  ∀ _ : zW C n0 κ3,
  Q κ3
theorem t_Pa_hold_29 {C : zC} {n0 : Nat} {Q : zS → Prop}   {a0 : Nat} {a1 : Int32} {κ : zS} (W : zW C n0 κ) (Ta0 : zT κ a0 = 10) (F : w_Pa_hold_29 C n0 Q  a0 a1 κ) : zG C n0 2 mPa_hold 29 [some (.ref a0), some (.int a1)] [] κ (oV Q noX) := by
  unfold w_Pa_hold_29 at F
  refine y_aln dX7_hold_29 rfl ?_
  refine gf_X7_42 W dX7_hold_30 rfl Ta0 ?_
  refine y_aln dX7_hold_33 rfl ?_
  refine gf_X7_235 dX7_hold_34 rfl (Or.inl Ta0) ?_
  refine y_iln dX7_hold_37 rfl ?_
  refine y_ast W dX7_hold_38 (ty_paWaiting W Ta0) F.1 (fun κ1 eκ1 => ?_)
  replace F := F.2 κ1 eκ1
  have Wκ1 : zW C n0 κ1 := zW_ua W eκ1 (fun h => absurd (h.symm.trans (ty_paWaiting W Ta0)) (by decide)) (fun h => absurd (h.symm.trans (ty_paWaiting W Ta0)) (by decide))
  have Mκ1 : zM (zn κ) κ κ1 := by rw [eκ1]; exact zM.of rfl rfl rfl
  replace F := F Wκ1
  refine y_aln dX7_hold_39 rfl ?_
  refine y_dup dX7_hold_40 rfl ?_
  have h2 := (ztm W Mκ1 Ta0)
  refine gf_X7_235 dX7_hold_41 rfl (Or.inl h2) ?_
  refine y_ic dX7_hold_44 zi_1 ?_
  refine y_iadd dX7_hold_45 ?_
  refine pf_X7_235 Wκ1 dX7_hold_46 rfl (Or.inl h2) (fun κ3 eκ3 => ?_)
  replace F := F κ3 eκ3
  have Wκ3 : zW C n0 κ3 := zW_ui Wκ1 eκ3 (fun h => absurd h (by decide))
  have Mκ3 : zM (zn κ1) κ1 κ3 := by rw [eκ3]; exact zM.of rfl rfl rfl
  replace F := F Wκ3
  exact y_rv Wκ3 dX7_hold_49 rfl F

def w_Pa_hold_0 (C : zC) (n0 : Nat) (Q : zS → Prop)  (a0 : Nat) (a1 : Int32) (κ : zS) : Prop :=
  ((zI κ paWaits a0) < (Int32.ofNat (zN κ (zR κ paWaiting a0))) →
    w_Pa_hold_29 C n0 Q  a0 a1 κ) ∧
  (¬ (zI κ paWaits a0) < (Int32.ofNat (zN κ (zR κ paWaiting a0))) →
    ∀ _ : zT κ (zR κ paWaiting a0) = 20,
    zRun C 1 mAr_copyOf [.ref (zR κ paWaiting a0), .int ((zI κ paWaits a0) * (2 : Int32))] κ (oR 20 (fun r2 κ1 =>
      ∀ _ : zW C n0 κ1,
      ∀ _ : zM (zn κ) κ κ1,
      ∀ _ : zT κ1 r2 = 20,
      zO κ1 r2 = (0, 0) ∧
      ∀ κ4, κ4 = uo κ1 paWaiting a0 r2 →
      ∀ _ : zW C n0 κ4,
      w_Pa_hold_29 C n0 Q  a0 a1 κ4) noX))
theorem t_Pa_hold_0 {C : zC} {n0 : Nat} {Q : zS → Prop}   {a0 : Nat} {a1 : Int32} {κ : zS} (W : zW C n0 κ) (Ta0 : zT κ a0 = 10) (F : w_Pa_hold_0 C n0 Q  a0 a1 κ) : zG C n0 2 mPa_hold 0 [some (.ref a0), some (.int a1)] [] κ (oV Q noX) := by
  unfold w_Pa_hold_0 at F
  refine y_aln dX7_hold_0 rfl ?_
  refine gf_X7_235 dX7_hold_1 rfl (Or.inl Ta0) ?_
  refine y_aln dX7_hold_4 rfl ?_
  refine gf_X7_42 W dX7_hold_5 rfl Ta0 ?_
  refine y_alen (t := 0) dX7_hold_8 (ty_paWaiting W Ta0) (by decide) ?_
  refine y_ii ((zI κ paWaits a0) < (Int32.ofNat (zN κ (zR κ paWaiting a0)))) dX7_hold_9 (t := 29) rfl rfl (fun c9 => ?_) (fun c9 => ?_)
  · replace F := F.1 c9
    exact y_k (t_Pa_hold_29  W Ta0 F) ⟨rfl, rfl, trivial⟩
  · replace F := F.2 c9
    refine y_aln dX7_hold_12 rfl ?_
    refine y_aln dX7_hold_13 rfl ?_
    refine gf_X7_42 W dX7_hold_14 rfl Ta0 ?_
    refine y_aln dX7_hold_17 rfl ?_
    refine gf_X7_235 dX7_hold_18 rfl (Or.inl Ta0) ?_
    refine y_ic dX7_hold_21 zi_2 ?_
    refine y_imul dX7_hold_22 ?_
    replace F := F (ty_paWaiting W Ta0)
    refine k_X7_267 W dX7_hold_23 rfl (Nat.le_of_ble_eq_true rfl) (Nat.le_of_ble_eq_true rfl)  F (fun r2 κ1 Wκ1 Mκ1 g3 F => ?_) (fun _ _ h9 => False.elim h9)
    replace F := F Wκ1 Mκ1 g3
    have b5 := F.1
    replace F := F.2
    have h6 := (ztm W Mκ1 Ta0)
    refine pf_X7_42 Wκ1 dX7_hold_26 rfl (Or.inl h6) g3 (fun κ4 eκ4 => ?_)
    replace F := F κ4 eκ4
    have Wκ4 : zW C n0 κ4 := zW_uo Wκ1 eκ4 (fun t ht => by cases ht; exact g3) b5
    have Mκ4 : zM (zn κ1) κ1 κ4 := by rw [eκ4]; exact zM.of rfl rfl rfl
    replace F := F Wκ4
    have h7 := (ztm Wκ1 Mκ4 h6)
    exact y_k (t_Pa_hold_29  Wκ4 h7 F) ⟨rfl, rfl, trivial⟩

theorem Pa_hold_run {C : zC} {n0 : Nat} {Q : zS → Prop} {a0 : Nat} {a1 : Int32} {κ : zS} (W : zW C n0 κ) (Ta0 : zT κ a0 = 10) (F : w_Pa_hold_0 C (zn κ) Q a0 a1 κ) : zRun C 2 mPa_hold [.ref a0, .int a1] κ (oV Q noX) := z_run (m_ent _ 0) (t_Pa_hold_0 (W.lo (Nat.le_trans W.1.2.1 W.1.2.2) (Nat.le_refl _)) Ta0 F)

theorem dX7_operand_0 : decode cX7_operand 0 = .ok (.aload_n 0, 1) := by decide +kernel
theorem dX7_operand_1 : decode cX7_operand 1 = .ok (.getfield 78, 3) := by decide +kernel
theorem dX7_operand_4 : decode cX7_operand 4 = .ok (.sipush 141, 3) := by decide +kernel
theorem dX7_operand_7 : decode cX7_operand 7 = .ok (.if_icmp .ne 7, 3) := by decide +kernel
theorem dX7_operand_10 : decode cX7_operand 10 = .ok (.iconst 1, 1) := by decide +kernel
theorem dX7_operand_11 : decode cX7_operand 11 = .ok (.goto 4, 3) := by decide +kernel
theorem dX7_operand_14 : decode cX7_operand 14 = .ok (.iconst 0, 1) := by decide +kernel
theorem dX7_operand_15 : decode cX7_operand 15 = .ok (.istore_n 1, 1) := by decide +kernel
theorem dX7_operand_16 : decode cX7_operand 16 = .ok (.iload_n 1, 1) := by decide +kernel
theorem dX7_operand_17 : decode cX7_operand 17 = .ok (.ifCond .eq 29, 3) := by decide +kernel
theorem dX7_operand_20 : decode cX7_operand 20 = .ok (.aload_n 0, 1) := by decide +kernel
theorem dX7_operand_21 : decode cX7_operand 21 = .ok (.getfield 15, 3) := by decide +kernel
theorem dX7_operand_24 : decode cX7_operand 24 = .ok (.iconst 1, 1) := by decide +kernel
theorem dX7_operand_25 : decode cX7_operand 25 = .ok (.aload_n 0, 1) := by decide +kernel
theorem dX7_operand_26 : decode cX7_operand 26 = .ok (.getfield 9, 3) := by decide +kernel
theorem dX7_operand_29 : decode cX7_operand 29 = .ok (.aload_n 0, 1) := by decide +kernel
theorem dX7_operand_30 : decode cX7_operand 30 = .ok (.getfield 55, 3) := by decide +kernel
theorem dX7_operand_33 : decode cX7_operand 33 = .ok (.invokevirtual 156, 3) := by decide +kernel
theorem dX7_operand_36 : decode cX7_operand 36 = .ok (.invokevirtual 258, 3) := by decide +kernel
theorem dX7_operand_39 : decode cX7_operand 39 = .ok (.aload_n 0, 1) := by decide +kernel
theorem dX7_operand_40 : decode cX7_operand 40 = .ok (.invokevirtual 72, 3) := by decide +kernel
theorem dX7_operand_43 : decode cX7_operand 43 = .ok (.goto 59, 3) := by decide +kernel
theorem dX7_operand_46 : decode cX7_operand 46 = .ok (.aload_n 0, 1) := by decide +kernel
theorem dX7_operand_47 : decode cX7_operand 47 = .ok (.getfield 78, 3) := by decide +kernel
theorem dX7_operand_50 : decode cX7_operand 50 = .ok (.bipush 33, 2) := by decide +kernel
theorem dX7_operand_52 : decode cX7_operand 52 = .ok (.if_icmp .eq 12, 3) := by decide +kernel
theorem dX7_operand_55 : decode cX7_operand 55 = .ok (.aload_n 0, 1) := by decide +kernel
theorem dX7_operand_56 : decode cX7_operand 56 = .ok (.getfield 78, 3) := by decide +kernel
theorem dX7_operand_59 : decode cX7_operand 59 = .ok (.bipush 45, 2) := by decide +kernel
theorem dX7_operand_61 : decode cX7_operand 61 = .ok (.if_icmp .ne 29, 3) := by decide +kernel
theorem dX7_operand_64 : decode cX7_operand 64 = .ok (.aload_n 0, 1) := by decide +kernel
theorem dX7_operand_65 : decode cX7_operand 65 = .ok (.aload_n 0, 1) := by decide +kernel
theorem dX7_operand_66 : decode cX7_operand 66 = .ok (.getfield 78, 3) := by decide +kernel
theorem dX7_operand_69 : decode cX7_operand 69 = .ok (.bipush 33, 2) := by decide +kernel
theorem dX7_operand_71 : decode cX7_operand 71 = .ok (.if_icmp .ne 8, 3) := by decide +kernel
theorem dX7_operand_74 : decode cX7_operand 74 = .ok (.bipush 6, 2) := by decide +kernel
theorem dX7_operand_76 : decode cX7_operand 76 = .ok (.goto 4, 3) := by decide +kernel
theorem dX7_operand_79 : decode cX7_operand 79 = .ok (.iconst 5, 1) := by decide +kernel
theorem dX7_operand_80 : decode cX7_operand 80 = .ok (.invokevirtual 261, 3) := by decide +kernel
theorem dX7_operand_83 : decode cX7_operand 83 = .ok (.aload_n 0, 1) := by decide +kernel
theorem dX7_operand_84 : decode cX7_operand 84 = .ok (.invokevirtual 72, 3) := by decide +kernel
theorem dX7_operand_87 : decode cX7_operand 87 = .ok (.goto 15, 3) := by decide +kernel
theorem dX7_operand_90 : decode cX7_operand 90 = .ok (.aload_n 0, 1) := by decide +kernel
theorem dX7_operand_91 : decode cX7_operand 91 = .ok (.bipush 40, 2) := by decide +kernel
theorem dX7_operand_93 : decode cX7_operand 93 = .ok (.invokevirtual 166, 3) := by decide +kernel
theorem dX7_operand_96 : decode cX7_operand 96 = .ok (.aload_n 0, 1) := by decide +kernel
theorem dX7_operand_97 : decode cX7_operand 97 = .ok (.bipush 100, 2) := by decide +kernel
theorem dX7_operand_99 : decode cX7_operand 99 = .ok (.invokevirtual 261, 3) := by decide +kernel
theorem dX7_operand_102 : decode cX7_operand 102 = .ok (.iload_n 1, 1) := by decide +kernel
theorem dX7_operand_103 : decode cX7_operand 103 = .ok (.ifCond .ne 7, 3) := by decide +kernel
theorem dX7_operand_106 : decode cX7_operand 106 = .ok (.iconst 1, 1) := by decide +kernel
theorem dX7_operand_107 : decode cX7_operand 107 = .ok (.goto 4, 3) := by decide +kernel
theorem dX7_operand_110 : decode cX7_operand 110 = .ok (.iconst 0, 1) := by decide +kernel
theorem dX7_operand_111 : decode cX7_operand 111 = .ok (.ireturn, 1) := by decide +kernel
def w_Pa_operand_102 (C : zC) (n0 : Nat) (Q : Int32 → zS → Prop) (X : zXp)  (a0 : Nat) (a1 : Int32) (κ : zS) : Prop :=
  (¬ a1 = (0 : Int32) →
    Q (0 : Int32) κ) ∧
  (a1 = (0 : Int32) →
    Q (1 : Int32) κ)
theorem t_Pa_operand_102 {C : zC} {n0 : Nat} {Q : Int32 → zS → Prop} {X : zXp}   {a0 : Nat} {a1 : Int32} {κ : zS} (W : zW C n0 κ) (Ta0 : zT κ a0 = 10) (F : w_Pa_operand_102 C n0 Q X  a0 a1 κ) : zG C n0 10 mPa_operand 102 [some (.ref a0), some (.int a1)] [] κ (oI Q X) := by
  unfold w_Pa_operand_102 at F
  refine y_iln dX7_operand_102 rfl ?_
  refine y_in (a1 = (0 : Int32)) dX7_operand_103 (t := 110) rfl rfl (fun c9 => ?_) (fun c9 => ?_)
  · replace F := F.1 c9
    refine y_ic dX7_operand_110 zi_0 ?_
    exact y_ri W dX7_operand_111 rfl (nb_nar nb_0) F
  · replace F := F.2 c9
    refine y_ic dX7_operand_106 zi_1 ?_
    refine y_goto dX7_operand_107 (t := 111) rfl ?_
    exact y_ri W dX7_operand_111 rfl (nb_nar nb_1) F

def w_Pa_operand_80 (C : zC) (n0 : Nat) (Q : Int32 → zS → Prop) (X : zXp)  (a0 : Nat) (a1 : Int32) (s0 : Nat) (s1 : Int32) (κ : zS) : Prop :=
  ∀ _ : zT κ s0 = 10,
  zRun C 2 mPa_hold [.ref s0, .int s1] κ (oV (fun κ1 =>
    ∀ _ : zW C n0 κ1,
    ∀ _ : zM (zn κ) κ κ1,
    ∀ _ : zT κ1 a0 = 10,
    zRun C 0 mPa_take [.ref a0] κ1 (oV (fun κ4 =>
      ∀ _ : zW C n0 κ4,
      ∀ _ : zM (zn κ1) κ1 κ4,
      w_Pa_operand_102 C n0 Q X  a0 a1 κ4) noX)) noX)
theorem t_Pa_operand_80 {C : zC} {n0 : Nat} {Q : Int32 → zS → Prop} {X : zXp}   {a0 : Nat} {a1 : Int32} {s0 : Nat} {s1 : Int32} {κ : zS} (W : zW C n0 κ) (Ta0 : zT κ a0 = 10) (Ts0 : zT κ s0 = 10) (F : w_Pa_operand_80 C n0 Q X  a0 a1 s0 s1 κ) : zG C n0 10 mPa_operand 80 [some (.ref a0), some (.int a1)] [.int s1, .ref s0] κ (oI Q X) := by
  unfold w_Pa_operand_80 at F
  replace F := F Ts0
  refine k_X7_261 W dX7_operand_80 rfl (Nat.le_of_ble_eq_true rfl) (Nat.le_of_ble_eq_true rfl) (Or.inl Ts0) F (fun  κ1 Wκ1 Mκ1 F => ?_) (fun _ _ h9 => False.elim h9)
  replace F := F Wκ1 Mκ1
  refine y_aln dX7_operand_83 rfl ?_
  have h6 := (ztm W Mκ1 Ta0)
  replace F := F h6
  refine k_X7_72 Wκ1 dX7_operand_84 rfl (Nat.le_of_ble_eq_true rfl) (Nat.le_of_ble_eq_true rfl) (Or.inl h6) F (fun  κ4 Wκ4 Mκ4 F => ?_) (fun _ _ h9 => False.elim h9)
  replace F := F Wκ4 Mκ4
  refine y_goto dX7_operand_87 (t := 102) rfl ?_
  have h8 := (ztm Wκ1 Mκ4 h6)
  exact y_k (t_Pa_operand_102  Wκ4 h8 F) ⟨rfl, rfl, trivial⟩

def w_Pa_operand_64 (C : zC) (n0 : Nat) (Q : Int32 → zS → Prop) (X : zXp)  (a0 : Nat) (a1 : Int32) (κ : zS) : Prop :=
  (¬ (zI κ paKind a0) = (33 : Int32) →
    w_Pa_operand_80 C n0 Q X  a0 a1 a0 (5 : Int32) κ) ∧
  ((zI κ paKind a0) = (33 : Int32) →
    w_Pa_operand_80 C n0 Q X  a0 a1 a0 (6 : Int32) κ)
theorem t_Pa_operand_64 {C : zC} {n0 : Nat} {Q : Int32 → zS → Prop} {X : zXp}   {a0 : Nat} {a1 : Int32} {κ : zS} (W : zW C n0 κ) (Ta0 : zT κ a0 = 10) (F : w_Pa_operand_64 C n0 Q X  a0 a1 κ) : zG C n0 10 mPa_operand 64 [some (.ref a0), some (.int a1)] [] κ (oI Q X) := by
  unfold w_Pa_operand_64 at F
  refine y_aln dX7_operand_64 rfl ?_
  refine y_aln dX7_operand_65 rfl ?_
  refine gf_X7_78 dX7_operand_66 rfl (Or.inl Ta0) ?_
  refine y_bi1 dX7_operand_69 zb_33 ?_
  refine y_iin ((zI κ paKind a0) = (33 : Int32)) dX7_operand_71 (t := 79) rfl rfl (fun c9 => ?_) (fun c9 => ?_)
  · replace F := F.1 c9
    refine y_ic dX7_operand_79 zi_5 ?_
    exact y_k (t_Pa_operand_80  W Ta0 Ta0 F) ⟨rfl, rfl, trivial⟩
  · replace F := F.2 c9
    refine y_bi1 dX7_operand_74 zb_6 ?_
    refine y_goto dX7_operand_76 (t := 80) rfl ?_
    exact y_k (t_Pa_operand_80  W Ta0 Ta0 F) ⟨rfl, rfl, trivial⟩

def w_Pa_operand_15 (C : zC) (n0 : Nat) (Q : Int32 → zS → Prop) (X : zXp)  (a0 : Nat) (s0 : Int32) (κ : zS) : Prop :=
  (s0 = (0 : Int32) →
    ((zI κ paKind a0) = (33 : Int32) →
      w_Pa_operand_64 C n0 Q X  a0 s0 κ) ∧
    (¬ (zI κ paKind a0) = (33 : Int32) →
      (¬ (zI κ paKind a0) = (45 : Int32) →
        ∀ _ : zT κ a0 = 10,
        zRun C 9 mPa_openSign [.ref a0, .int (40 : Int32)] κ (oV (fun κ1 =>
          ∀ _ : zW C n0 κ1,
          ∀ _ : zM (zn κ) κ κ1,
          ∀ _ : zT κ1 a0 = 10,
          zRun C 2 mPa_hold [.ref a0, .int (100 : Int32)] κ1 (oV (fun κ4 =>
            ∀ _ : zW C n0 κ4,
            ∀ _ : zM (zn κ1) κ1 κ4,
            w_Pa_operand_102 C n0 Q X  a0 s0 κ4) noX)) X)) ∧
      ((zI κ paKind a0) = (45 : Int32) →
        w_Pa_operand_64 C n0 Q X  a0 s0 κ))) ∧
  (¬ s0 = (0 : Int32) →
    ∀ _ : zT κ (zR κ paTape a0) = 13,
    zRun C 1 mTa_numberAt [.ref (zR κ paTape a0), .int (zI κ paAt a0)] κ (oI (fun r10 κ9 =>
      ∀ _ : zW C n0 κ9,
      ∀ _ : zM (zn κ) κ κ9,
      ∀ _ : zT κ9 (zR κ paCode a0) = 5,
      zRun C 2 mCo_emit [.ref (zR κ paCode a0), .int (1 : Int32), .int r10] κ9 (oV (fun κ12 =>
        ∀ _ : zW C n0 κ12,
        ∀ _ : zM (zn κ9) κ9 κ12,
        ∀ _ : zT κ12 a0 = 10,
        zRun C 0 mPa_take [.ref a0] κ12 (oV (fun κ16 =>
          ∀ _ : zW C n0 κ16,
          ∀ _ : zM (zn κ12) κ12 κ16,
          w_Pa_operand_102 C n0 Q X  a0 s0 κ16) noX)) noX)) noX))
theorem t_Pa_operand_15 {C : zC} {n0 : Nat} {Q : Int32 → zS → Prop} {X : zXp}   {a0 : Nat} {s0 : Int32} {κ : zS} (W : zW C n0 κ) (Ta0 : zT κ a0 = 10) (F : w_Pa_operand_15 C n0 Q X  a0 s0 κ) : zG C n0 10 mPa_operand 15 [some (.ref a0), none] [.int s0] κ (oI Q X) := by
  unfold w_Pa_operand_15 at F
  refine y_isn dX7_operand_15 (Nat.le_of_ble_eq_true rfl) rfl ?_
  show zG _ _ _ _ _ [some (.ref a0), some (.int s0)] _ _ _
  refine y_iln dX7_operand_16 rfl ?_
  refine y_i (s0 = (0 : Int32)) dX7_operand_17 (t := 46) rfl rfl (fun c9 => ?_) (fun c9 => ?_)
  · replace F := F.1 c9
    refine y_aln dX7_operand_46 rfl ?_
    refine gf_X7_78 dX7_operand_47 rfl (Or.inl Ta0) ?_
    refine y_bi1 dX7_operand_50 zb_33 ?_
    refine y_ii ((zI κ paKind a0) = (33 : Int32)) dX7_operand_52 (t := 64) rfl rfl (fun c9 => ?_) (fun c9 => ?_)
    · replace F := F.1 c9
      exact y_k (t_Pa_operand_64  W Ta0 F) ⟨rfl, rfl, trivial⟩
    · replace F := F.2 c9
      refine y_aln dX7_operand_55 rfl ?_
      refine gf_X7_78 dX7_operand_56 rfl (Or.inl Ta0) ?_
      refine y_bi1 dX7_operand_59 zb_45 ?_
      refine y_iin ((zI κ paKind a0) = (45 : Int32)) dX7_operand_61 (t := 90) rfl rfl (fun c9 => ?_) (fun c9 => ?_)
      · replace F := F.1 c9
        refine y_aln dX7_operand_90 rfl ?_
        refine y_bi1 dX7_operand_91 zb_40 ?_
        replace F := F Ta0
        refine k_X7_166 W dX7_operand_93 rfl (Nat.le_of_ble_eq_true rfl) (Nat.le_of_ble_eq_true rfl) (Or.inl Ta0) F (fun  κ1 Wκ1 Mκ1 F => ?_) (fun cls9 κ9 h9 => Or.inr ⟨_, rfl, h9⟩)
        replace F := F Wκ1 Mκ1
        refine y_aln dX7_operand_96 rfl ?_
        refine y_bi1 dX7_operand_97 zb_100 ?_
        have h6 := (ztm W Mκ1 Ta0)
        replace F := F h6
        refine k_X7_261 Wκ1 dX7_operand_99 rfl (Nat.le_of_ble_eq_true rfl) (Nat.le_of_ble_eq_true rfl) (Or.inl h6) F (fun  κ4 Wκ4 Mκ4 F => ?_) (fun _ _ h9 => False.elim h9)
        replace F := F Wκ4 Mκ4
        have h8 := (ztm Wκ1 Mκ4 h6)
        exact y_k (t_Pa_operand_102  Wκ4 h8 F) ⟨rfl, rfl, trivial⟩
      · replace F := F.2 c9
        exact y_k (t_Pa_operand_64  W Ta0 F) ⟨rfl, rfl, trivial⟩
  · replace F := F.2 c9
    refine y_aln dX7_operand_20 rfl ?_
    refine gf_X7_15 W dX7_operand_21 rfl Ta0 ?_
    refine y_ic dX7_operand_24 zi_1 ?_
    refine y_aln dX7_operand_25 rfl ?_
    refine gf_X7_9 W dX7_operand_26 rfl Ta0 ?_
    refine y_aln dX7_operand_29 rfl ?_
    refine gf_X7_55 dX7_operand_30 rfl (Or.inl Ta0) ?_
    replace F := F (ty_paTape W Ta0)
    refine k_X7_156 W dX7_operand_33 rfl (Nat.le_of_ble_eq_true rfl) (Nat.le_of_ble_eq_true rfl) (Or.inl (ty_paTape W Ta0)) F (fun r10 κ9 Wκ9 Mκ9 F => ?_) (fun _ _ h9 => False.elim h9)
    replace F := F Wκ9 Mκ9
    have h14 := (ztm W Mκ9 (ty_paCode W Ta0))
    replace F := F h14
    refine k_X7_258 Wκ9 dX7_operand_36 rfl (Nat.le_of_ble_eq_true rfl) (Nat.le_of_ble_eq_true rfl) (Or.inl h14) F (fun  κ12 Wκ12 Mκ12 F => ?_) (fun _ _ h9 => False.elim h9)
    replace F := F Wκ12 Mκ12
    refine y_aln dX7_operand_39 rfl ?_
    have h18 := (ztm Wκ9 Mκ12 (ztm W Mκ9 Ta0))
    replace F := F h18
    refine k_X7_72 Wκ12 dX7_operand_40 rfl (Nat.le_of_ble_eq_true rfl) (Nat.le_of_ble_eq_true rfl) (Or.inl h18) F (fun  κ16 Wκ16 Mκ16 F => ?_) (fun _ _ h9 => False.elim h9)
    replace F := F Wκ16 Mκ16
    refine y_goto dX7_operand_43 (t := 102) rfl ?_
    have h20 := (ztm Wκ12 Mκ16 h18)
    exact y_k (t_Pa_operand_102  Wκ16 h20 F) ⟨rfl, rfl, trivial⟩

def w_Pa_operand_0 (C : zC) (n0 : Nat) (Q : Int32 → zS → Prop) (X : zXp)  (a0 : Nat) (κ : zS) : Prop :=
  (¬ (zI κ paKind a0) = (141 : Int32) →
    w_Pa_operand_15 C n0 Q X  a0 (0 : Int32) κ) ∧
  ((zI κ paKind a0) = (141 : Int32) →
    w_Pa_operand_15 C n0 Q X  a0 (1 : Int32) κ)
theorem t_Pa_operand_0 {C : zC} {n0 : Nat} {Q : Int32 → zS → Prop} {X : zXp}   {a0 : Nat} {κ : zS} (W : zW C n0 κ) (Ta0 : zT κ a0 = 10) (F : w_Pa_operand_0 C n0 Q X  a0 κ) : zG C n0 10 mPa_operand 0 [some (.ref a0), none] [] κ (oI Q X) := by
  unfold w_Pa_operand_0 at F
  refine y_aln dX7_operand_0 rfl ?_
  refine gf_X7_78 dX7_operand_1 rfl (Or.inl Ta0) ?_
  refine y_si dX7_operand_4 zs_141 ?_
  refine y_iin ((zI κ paKind a0) = (141 : Int32)) dX7_operand_7 (t := 14) rfl rfl (fun c9 => ?_) (fun c9 => ?_)
  · replace F := F.1 c9
    refine y_ic dX7_operand_14 zi_0 ?_
    exact y_k (t_Pa_operand_15  W Ta0 F) ⟨rfl, trivial⟩
  · replace F := F.2 c9
    refine y_ic dX7_operand_10 zi_1 ?_
    refine y_goto dX7_operand_11 (t := 15) rfl ?_
    exact y_k (t_Pa_operand_15  W Ta0 F) ⟨rfl, trivial⟩

theorem Pa_operand_run {C : zC} {n0 : Nat} {Q : Int32 → zS → Prop} {X : zXp} {a0 : Nat} {κ : zS} (W : zW C n0 κ) (Ta0 : zT κ a0 = 10) (F : w_Pa_operand_0 C (zn κ) Q X a0 κ) : zRun C 10 mPa_operand [.ref a0] κ (oI Q X) := z_run (m_ent _ 1) (t_Pa_operand_0 (W.lo (Nat.le_trans W.1.2.1 W.1.2.2) (Nat.le_refl _)) Ta0 F)

theorem dX7_findArray_0 : decode cX7_findArray 0 = .ok (.aload_n 0, 1) := by decide +kernel
theorem dX7_findArray_1 : decode cX7_findArray 1 = .ok (.getfield 9, 3) := by decide +kernel
theorem dX7_findArray_4 : decode cX7_findArray 4 = .ok (.aload_n 0, 1) := by decide +kernel
theorem dX7_findArray_5 : decode cX7_findArray 5 = .ok (.getfield 23, 3) := by decide +kernel
theorem dX7_findArray_8 : decode cX7_findArray 8 = .ok (.aload_n 0, 1) := by decide +kernel
theorem dX7_findArray_9 : decode cX7_findArray 9 = .ok (.getfield 15, 3) := by decide +kernel
theorem dX7_findArray_12 : decode cX7_findArray 12 = .ok (.getfield 137, 3) := by decide +kernel
theorem dX7_findArray_15 : decode cX7_findArray 15 = .ok (.iload_n 1, 1) := by decide +kernel
theorem dX7_findArray_16 : decode cX7_findArray 16 = .ok (.invokevirtual 133, 3) := by decide +kernel
theorem dX7_findArray_19 : decode cX7_findArray 19 = .ok (.istore_n 2, 1) := by decide +kernel
theorem dX7_findArray_20 : decode cX7_findArray 20 = .ok (.iload_n 2, 1) := by decide +kernel
theorem dX7_findArray_21 : decode cX7_findArray 21 = .ok (.iconst (-1), 1) := by decide +kernel
theorem dX7_findArray_22 : decode cX7_findArray 22 = .ok (.if_icmp .ne 10, 3) := by decide +kernel
theorem dX7_findArray_25 : decode cX7_findArray 25 = .ok (.aload_n 0, 1) := by decide +kernel
theorem dX7_findArray_26 : decode cX7_findArray 26 = .ok (.bipush 11, 2) := by decide +kernel
theorem dX7_findArray_28 : decode cX7_findArray 28 = .ok (.iload_n 1, 1) := by decide +kernel
theorem dX7_findArray_29 : decode cX7_findArray 29 = .ok (.invokevirtual 123, 3) := by decide +kernel
theorem dX7_findArray_32 : decode cX7_findArray 32 = .ok (.iload_n 2, 1) := by decide +kernel
theorem dX7_findArray_33 : decode cX7_findArray 33 = .ok (.ireturn, 1) := by decide +kernel
def w_Pa_findArray_0 (C : zC) (n0 : Nat) (Q : Int32 → zS → Prop) (X : zXp)  (a0 : Nat) (a1 : Int32) (κ : zS) : Prop :=
  ∀ _ : zT κ (zR κ paTape a0) = 13,
  ∀ _ : zT κ (zR κ paArrayNames a0) = 20,
  zRun C 0 mTa_findName [.ref (zR κ paTape a0), .ref (zR κ paArrayNames a0), .int (zI κ coArrays (zR κ paCode a0)), .int a1] κ (oI (fun r2 κ1 =>
    ∀ _ : zW C n0 κ1,
    ∀ _ : zM (zn κ) κ κ1,
    (¬ r2 = (-1 : Int32) →
      Q r2 κ1) ∧
    (r2 = (-1 : Int32) →
      ∀ _ : zT κ1 a0 = 10,
      zRun C 8 mPa_refuse [.ref a0, .int (11 : Int32), .int a1] κ1 (oV (fun κ4 =>
        ∀ _ : zW C n0 κ4,
        ∀ _ : zM (zn κ1) κ1 κ4,
        Q r2 κ4) X))) noX)
theorem t_Pa_findArray_0 {C : zC} {n0 : Nat} {Q : Int32 → zS → Prop} {X : zXp}   {a0 : Nat} {a1 : Int32} {κ : zS} (W : zW C n0 κ) (Ta0 : zT κ a0 = 10) (F : w_Pa_findArray_0 C n0 Q X  a0 a1 κ) : zG C n0 9 mPa_findArray 0 [some (.ref a0), some (.int a1), none] [] κ (oI Q X) := by
  unfold w_Pa_findArray_0 at F
  refine y_aln dX7_findArray_0 rfl ?_
  refine gf_X7_9 W dX7_findArray_1 rfl Ta0 ?_
  refine y_aln dX7_findArray_4 rfl ?_
  refine gf_X7_23 W dX7_findArray_5 rfl Ta0 ?_
  refine y_aln dX7_findArray_8 rfl ?_
  refine gf_X7_15 W dX7_findArray_9 rfl Ta0 ?_
  refine gf_X7_137 dX7_findArray_12 rfl (Or.inl (ty_paCode W Ta0)) ?_
  refine y_iln dX7_findArray_15 rfl ?_
  replace F := F (ty_paTape W Ta0)
  replace F := F (ty_paArrayNames W Ta0)
  refine k_X7_133 W dX7_findArray_16 rfl (Nat.le_of_ble_eq_true rfl) (Nat.le_of_ble_eq_true rfl) (Or.inl (ty_paTape W Ta0)) F (fun r2 κ1 Wκ1 Mκ1 F => ?_) (fun _ _ h9 => False.elim h9)
  replace F := F Wκ1 Mκ1
  refine y_isn dX7_findArray_19 (Nat.le_of_ble_eq_true rfl) rfl ?_
  show zG _ _ _ _ _ [some (.ref a0), some (.int a1), some (.int r2)] _ _ _
  refine y_iln dX7_findArray_20 rfl ?_
  refine y_ic dX7_findArray_21 zi_m1 ?_
  refine y_iin (r2 = (-1 : Int32)) dX7_findArray_22 (t := 32) rfl rfl (fun c9 => ?_) (fun c9 => ?_)
  · replace F := F.1 c9
    refine y_iln dX7_findArray_32 rfl ?_
    exact y_ri Wκ1 dX7_findArray_33 rfl in_nar F
  · replace F := F.2 c9
    refine y_aln dX7_findArray_25 rfl ?_
    refine y_bi1 dX7_findArray_26 zb_11 ?_
    refine y_iln dX7_findArray_28 rfl ?_
    have h6 := (ztm W Mκ1 Ta0)
    replace F := F h6
    refine k_X7_123 Wκ1 dX7_findArray_29 rfl (Nat.le_of_ble_eq_true rfl) (Nat.le_of_ble_eq_true rfl) (Or.inl h6) F (fun  κ4 Wκ4 Mκ4 F => ?_) (fun cls9 κ9 h9 => Or.inr ⟨_, rfl, h9⟩)
    replace F := F Wκ4 Mκ4
    refine y_iln dX7_findArray_32 rfl ?_
    exact y_ri Wκ4 dX7_findArray_33 rfl in_nar F

theorem Pa_findArray_run {C : zC} {n0 : Nat} {Q : Int32 → zS → Prop} {X : zXp} {a0 : Nat} {a1 : Int32} {κ : zS} (W : zW C n0 κ) (Ta0 : zT κ a0 = 10) (F : w_Pa_findArray_0 C (zn κ) Q X a0 a1 κ) : zRun C 9 mPa_findArray [.ref a0, .int a1] κ (oI Q X) := z_run (m_ent _ 1) (t_Pa_findArray_0 (W.lo (Nat.le_trans W.1.2.1 W.1.2.2) (Nat.le_refl _)) Ta0 F)

theorem dX7_findVariable_0 : decode cX7_findVariable 0 = .ok (.aload_n 0, 1) := by decide +kernel
theorem dX7_findVariable_1 : decode cX7_findVariable 1 = .ok (.getfield 9, 3) := by decide +kernel
theorem dX7_findVariable_4 : decode cX7_findVariable 4 = .ok (.aload_n 0, 1) := by decide +kernel
theorem dX7_findVariable_5 : decode cX7_findVariable 5 = .ok (.getfield 29, 3) := by decide +kernel
theorem dX7_findVariable_8 : decode cX7_findVariable 8 = .ok (.aload_n 0, 1) := by decide +kernel
theorem dX7_findVariable_9 : decode cX7_findVariable 9 = .ok (.getfield 66, 3) := by decide +kernel
theorem dX7_findVariable_12 : decode cX7_findVariable 12 = .ok (.iload_n 1, 1) := by decide +kernel
theorem dX7_findVariable_13 : decode cX7_findVariable 13 = .ok (.invokevirtual 133, 3) := by decide +kernel
theorem dX7_findVariable_16 : decode cX7_findVariable 16 = .ok (.istore_n 2, 1) := by decide +kernel
theorem dX7_findVariable_17 : decode cX7_findVariable 17 = .ok (.iload_n 2, 1) := by decide +kernel
theorem dX7_findVariable_18 : decode cX7_findVariable 18 = .ok (.iconst (-1), 1) := by decide +kernel
theorem dX7_findVariable_19 : decode cX7_findVariable 19 = .ok (.if_icmp .ne 33, 3) := by decide +kernel
theorem dX7_findVariable_22 : decode cX7_findVariable 22 = .ok (.aload_n 0, 1) := by decide +kernel
theorem dX7_findVariable_23 : decode cX7_findVariable 23 = .ok (.getfield 9, 3) := by decide +kernel
theorem dX7_findVariable_26 : decode cX7_findVariable 26 = .ok (.aload_n 0, 1) := by decide +kernel
theorem dX7_findVariable_27 : decode cX7_findVariable 27 = .ok (.getfield 19, 3) := by decide +kernel
theorem dX7_findVariable_30 : decode cX7_findVariable 30 = .ok (.aload_n 0, 1) := by decide +kernel
theorem dX7_findVariable_31 : decode cX7_findVariable 31 = .ok (.getfield 15, 3) := by decide +kernel
theorem dX7_findVariable_34 : decode cX7_findVariable 34 = .ok (.getfield 130, 3) := by decide +kernel
theorem dX7_findVariable_37 : decode cX7_findVariable 37 = .ok (.iload_n 1, 1) := by decide +kernel
theorem dX7_findVariable_38 : decode cX7_findVariable 38 = .ok (.invokevirtual 133, 3) := by decide +kernel
theorem dX7_findVariable_41 : decode cX7_findVariable 41 = .ok (.iconst (-1), 1) := by decide +kernel
theorem dX7_findVariable_42 : decode cX7_findVariable 42 = .ok (.if_icmp .ne 10, 3) := by decide +kernel
theorem dX7_findVariable_45 : decode cX7_findVariable 45 = .ok (.aload_n 0, 1) := by decide +kernel
theorem dX7_findVariable_46 : decode cX7_findVariable 46 = .ok (.bipush 11, 2) := by decide +kernel
theorem dX7_findVariable_48 : decode cX7_findVariable 48 = .ok (.iload_n 1, 1) := by decide +kernel
theorem dX7_findVariable_49 : decode cX7_findVariable 49 = .ok (.invokevirtual 123, 3) := by decide +kernel
theorem dX7_findVariable_52 : decode cX7_findVariable 52 = .ok (.iload_n 2, 1) := by decide +kernel
theorem dX7_findVariable_53 : decode cX7_findVariable 53 = .ok (.ireturn, 1) := by decide +kernel
def w_Pa_findVariable_0 (C : zC) (n0 : Nat) (Q : Int32 → zS → Prop) (X : zXp)  (a0 : Nat) (a1 : Int32) (κ : zS) : Prop :=
  ∀ _ : zT κ (zR κ paTape a0) = 13,
  ∀ _ : zT κ (zR κ paOwnNames a0) = 20,
  zRun C 0 mTa_findName [.ref (zR κ paTape a0), .ref (zR κ paOwnNames a0), .int (zI κ paOwns a0), .int a1] κ (oI (fun r2 κ1 =>
    ∀ _ : zW C n0 κ1,
    ∀ _ : zM (zn κ) κ κ1,
    (¬ r2 = (-1 : Int32) →
      Q r2 κ1) ∧
    (r2 = (-1 : Int32) →
      ∀ _ : zT κ1 (zR κ1 paTape a0) = 13,
      ∀ _ : zT κ1 (zR κ1 paVarNames a0) = 20,
      zRun C 0 mTa_findName [.ref (zR κ1 paTape a0), .ref (zR κ1 paVarNames a0), .int (zI κ1 coVars (zR κ1 paCode a0)), .int a1] κ1 (oI (fun r6 κ5 =>
        ∀ _ : zW C n0 κ5,
        ∀ _ : zM (zn κ1) κ1 κ5,
        (¬ r6 = (-1 : Int32) →
          Q r2 κ5) ∧
        (r6 = (-1 : Int32) →
          ∀ _ : zT κ5 a0 = 10,
          zRun C 8 mPa_refuse [.ref a0, .int (11 : Int32), .int a1] κ5 (oV (fun κ8 =>
            ∀ _ : zW C n0 κ8,
            ∀ _ : zM (zn κ5) κ5 κ8,
            Q r2 κ8) X))) noX))) noX)
theorem t_Pa_findVariable_0 {C : zC} {n0 : Nat} {Q : Int32 → zS → Prop} {X : zXp}   {a0 : Nat} {a1 : Int32} {κ : zS} (W : zW C n0 κ) (Ta0 : zT κ a0 = 10) (F : w_Pa_findVariable_0 C n0 Q X  a0 a1 κ) : zG C n0 9 mPa_findVariable 0 [some (.ref a0), some (.int a1), none] [] κ (oI Q X) := by
  unfold w_Pa_findVariable_0 at F
  refine y_aln dX7_findVariable_0 rfl ?_
  refine gf_X7_9 W dX7_findVariable_1 rfl Ta0 ?_
  refine y_aln dX7_findVariable_4 rfl ?_
  refine gf_X7_29 W dX7_findVariable_5 rfl Ta0 ?_
  refine y_aln dX7_findVariable_8 rfl ?_
  refine gf_X7_66 dX7_findVariable_9 rfl (Or.inl Ta0) ?_
  refine y_iln dX7_findVariable_12 rfl ?_
  replace F := F (ty_paTape W Ta0)
  replace F := F (ty_paOwnNames W Ta0)
  refine k_X7_133 W dX7_findVariable_13 rfl (Nat.le_of_ble_eq_true rfl) (Nat.le_of_ble_eq_true rfl) (Or.inl (ty_paTape W Ta0)) F (fun r2 κ1 Wκ1 Mκ1 F => ?_) (fun _ _ h9 => False.elim h9)
  replace F := F Wκ1 Mκ1
  refine y_isn dX7_findVariable_16 (Nat.le_of_ble_eq_true rfl) rfl ?_
  show zG _ _ _ _ _ [some (.ref a0), some (.int a1), some (.int r2)] _ _ _
  refine y_iln dX7_findVariable_17 rfl ?_
  refine y_ic dX7_findVariable_18 zi_m1 ?_
  refine y_iin (r2 = (-1 : Int32)) dX7_findVariable_19 (t := 52) rfl rfl (fun c9 => ?_) (fun c9 => ?_)
  · replace F := F.1 c9
    refine y_iln dX7_findVariable_52 rfl ?_
    exact y_ri Wκ1 dX7_findVariable_53 rfl in_nar F
  · replace F := F.2 c9
    refine y_aln dX7_findVariable_22 rfl ?_
    have h4 := (ztm W Mκ1 Ta0)
    refine gf_X7_9 Wκ1 dX7_findVariable_23 rfl h4 ?_
    refine y_aln dX7_findVariable_26 rfl ?_
    refine gf_X7_19 Wκ1 dX7_findVariable_27 rfl h4 ?_
    refine y_aln dX7_findVariable_30 rfl ?_
    refine gf_X7_15 Wκ1 dX7_findVariable_31 rfl h4 ?_
    refine gf_X7_130 dX7_findVariable_34 rfl (Or.inl (ty_paCode Wκ1 h4)) ?_
    refine y_iln dX7_findVariable_37 rfl ?_
    replace F := F (ty_paTape Wκ1 h4)
    replace F := F (ty_paVarNames Wκ1 h4)
    refine k_X7_133 Wκ1 dX7_findVariable_38 rfl (Nat.le_of_ble_eq_true rfl) (Nat.le_of_ble_eq_true rfl) (Or.inl (ty_paTape Wκ1 h4)) F (fun r6 κ5 Wκ5 Mκ5 F => ?_) (fun _ _ h9 => False.elim h9)
    replace F := F Wκ5 Mκ5
    refine y_ic dX7_findVariable_41 zi_m1 ?_
    refine y_iin (r6 = (-1 : Int32)) dX7_findVariable_42 (t := 52) rfl rfl (fun c9 => ?_) (fun c9 => ?_)
    · replace F := F.1 c9
      refine y_iln dX7_findVariable_52 rfl ?_
      exact y_ri Wκ5 dX7_findVariable_53 rfl in_nar F
    · replace F := F.2 c9
      refine y_aln dX7_findVariable_45 rfl ?_
      refine y_bi1 dX7_findVariable_46 zb_11 ?_
      refine y_iln dX7_findVariable_48 rfl ?_
      have h10 := (ztm Wκ1 Mκ5 h4)
      replace F := F h10
      refine k_X7_123 Wκ5 dX7_findVariable_49 rfl (Nat.le_of_ble_eq_true rfl) (Nat.le_of_ble_eq_true rfl) (Or.inl h10) F (fun  κ8 Wκ8 Mκ8 F => ?_) (fun cls9 κ9 h9 => Or.inr ⟨_, rfl, h9⟩)
      replace F := F Wκ8 Mκ8
      refine y_iln dX7_findVariable_52 rfl ?_
      exact y_ri Wκ8 dX7_findVariable_53 rfl in_nar F

theorem Pa_findVariable_run {C : zC} {n0 : Nat} {Q : Int32 → zS → Prop} {X : zXp} {a0 : Nat} {a1 : Int32} {κ : zS} (W : zW C n0 κ) (Ta0 : zT κ a0 = 10) (F : w_Pa_findVariable_0 C (zn κ) Q X a0 a1 κ) : zRun C 9 mPa_findVariable [.ref a0, .int a1] κ (oI Q X) := z_run (m_ent _ 1) (t_Pa_findVariable_0 (W.lo (Nat.le_trans W.1.2.1 W.1.2.2) (Nat.le_refl _)) Ta0 F)

theorem dX7_operandName_0 : decode cX7_operandName 0 = .ok (.aload_n 0, 1) := by decide +kernel
theorem dX7_operandName_1 : decode cX7_operandName 1 = .ok (.getfield 78, 3) := by decide +kernel
theorem dX7_operandName_4 : decode cX7_operandName 4 = .ok (.bipush 91, 2) := by decide +kernel
theorem dX7_operandName_6 : decode cX7_operandName 6 = .ok (.if_icmp .ne 25, 3) := by decide +kernel
theorem dX7_operandName_9 : decode cX7_operandName 9 = .ok (.aload_n 0, 1) := by decide +kernel
theorem dX7_operandName_10 : decode cX7_operandName 10 = .ok (.iload_n 1, 1) := by decide +kernel
theorem dX7_operandName_11 : decode cX7_operandName 11 = .ok (.invokevirtual 214, 3) := by decide +kernel
theorem dX7_operandName_14 : decode cX7_operandName 14 = .ok (.istore_n 2, 1) := by decide +kernel
theorem dX7_operandName_15 : decode cX7_operandName 15 = .ok (.aload_n 0, 1) := by decide +kernel
theorem dX7_operandName_16 : decode cX7_operandName 16 = .ok (.bipush 91, 2) := by decide +kernel
theorem dX7_operandName_18 : decode cX7_operandName 18 = .ok (.invokevirtual 166, 3) := by decide +kernel
theorem dX7_operandName_21 : decode cX7_operandName 21 = .ok (.aload_n 0, 1) := by decide +kernel
theorem dX7_operandName_22 : decode cX7_operandName 22 = .ok (.bipush 101, 2) := by decide +kernel
theorem dX7_operandName_24 : decode cX7_operandName 24 = .ok (.iload_n 2, 1) := by decide +kernel
theorem dX7_operandName_25 : decode cX7_operandName 25 = .ok (.iadd, 1) := by decide +kernel
theorem dX7_operandName_26 : decode cX7_operandName 26 = .ok (.invokevirtual 261, 3) := by decide +kernel
theorem dX7_operandName_29 : decode cX7_operandName 29 = .ok (.iconst 1, 1) := by decide +kernel
theorem dX7_operandName_30 : decode cX7_operandName 30 = .ok (.ireturn, 1) := by decide +kernel
theorem dX7_operandName_31 : decode cX7_operandName 31 = .ok (.aload_n 0, 1) := by decide +kernel
theorem dX7_operandName_32 : decode cX7_operandName 32 = .ok (.getfield 78, 3) := by decide +kernel
theorem dX7_operandName_35 : decode cX7_operandName 35 = .ok (.bipush 40, 2) := by decide +kernel
theorem dX7_operandName_37 : decode cX7_operandName 37 = .ok (.if_icmp .ne 12, 3) := by decide +kernel
theorem dX7_operandName_40 : decode cX7_operandName 40 = .ok (.aload_n 0, 1) := by decide +kernel
theorem dX7_operandName_41 : decode cX7_operandName 41 = .ok (.iconst 2, 1) := by decide +kernel
theorem dX7_operandName_42 : decode cX7_operandName 42 = .ok (.aload_n 0, 1) := by decide +kernel
theorem dX7_operandName_43 : decode cX7_operandName 43 = .ok (.getfield 55, 3) := by decide +kernel
theorem dX7_operandName_46 : decode cX7_operandName 46 = .ok (.invokevirtual 123, 3) := by decide +kernel
theorem dX7_operandName_49 : decode cX7_operandName 49 = .ok (.aload_n 0, 1) := by decide +kernel
theorem dX7_operandName_50 : decode cX7_operandName 50 = .ok (.iload_n 1, 1) := by decide +kernel
theorem dX7_operandName_51 : decode cX7_operandName 51 = .ok (.invokevirtual 223, 3) := by decide +kernel
theorem dX7_operandName_54 : decode cX7_operandName 54 = .ok (.istore_n 2, 1) := by decide +kernel
theorem dX7_operandName_55 : decode cX7_operandName 55 = .ok (.aload_n 0, 1) := by decide +kernel
theorem dX7_operandName_56 : decode cX7_operandName 56 = .ok (.getfield 15, 3) := by decide +kernel
theorem dX7_operandName_59 : decode cX7_operandName 59 = .ok (.iload_n 2, 1) := by decide +kernel
theorem dX7_operandName_60 : decode cX7_operandName 60 = .ok (.ifCond .lt 7, 3) := by decide +kernel
theorem dX7_operandName_63 : decode cX7_operandName 63 = .ok (.iconst 3, 1) := by decide +kernel
theorem dX7_operandName_64 : decode cX7_operandName 64 = .ok (.goto 4, 3) := by decide +kernel
theorem dX7_operandName_67 : decode cX7_operandName 67 = .ok (.iconst 2, 1) := by decide +kernel
theorem dX7_operandName_68 : decode cX7_operandName 68 = .ok (.iload_n 2, 1) := by decide +kernel
theorem dX7_operandName_69 : decode cX7_operandName 69 = .ok (.ifCond .lt 7, 3) := by decide +kernel
theorem dX7_operandName_72 : decode cX7_operandName 72 = .ok (.iload_n 2, 1) := by decide +kernel
theorem dX7_operandName_73 : decode cX7_operandName 73 = .ok (.goto 22, 3) := by decide +kernel
theorem dX7_operandName_76 : decode cX7_operandName 76 = .ok (.aload_n 0, 1) := by decide +kernel
theorem dX7_operandName_77 : decode cX7_operandName 77 = .ok (.getfield 9, 3) := by decide +kernel
theorem dX7_operandName_80 : decode cX7_operandName 80 = .ok (.aload_n 0, 1) := by decide +kernel
theorem dX7_operandName_81 : decode cX7_operandName 81 = .ok (.getfield 19, 3) := by decide +kernel
theorem dX7_operandName_84 : decode cX7_operandName 84 = .ok (.aload_n 0, 1) := by decide +kernel
theorem dX7_operandName_85 : decode cX7_operandName 85 = .ok (.getfield 15, 3) := by decide +kernel
theorem dX7_operandName_88 : decode cX7_operandName 88 = .ok (.getfield 130, 3) := by decide +kernel
theorem dX7_operandName_91 : decode cX7_operandName 91 = .ok (.iload_n 1, 1) := by decide +kernel
theorem dX7_operandName_92 : decode cX7_operandName 92 = .ok (.invokevirtual 133, 3) := by decide +kernel
theorem dX7_operandName_95 : decode cX7_operandName 95 = .ok (.invokevirtual 258, 3) := by decide +kernel
theorem dX7_operandName_98 : decode cX7_operandName 98 = .ok (.iconst 0, 1) := by decide +kernel
theorem dX7_operandName_99 : decode cX7_operandName 99 = .ok (.ireturn, 1) := by decide +kernel
def w_Pa_operandName_68 (C : zC) (n0 : Nat) (Q : Int32 → zS → Prop) (X : zXp)  (a0 : Nat) (a1 : Int32) (a2 : Int32) (s0 : Nat) (s1 : Int32) (κ : zS) : Prop :=
  (a2 < (0 : Int32) →
    ∀ _ : zT κ (zR κ paTape a0) = 13,
    ∀ _ : zT κ (zR κ paVarNames a0) = 20,
    zRun C 0 mTa_findName [.ref (zR κ paTape a0), .ref (zR κ paVarNames a0), .int (zI κ coVars (zR κ paCode a0)), .int a1] κ (oI (fun r2 κ1 =>
      ∀ _ : zW C n0 κ1,
      ∀ _ : zM (zn κ) κ κ1,
      ∀ _ : zT κ1 s0 = 5,
      zRun C 2 mCo_emit [.ref s0, .int s1, .int r2] κ1 (oV (fun κ4 =>
        ∀ _ : zW C n0 κ4,
        ∀ _ : zM (zn κ1) κ1 κ4,
        Q (0 : Int32) κ4) noX)) noX)) ∧
  (¬ a2 < (0 : Int32) →
    ∀ _ : zT κ s0 = 5,
    zRun C 2 mCo_emit [.ref s0, .int s1, .int a2] κ (oV (fun κ8 =>
      ∀ _ : zW C n0 κ8,
      ∀ _ : zM (zn κ) κ κ8,
      Q (0 : Int32) κ8) noX))
theorem t_Pa_operandName_68 {C : zC} {n0 : Nat} {Q : Int32 → zS → Prop} {X : zXp}   {a0 : Nat} {a1 : Int32} {a2 : Int32} {s0 : Nat} {s1 : Int32} {κ : zS} (W : zW C n0 κ) (Ta0 : zT κ a0 = 10) (Ts0 : zT κ s0 = 5) (F : w_Pa_operandName_68 C n0 Q X  a0 a1 a2 s0 s1 κ) : zG C n0 10 mPa_operandName 68 [some (.ref a0), some (.int a1), some (.int a2)] [.int s1, .ref s0] κ (oI Q X) := by
  unfold w_Pa_operandName_68 at F
  refine y_iln dX7_operandName_68 rfl ?_
  refine y_i (a2 < (0 : Int32)) dX7_operandName_69 (t := 76) rfl rfl (fun c9 => ?_) (fun c9 => ?_)
  · replace F := F.1 c9
    refine y_aln dX7_operandName_76 rfl ?_
    refine gf_X7_9 W dX7_operandName_77 rfl Ta0 ?_
    refine y_aln dX7_operandName_80 rfl ?_
    refine gf_X7_19 W dX7_operandName_81 rfl Ta0 ?_
    refine y_aln dX7_operandName_84 rfl ?_
    refine gf_X7_15 W dX7_operandName_85 rfl Ta0 ?_
    refine gf_X7_130 dX7_operandName_88 rfl (Or.inl (ty_paCode W Ta0)) ?_
    refine y_iln dX7_operandName_91 rfl ?_
    replace F := F (ty_paTape W Ta0)
    replace F := F (ty_paVarNames W Ta0)
    refine k_X7_133 W dX7_operandName_92 rfl (Nat.le_of_ble_eq_true rfl) (Nat.le_of_ble_eq_true rfl) (Or.inl (ty_paTape W Ta0)) F (fun r2 κ1 Wκ1 Mκ1 F => ?_) (fun _ _ h9 => False.elim h9)
    replace F := F Wκ1 Mκ1
    have h6 := (ztm W Mκ1 Ts0)
    replace F := F h6
    refine k_X7_258 Wκ1 dX7_operandName_95 rfl (Nat.le_of_ble_eq_true rfl) (Nat.le_of_ble_eq_true rfl) (Or.inl h6) F (fun  κ4 Wκ4 Mκ4 F => ?_) (fun _ _ h9 => False.elim h9)
    replace F := F Wκ4 Mκ4
    refine y_ic dX7_operandName_98 zi_0 ?_
    exact y_ri Wκ4 dX7_operandName_99 rfl (nb_nar nb_0) F
  · replace F := F.2 c9
    refine y_iln dX7_operandName_72 rfl ?_
    refine y_goto dX7_operandName_73 (t := 95) rfl ?_
    replace F := F Ts0
    refine k_X7_258 W dX7_operandName_95 rfl (Nat.le_of_ble_eq_true rfl) (Nat.le_of_ble_eq_true rfl) (Or.inl Ts0) F (fun  κ8 Wκ8 Mκ8 F => ?_) (fun _ _ h9 => False.elim h9)
    replace F := F Wκ8 Mκ8
    refine y_ic dX7_operandName_98 zi_0 ?_
    exact y_ri Wκ8 dX7_operandName_99 rfl (nb_nar nb_0) F

def w_Pa_operandName_49 (C : zC) (n0 : Nat) (Q : Int32 → zS → Prop) (X : zXp)  (a0 : Nat) (a1 : Int32) (κ : zS) : Prop :=
  ∀ _ : zT κ a0 = 10,
  zRun C 9 mPa_findVariable [.ref a0, .int a1] κ (oI (fun r2 κ1 =>
    ∀ _ : zW C n0 κ1,
    ∀ _ : zM (zn κ) κ κ1,
    (r2 < (0 : Int32) →
      w_Pa_operandName_68 C n0 Q X  a0 a1 r2 (zR κ1 paCode a0) (2 : Int32) κ1) ∧
    (¬ r2 < (0 : Int32) →
      w_Pa_operandName_68 C n0 Q X  a0 a1 r2 (zR κ1 paCode a0) (3 : Int32) κ1)) X)
theorem t_Pa_operandName_49 {C : zC} {n0 : Nat} {Q : Int32 → zS → Prop} {X : zXp}   {a0 : Nat} {a1 : Int32} {κ : zS} (W : zW C n0 κ) (Ta0 : zT κ a0 = 10) (F : w_Pa_operandName_49 C n0 Q X  a0 a1 κ) : zG C n0 10 mPa_operandName 49 [some (.ref a0), some (.int a1), none] [] κ (oI Q X) := by
  unfold w_Pa_operandName_49 at F
  refine y_aln dX7_operandName_49 rfl ?_
  refine y_iln dX7_operandName_50 rfl ?_
  replace F := F Ta0
  refine k_X7_223 W dX7_operandName_51 rfl (Nat.le_of_ble_eq_true rfl) (Nat.le_of_ble_eq_true rfl) (Or.inl Ta0) F (fun r2 κ1 Wκ1 Mκ1 F => ?_) (fun cls9 κ9 h9 => Or.inr ⟨_, rfl, h9⟩)
  replace F := F Wκ1 Mκ1
  refine y_isn dX7_operandName_54 (Nat.le_of_ble_eq_true rfl) rfl ?_
  show zG _ _ _ _ _ [some (.ref a0), some (.int a1), some (.int r2)] _ _ _
  refine y_aln dX7_operandName_55 rfl ?_
  have h4 := (ztm W Mκ1 Ta0)
  refine gf_X7_15 Wκ1 dX7_operandName_56 rfl h4 ?_
  refine y_iln dX7_operandName_59 rfl ?_
  refine y_i (r2 < (0 : Int32)) dX7_operandName_60 (t := 67) rfl rfl (fun c9 => ?_) (fun c9 => ?_)
  · replace F := F.1 c9
    refine y_ic dX7_operandName_67 zi_2 ?_
    exact y_k (t_Pa_operandName_68  Wκ1 h4 (ty_paCode Wκ1 h4) F) ⟨rfl, rfl, rfl, trivial⟩
  · replace F := F.2 c9
    refine y_ic dX7_operandName_63 zi_3 ?_
    refine y_goto dX7_operandName_64 (t := 68) rfl ?_
    exact y_k (t_Pa_operandName_68  Wκ1 h4 (ty_paCode Wκ1 h4) F) ⟨rfl, rfl, rfl, trivial⟩

def w_Pa_operandName_0 (C : zC) (n0 : Nat) (Q : Int32 → zS → Prop) (X : zXp)  (a0 : Nat) (a1 : Int32) (κ : zS) : Prop :=
  (¬ (zI κ paKind a0) = (91 : Int32) →
    (¬ (zI κ paKind a0) = (40 : Int32) →
      w_Pa_operandName_49 C n0 Q X  a0 a1 κ) ∧
    ((zI κ paKind a0) = (40 : Int32) →
      ∀ _ : zT κ a0 = 10,
      zRun C 8 mPa_refuse [.ref a0, .int (2 : Int32), .int (zI κ paAt a0)] κ (oV (fun κ1 =>
        ∀ _ : zW C n0 κ1,
        ∀ _ : zM (zn κ) κ κ1,
        w_Pa_operandName_49 C n0 Q X  a0 a1 κ1) X))) ∧
  ((zI κ paKind a0) = (91 : Int32) →
    ∀ _ : zT κ a0 = 10,
    zRun C 9 mPa_findArray [.ref a0, .int a1] κ (oI (fun r6 κ5 =>
      ∀ _ : zW C n0 κ5,
      ∀ _ : zM (zn κ) κ κ5,
      ∀ _ : zT κ5 a0 = 10,
      zRun C 9 mPa_openSign [.ref a0, .int (91 : Int32)] κ5 (oV (fun κ8 =>
        ∀ _ : zW C n0 κ8,
        ∀ _ : zM (zn κ5) κ5 κ8,
        ∀ _ : zT κ8 a0 = 10,
        zRun C 2 mPa_hold [.ref a0, .int ((101 : Int32) + r6)] κ8 (oV (fun κ12 =>
          ∀ _ : zW C n0 κ12,
          ∀ _ : zM (zn κ8) κ8 κ12,
          Q (1 : Int32) κ12) noX)) X)) X))
theorem t_Pa_operandName_0 {C : zC} {n0 : Nat} {Q : Int32 → zS → Prop} {X : zXp}   {a0 : Nat} {a1 : Int32} {κ : zS} (W : zW C n0 κ) (Ta0 : zT κ a0 = 10) (F : w_Pa_operandName_0 C n0 Q X  a0 a1 κ) : zG C n0 10 mPa_operandName 0 [some (.ref a0), some (.int a1), none] [] κ (oI Q X) := by
  unfold w_Pa_operandName_0 at F
  refine y_aln dX7_operandName_0 rfl ?_
  refine gf_X7_78 dX7_operandName_1 rfl (Or.inl Ta0) ?_
  refine y_bi1 dX7_operandName_4 zb_91 ?_
  refine y_iin ((zI κ paKind a0) = (91 : Int32)) dX7_operandName_6 (t := 31) rfl rfl (fun c9 => ?_) (fun c9 => ?_)
  · replace F := F.1 c9
    refine y_aln dX7_operandName_31 rfl ?_
    refine gf_X7_78 dX7_operandName_32 rfl (Or.inl Ta0) ?_
    refine y_bi1 dX7_operandName_35 zb_40 ?_
    refine y_iin ((zI κ paKind a0) = (40 : Int32)) dX7_operandName_37 (t := 49) rfl rfl (fun c9 => ?_) (fun c9 => ?_)
    · replace F := F.1 c9
      exact y_k (t_Pa_operandName_49  W Ta0 F) ⟨rfl, rfl, trivial⟩
    · replace F := F.2 c9
      refine y_aln dX7_operandName_40 rfl ?_
      refine y_ic dX7_operandName_41 zi_2 ?_
      refine y_aln dX7_operandName_42 rfl ?_
      refine gf_X7_55 dX7_operandName_43 rfl (Or.inl Ta0) ?_
      replace F := F Ta0
      refine k_X7_123 W dX7_operandName_46 rfl (Nat.le_of_ble_eq_true rfl) (Nat.le_of_ble_eq_true rfl) (Or.inl Ta0) F (fun  κ1 Wκ1 Mκ1 F => ?_) (fun cls9 κ9 h9 => Or.inr ⟨_, rfl, h9⟩)
      replace F := F Wκ1 Mκ1
      have h4 := (ztm W Mκ1 Ta0)
      exact y_k (t_Pa_operandName_49  Wκ1 h4 F) ⟨rfl, rfl, trivial⟩
  · replace F := F.2 c9
    refine y_aln dX7_operandName_9 rfl ?_
    refine y_iln dX7_operandName_10 rfl ?_
    replace F := F Ta0
    refine k_X7_214 W dX7_operandName_11 rfl (Nat.le_of_ble_eq_true rfl) (Nat.le_of_ble_eq_true rfl) (Or.inl Ta0) F (fun r6 κ5 Wκ5 Mκ5 F => ?_) (fun cls9 κ9 h9 => Or.inr ⟨_, rfl, h9⟩)
    replace F := F Wκ5 Mκ5
    refine y_isn dX7_operandName_14 (Nat.le_of_ble_eq_true rfl) rfl ?_
    show zG _ _ _ _ _ [some (.ref a0), some (.int a1), some (.int r6)] _ _ _
    refine y_aln dX7_operandName_15 rfl ?_
    refine y_bi1 dX7_operandName_16 zb_91 ?_
    have h10 := (ztm W Mκ5 Ta0)
    replace F := F h10
    refine k_X7_166 Wκ5 dX7_operandName_18 rfl (Nat.le_of_ble_eq_true rfl) (Nat.le_of_ble_eq_true rfl) (Or.inl h10) F (fun  κ8 Wκ8 Mκ8 F => ?_) (fun cls9 κ9 h9 => Or.inr ⟨_, rfl, h9⟩)
    replace F := F Wκ8 Mκ8
    refine y_aln dX7_operandName_21 rfl ?_
    refine y_bi1 dX7_operandName_22 zb_101 ?_
    refine y_iln dX7_operandName_24 rfl ?_
    refine y_iadd dX7_operandName_25 ?_
    have h14 := (ztm Wκ5 Mκ8 h10)
    replace F := F h14
    refine k_X7_261 Wκ8 dX7_operandName_26 rfl (Nat.le_of_ble_eq_true rfl) (Nat.le_of_ble_eq_true rfl) (Or.inl h14) F (fun  κ12 Wκ12 Mκ12 F => ?_) (fun _ _ h9 => False.elim h9)
    replace F := F Wκ12 Mκ12
    refine y_ic dX7_operandName_29 zi_1 ?_
    exact y_ri Wκ12 dX7_operandName_30 rfl (nb_nar nb_1) F

theorem Pa_operandName_run {C : zC} {n0 : Nat} {Q : Int32 → zS → Prop} {X : zXp} {a0 : Nat} {a1 : Int32} {κ : zS} (W : zW C n0 κ) (Ta0 : zT κ a0 = 10) (F : w_Pa_operandName_0 C (zn κ) Q X a0 a1 κ) : zRun C 10 mPa_operandName [.ref a0, .int a1] κ (oI Q X) := z_run (m_ent _ 1) (t_Pa_operandName_0 (W.lo (Nat.le_trans W.1.2.1 W.1.2.2) (Nat.le_refl _)) Ta0 F)

theorem dX7_binary_0 : decode cX7_binary 0 = .ok (.iload_n 0, 1) := by decide +kernel
theorem dX7_binary_1 : decode cX7_binary 1 = .ok (.lookupswitch 154 #[(37, 151), (38, 118), (42, 145), (43, 139), (45, 142), (47, 148), (60, 127), (62, 133), (124, 115), (128, 121), (129, 124), (130, 130), (131, 136)], 115) := by decide +kernel
theorem dX7_binary_116 : decode cX7_binary 116 = .ok (.bipush 7, 2) := by decide +kernel
theorem dX7_binary_118 : decode cX7_binary 118 = .ok (.ireturn, 1) := by decide +kernel
theorem dX7_binary_119 : decode cX7_binary 119 = .ok (.bipush 8, 2) := by decide +kernel
theorem dX7_binary_121 : decode cX7_binary 121 = .ok (.ireturn, 1) := by decide +kernel
theorem dX7_binary_122 : decode cX7_binary 122 = .ok (.bipush 9, 2) := by decide +kernel
theorem dX7_binary_124 : decode cX7_binary 124 = .ok (.ireturn, 1) := by decide +kernel
theorem dX7_binary_125 : decode cX7_binary 125 = .ok (.bipush 10, 2) := by decide +kernel
theorem dX7_binary_127 : decode cX7_binary 127 = .ok (.ireturn, 1) := by decide +kernel
theorem dX7_binary_128 : decode cX7_binary 128 = .ok (.bipush 11, 2) := by decide +kernel
theorem dX7_binary_130 : decode cX7_binary 130 = .ok (.ireturn, 1) := by decide +kernel
theorem dX7_binary_131 : decode cX7_binary 131 = .ok (.bipush 12, 2) := by decide +kernel
theorem dX7_binary_133 : decode cX7_binary 133 = .ok (.ireturn, 1) := by decide +kernel
theorem dX7_binary_134 : decode cX7_binary 134 = .ok (.bipush 13, 2) := by decide +kernel
theorem dX7_binary_136 : decode cX7_binary 136 = .ok (.ireturn, 1) := by decide +kernel
theorem dX7_binary_137 : decode cX7_binary 137 = .ok (.bipush 14, 2) := by decide +kernel
theorem dX7_binary_139 : decode cX7_binary 139 = .ok (.ireturn, 1) := by decide +kernel
theorem dX7_binary_140 : decode cX7_binary 140 = .ok (.bipush 15, 2) := by decide +kernel
theorem dX7_binary_142 : decode cX7_binary 142 = .ok (.ireturn, 1) := by decide +kernel
theorem dX7_binary_143 : decode cX7_binary 143 = .ok (.bipush 16, 2) := by decide +kernel
theorem dX7_binary_145 : decode cX7_binary 145 = .ok (.ireturn, 1) := by decide +kernel
theorem dX7_binary_146 : decode cX7_binary 146 = .ok (.bipush 17, 2) := by decide +kernel
theorem dX7_binary_148 : decode cX7_binary 148 = .ok (.ireturn, 1) := by decide +kernel
theorem dX7_binary_149 : decode cX7_binary 149 = .ok (.bipush 18, 2) := by decide +kernel
theorem dX7_binary_151 : decode cX7_binary 151 = .ok (.ireturn, 1) := by decide +kernel
theorem dX7_binary_152 : decode cX7_binary 152 = .ok (.bipush 19, 2) := by decide +kernel
theorem dX7_binary_154 : decode cX7_binary 154 = .ok (.ireturn, 1) := by decide +kernel
theorem dX7_binary_155 : decode cX7_binary 155 = .ok (.iconst (-1), 1) := by decide +kernel
theorem dX7_binary_156 : decode cX7_binary 156 = .ok (.ireturn, 1) := by decide +kernel
def w_Pa_binary_0 (C : zC) (n0 : Nat) (Q : Int32 → zS → Prop)  (a0 : Int32) (κ : zS) : Prop :=
  ((a0).toInt ≠ 37 ∧ (a0).toInt ≠ 38 ∧ (a0).toInt ≠ 42 ∧ (a0).toInt ≠ 43 ∧ (a0).toInt ≠ 45 ∧ (a0).toInt ≠ 47 ∧ (a0).toInt ≠ 60 ∧ (a0).toInt ≠ 62 ∧ (a0).toInt ≠ 124 ∧ (a0).toInt ≠ 128 ∧ (a0).toInt ≠ 129 ∧ (a0).toInt ≠ 130 ∧ (a0).toInt ≠ 131 →
    Q (-1 : Int32) κ) ∧
  ((a0).toInt = 37 →
    Q (19 : Int32) κ) ∧
  ((a0).toInt = 38 →
    Q (8 : Int32) κ) ∧
  ((a0).toInt = 42 →
    Q (17 : Int32) κ) ∧
  ((a0).toInt = 43 →
    Q (15 : Int32) κ) ∧
  ((a0).toInt = 45 →
    Q (16 : Int32) κ) ∧
  ((a0).toInt = 47 →
    Q (18 : Int32) κ) ∧
  ((a0).toInt = 60 →
    Q (11 : Int32) κ) ∧
  ((a0).toInt = 62 →
    Q (13 : Int32) κ) ∧
  ((a0).toInt = 124 →
    Q (7 : Int32) κ) ∧
  ((a0).toInt = 128 →
    Q (9 : Int32) κ) ∧
  ((a0).toInt = 129 →
    Q (10 : Int32) κ) ∧
  ((a0).toInt = 130 →
    Q (12 : Int32) κ) ∧
  ((a0).toInt = 131 →
    Q (14 : Int32) κ)
theorem t_Pa_binary_0 {C : zC} {n0 : Nat} {Q : Int32 → zS → Prop}   {a0 : Int32} {κ : zS} (W : zW C n0 κ)  (F : w_Pa_binary_0 C n0 Q  a0 κ) : zG C n0 0 mPa_binary 0 [some (.int a0)] [] κ (oI Q noX) := by
  unfold w_Pa_binary_0 at F
  refine y_iln dX7_binary_0 rfl ?_
  by_cases hsw : (a0).toInt ≠ 37 ∧ (a0).toInt ≠ 38 ∧ (a0).toInt ≠ 42 ∧ (a0).toInt ≠ 43 ∧ (a0).toInt ≠ 45 ∧ (a0).toInt ≠ 47 ∧ (a0).toInt ≠ 60 ∧ (a0).toInt ≠ 62 ∧ (a0).toInt ≠ 124 ∧ (a0).toInt ≠ 128 ∧ (a0).toInt ≠ 129 ∧ (a0).toInt ≠ 130 ∧ (a0).toInt ≠ 131
  · refine y_p (pc' := 155) dX7_binary_1 rfl (fun lo => lk_no (by decide) (lk_off_Pa_binary hsw) rfl) ?_
    replace F := F.1 hsw
    refine y_ic dX7_binary_155 zi_m1 ?_
    exact y_ri W dX7_binary_156 rfl in_nar F
  replace F := F.2
  by_cases hs0 : (a0).toInt = 37
  · refine y_p (pc' := 152) dX7_binary_1 rfl (fun lo => lk_at (by decide) hs0 rfl rfl) ?_
    replace F := F.1 hs0
    refine y_bi1 dX7_binary_152 zb_19 ?_
    exact y_ri W dX7_binary_154 rfl in_nar F
  replace F := F.2
  by_cases hs1 : (a0).toInt = 38
  · refine y_p (pc' := 119) dX7_binary_1 rfl (fun lo => lk_at (by decide) hs1 rfl rfl) ?_
    replace F := F.1 hs1
    refine y_bi1 dX7_binary_119 zb_8 ?_
    exact y_ri W dX7_binary_121 rfl in_nar F
  replace F := F.2
  by_cases hs2 : (a0).toInt = 42
  · refine y_p (pc' := 146) dX7_binary_1 rfl (fun lo => lk_at (by decide) hs2 rfl rfl) ?_
    replace F := F.1 hs2
    refine y_bi1 dX7_binary_146 zb_17 ?_
    exact y_ri W dX7_binary_148 rfl in_nar F
  replace F := F.2
  by_cases hs3 : (a0).toInt = 43
  · refine y_p (pc' := 140) dX7_binary_1 rfl (fun lo => lk_at (by decide) hs3 rfl rfl) ?_
    replace F := F.1 hs3
    refine y_bi1 dX7_binary_140 zb_15 ?_
    exact y_ri W dX7_binary_142 rfl in_nar F
  replace F := F.2
  by_cases hs4 : (a0).toInt = 45
  · refine y_p (pc' := 143) dX7_binary_1 rfl (fun lo => lk_at (by decide) hs4 rfl rfl) ?_
    replace F := F.1 hs4
    refine y_bi1 dX7_binary_143 zb_16 ?_
    exact y_ri W dX7_binary_145 rfl in_nar F
  replace F := F.2
  by_cases hs5 : (a0).toInt = 47
  · refine y_p (pc' := 149) dX7_binary_1 rfl (fun lo => lk_at (by decide) hs5 rfl rfl) ?_
    replace F := F.1 hs5
    refine y_bi1 dX7_binary_149 zb_18 ?_
    exact y_ri W dX7_binary_151 rfl in_nar F
  replace F := F.2
  by_cases hs6 : (a0).toInt = 60
  · refine y_p (pc' := 128) dX7_binary_1 rfl (fun lo => lk_at (by decide) hs6 rfl rfl) ?_
    replace F := F.1 hs6
    refine y_bi1 dX7_binary_128 zb_11 ?_
    exact y_ri W dX7_binary_130 rfl in_nar F
  replace F := F.2
  by_cases hs7 : (a0).toInt = 62
  · refine y_p (pc' := 134) dX7_binary_1 rfl (fun lo => lk_at (by decide) hs7 rfl rfl) ?_
    replace F := F.1 hs7
    refine y_bi1 dX7_binary_134 zb_13 ?_
    exact y_ri W dX7_binary_136 rfl in_nar F
  replace F := F.2
  by_cases hs8 : (a0).toInt = 124
  · refine y_p (pc' := 116) dX7_binary_1 rfl (fun lo => lk_at (by decide) hs8 rfl rfl) ?_
    replace F := F.1 hs8
    refine y_bi1 dX7_binary_116 zb_7 ?_
    exact y_ri W dX7_binary_118 rfl in_nar F
  replace F := F.2
  by_cases hs9 : (a0).toInt = 128
  · refine y_p (pc' := 122) dX7_binary_1 rfl (fun lo => lk_at (by decide) hs9 rfl rfl) ?_
    replace F := F.1 hs9
    refine y_bi1 dX7_binary_122 zb_9 ?_
    exact y_ri W dX7_binary_124 rfl in_nar F
  replace F := F.2
  by_cases hs10 : (a0).toInt = 129
  · refine y_p (pc' := 125) dX7_binary_1 rfl (fun lo => lk_at (by decide) hs10 rfl rfl) ?_
    replace F := F.1 hs10
    refine y_bi1 dX7_binary_125 zb_10 ?_
    exact y_ri W dX7_binary_127 rfl in_nar F
  replace F := F.2
  by_cases hs11 : (a0).toInt = 130
  · refine y_p (pc' := 131) dX7_binary_1 rfl (fun lo => lk_at (by decide) hs11 rfl rfl) ?_
    replace F := F.1 hs11
    refine y_bi1 dX7_binary_131 zb_12 ?_
    exact y_ri W dX7_binary_133 rfl in_nar F
  replace F := F.2
  have hs12 : (a0).toInt = 131 := by omega
  refine y_p (pc' := 137) dX7_binary_1 rfl (fun lo => lk_at (by decide) hs12 rfl rfl) ?_
  replace F := F hs12
  refine y_bi1 dX7_binary_137 zb_14 ?_
  exact y_ri W dX7_binary_139 rfl in_nar F

theorem Pa_binary_run {C : zC} {n0 : Nat} {Q : Int32 → zS → Prop} {a0 : Int32} {κ : zS} (W : zW C n0 κ)  (F : w_Pa_binary_0 C (zn κ) Q a0 κ) : zRun C 0 mPa_binary [.int a0] κ (oI Q noX) := z_run (m_ent _ 0) (t_Pa_binary_0 (W.lo (Nat.le_trans W.1.2.1 W.1.2.2) (Nat.le_refl _))  F)

theorem dX7_rankOf_0 : decode cX7_rankOf 0 = .ok (.iload_n 0, 1) := by decide +kernel
theorem dX7_rankOf_1 : decode cX7_rankOf 1 = .ok (.bipush 100, 2) := by decide +kernel
theorem dX7_rankOf_3 : decode cX7_rankOf 3 = .ok (.if_icmp .lt 5, 3) := by decide +kernel
theorem dX7_rankOf_6 : decode cX7_rankOf 6 = .ok (.iconst 0, 1) := by decide +kernel
theorem dX7_rankOf_7 : decode cX7_rankOf 7 = .ok (.ireturn, 1) := by decide +kernel
theorem dX7_rankOf_8 : decode cX7_rankOf 8 = .ok (.iload_n 0, 1) := by decide +kernel
theorem dX7_rankOf_9 : decode cX7_rankOf 9 = .ok (.bipush 17, 2) := by decide +kernel
theorem dX7_rankOf_11 : decode cX7_rankOf 11 = .ok (.if_icmp .lt 5, 3) := by decide +kernel
theorem dX7_rankOf_14 : decode cX7_rankOf 14 = .ok (.iconst 5, 1) := by decide +kernel
theorem dX7_rankOf_15 : decode cX7_rankOf 15 = .ok (.ireturn, 1) := by decide +kernel
theorem dX7_rankOf_16 : decode cX7_rankOf 16 = .ok (.iload_n 0, 1) := by decide +kernel
theorem dX7_rankOf_17 : decode cX7_rankOf 17 = .ok (.bipush 15, 2) := by decide +kernel
theorem dX7_rankOf_19 : decode cX7_rankOf 19 = .ok (.if_icmp .lt 5, 3) := by decide +kernel
theorem dX7_rankOf_22 : decode cX7_rankOf 22 = .ok (.iconst 4, 1) := by decide +kernel
theorem dX7_rankOf_23 : decode cX7_rankOf 23 = .ok (.ireturn, 1) := by decide +kernel
theorem dX7_rankOf_24 : decode cX7_rankOf 24 = .ok (.iload_n 0, 1) := by decide +kernel
theorem dX7_rankOf_25 : decode cX7_rankOf 25 = .ok (.bipush 9, 2) := by decide +kernel
theorem dX7_rankOf_27 : decode cX7_rankOf 27 = .ok (.if_icmp .lt 5, 3) := by decide +kernel
theorem dX7_rankOf_30 : decode cX7_rankOf 30 = .ok (.iconst 3, 1) := by decide +kernel
theorem dX7_rankOf_31 : decode cX7_rankOf 31 = .ok (.ireturn, 1) := by decide +kernel
theorem dX7_rankOf_32 : decode cX7_rankOf 32 = .ok (.iload_n 0, 1) := by decide +kernel
theorem dX7_rankOf_33 : decode cX7_rankOf 33 = .ok (.bipush 8, 2) := by decide +kernel
theorem dX7_rankOf_35 : decode cX7_rankOf 35 = .ok (.if_icmp .ne 7, 3) := by decide +kernel
theorem dX7_rankOf_38 : decode cX7_rankOf 38 = .ok (.iconst 2, 1) := by decide +kernel
theorem dX7_rankOf_39 : decode cX7_rankOf 39 = .ok (.goto 15, 3) := by decide +kernel
theorem dX7_rankOf_42 : decode cX7_rankOf 42 = .ok (.iload_n 0, 1) := by decide +kernel
theorem dX7_rankOf_43 : decode cX7_rankOf 43 = .ok (.bipush 7, 2) := by decide +kernel
theorem dX7_rankOf_45 : decode cX7_rankOf 45 = .ok (.if_icmp .ne 7, 3) := by decide +kernel
theorem dX7_rankOf_48 : decode cX7_rankOf 48 = .ok (.iconst 1, 1) := by decide +kernel
theorem dX7_rankOf_49 : decode cX7_rankOf 49 = .ok (.goto 5, 3) := by decide +kernel
theorem dX7_rankOf_52 : decode cX7_rankOf 52 = .ok (.bipush 6, 2) := by decide +kernel
theorem dX7_rankOf_54 : decode cX7_rankOf 54 = .ok (.ireturn, 1) := by decide +kernel
def w_Pa_rankOf_0 (C : zC) (n0 : Nat) (Q : Int32 → zS → Prop)  (a0 : Int32) (κ : zS) : Prop :=
  (a0 < (100 : Int32) →
    (a0 < (17 : Int32) →
      (a0 < (15 : Int32) →
        (a0 < (9 : Int32) →
          (¬ a0 = (8 : Int32) →
            (¬ a0 = (7 : Int32) →
              Q (6 : Int32) κ) ∧
            (a0 = (7 : Int32) →
              Q (1 : Int32) κ)) ∧
          (a0 = (8 : Int32) →
            Q (2 : Int32) κ)) ∧
        (¬ a0 < (9 : Int32) →
          Q (3 : Int32) κ)) ∧
      (¬ a0 < (15 : Int32) →
        Q (4 : Int32) κ)) ∧
    (¬ a0 < (17 : Int32) →
      Q (5 : Int32) κ)) ∧
  (¬ a0 < (100 : Int32) →
    Q (0 : Int32) κ)
theorem t_Pa_rankOf_0 {C : zC} {n0 : Nat} {Q : Int32 → zS → Prop}   {a0 : Int32} {κ : zS} (W : zW C n0 κ)  (F : w_Pa_rankOf_0 C n0 Q  a0 κ) : zG C n0 0 mPa_rankOf 0 [some (.int a0)] [] κ (oI Q noX) := by
  unfold w_Pa_rankOf_0 at F
  refine y_iln dX7_rankOf_0 rfl ?_
  refine y_bi1 dX7_rankOf_1 zb_100 ?_
  refine y_ii (a0 < (100 : Int32)) dX7_rankOf_3 (t := 8) rfl rfl (fun c9 => ?_) (fun c9 => ?_)
  · replace F := F.1 c9
    refine y_iln dX7_rankOf_8 rfl ?_
    refine y_bi1 dX7_rankOf_9 zb_17 ?_
    refine y_ii (a0 < (17 : Int32)) dX7_rankOf_11 (t := 16) rfl rfl (fun c9 => ?_) (fun c9 => ?_)
    · replace F := F.1 c9
      refine y_iln dX7_rankOf_16 rfl ?_
      refine y_bi1 dX7_rankOf_17 zb_15 ?_
      refine y_ii (a0 < (15 : Int32)) dX7_rankOf_19 (t := 24) rfl rfl (fun c9 => ?_) (fun c9 => ?_)
      · replace F := F.1 c9
        refine y_iln dX7_rankOf_24 rfl ?_
        refine y_bi1 dX7_rankOf_25 zb_9 ?_
        refine y_ii (a0 < (9 : Int32)) dX7_rankOf_27 (t := 32) rfl rfl (fun c9 => ?_) (fun c9 => ?_)
        · replace F := F.1 c9
          refine y_iln dX7_rankOf_32 rfl ?_
          refine y_bi1 dX7_rankOf_33 zb_8 ?_
          refine y_iin (a0 = (8 : Int32)) dX7_rankOf_35 (t := 42) rfl rfl (fun c9 => ?_) (fun c9 => ?_)
          · replace F := F.1 c9
            refine y_iln dX7_rankOf_42 rfl ?_
            refine y_bi1 dX7_rankOf_43 zb_7 ?_
            refine y_iin (a0 = (7 : Int32)) dX7_rankOf_45 (t := 52) rfl rfl (fun c9 => ?_) (fun c9 => ?_)
            · replace F := F.1 c9
              refine y_bi1 dX7_rankOf_52 zb_6 ?_
              exact y_ri W dX7_rankOf_54 rfl in_nar F
            · replace F := F.2 c9
              refine y_ic dX7_rankOf_48 zi_1 ?_
              refine y_goto dX7_rankOf_49 (t := 54) rfl ?_
              exact y_ri W dX7_rankOf_54 rfl in_nar F
          · replace F := F.2 c9
            refine y_ic dX7_rankOf_38 zi_2 ?_
            refine y_goto dX7_rankOf_39 (t := 54) rfl ?_
            exact y_ri W dX7_rankOf_54 rfl in_nar F
        · replace F := F.2 c9
          refine y_ic dX7_rankOf_30 zi_3 ?_
          exact y_ri W dX7_rankOf_31 rfl in_nar F
      · replace F := F.2 c9
        refine y_ic dX7_rankOf_22 zi_4 ?_
        exact y_ri W dX7_rankOf_23 rfl in_nar F
    · replace F := F.2 c9
      refine y_ic dX7_rankOf_14 zi_5 ?_
      exact y_ri W dX7_rankOf_15 rfl in_nar F
  · replace F := F.2 c9
    refine y_ic dX7_rankOf_6 zi_0 ?_
    exact y_ri W dX7_rankOf_7 rfl in_nar F

theorem Pa_rankOf_run {C : zC} {n0 : Nat} {Q : Int32 → zS → Prop} {a0 : Int32} {κ : zS} (W : zW C n0 κ)  (F : w_Pa_rankOf_0 C (zn κ) Q a0 κ) : zRun C 0 mPa_rankOf [.int a0] κ (oI Q noX) := z_run (m_ent _ 0) (t_Pa_rankOf_0 (W.lo (Nat.le_trans W.1.2.1 W.1.2.2) (Nat.le_refl _))  F)

theorem dX7_emitWaiting_0 : decode cX7_emitWaiting 0 = .ok (.aload_n 0, 1) := by decide +kernel
theorem dX7_emitWaiting_1 : decode cX7_emitWaiting 1 = .ok (.getfield 235, 3) := by decide +kernel
theorem dX7_emitWaiting_4 : decode cX7_emitWaiting 4 = .ok (.ifCond .le 51, 3) := by decide +kernel
theorem dX7_emitWaiting_7 : decode cX7_emitWaiting 7 = .ok (.aload_n 0, 1) := by decide +kernel
theorem dX7_emitWaiting_8 : decode cX7_emitWaiting 8 = .ok (.getfield 42, 3) := by decide +kernel
theorem dX7_emitWaiting_11 : decode cX7_emitWaiting 11 = .ok (.aload_n 0, 1) := by decide +kernel
theorem dX7_emitWaiting_12 : decode cX7_emitWaiting 12 = .ok (.getfield 235, 3) := by decide +kernel
theorem dX7_emitWaiting_15 : decode cX7_emitWaiting 15 = .ok (.iconst 1, 1) := by decide +kernel
theorem dX7_emitWaiting_16 : decode cX7_emitWaiting 16 = .ok (.isub, 1) := by decide +kernel
theorem dX7_emitWaiting_17 : decode cX7_emitWaiting 17 = .ok (.iaload, 1) := by decide +kernel
theorem dX7_emitWaiting_18 : decode cX7_emitWaiting 18 = .ok (.invokestatic 264, 3) := by decide +kernel
theorem dX7_emitWaiting_21 : decode cX7_emitWaiting 21 = .ok (.iload_n 1, 1) := by decide +kernel
theorem dX7_emitWaiting_22 : decode cX7_emitWaiting 22 = .ok (.if_icmp .lt 33, 3) := by decide +kernel
theorem dX7_emitWaiting_25 : decode cX7_emitWaiting 25 = .ok (.aload_n 0, 1) := by decide +kernel
theorem dX7_emitWaiting_26 : decode cX7_emitWaiting 26 = .ok (.dup, 1) := by decide +kernel
theorem dX7_emitWaiting_27 : decode cX7_emitWaiting 27 = .ok (.getfield 235, 3) := by decide +kernel
theorem dX7_emitWaiting_30 : decode cX7_emitWaiting 30 = .ok (.iconst 1, 1) := by decide +kernel
theorem dX7_emitWaiting_31 : decode cX7_emitWaiting 31 = .ok (.isub, 1) := by decide +kernel
theorem dX7_emitWaiting_32 : decode cX7_emitWaiting 32 = .ok (.putfield 235, 3) := by decide +kernel
theorem dX7_emitWaiting_35 : decode cX7_emitWaiting 35 = .ok (.aload_n 0, 1) := by decide +kernel
theorem dX7_emitWaiting_36 : decode cX7_emitWaiting 36 = .ok (.getfield 15, 3) := by decide +kernel
theorem dX7_emitWaiting_39 : decode cX7_emitWaiting 39 = .ok (.aload_n 0, 1) := by decide +kernel
theorem dX7_emitWaiting_40 : decode cX7_emitWaiting 40 = .ok (.getfield 42, 3) := by decide +kernel
theorem dX7_emitWaiting_43 : decode cX7_emitWaiting 43 = .ok (.aload_n 0, 1) := by decide +kernel
theorem dX7_emitWaiting_44 : decode cX7_emitWaiting 44 = .ok (.getfield 235, 3) := by decide +kernel
theorem dX7_emitWaiting_47 : decode cX7_emitWaiting 47 = .ok (.iaload, 1) := by decide +kernel
theorem dX7_emitWaiting_48 : decode cX7_emitWaiting 48 = .ok (.iconst 0, 1) := by decide +kernel
theorem dX7_emitWaiting_49 : decode cX7_emitWaiting 49 = .ok (.invokevirtual 258, 3) := by decide +kernel
theorem dX7_emitWaiting_52 : decode cX7_emitWaiting 52 = .ok (.goto (-52), 3) := by decide +kernel
theorem dX7_emitWaiting_55 : decode cX7_emitWaiting 55 = .ok (.return_, 1) := by decide +kernel
def w_Pa_emitWaiting_0 (C : zC) (n0 : Nat) (Q : zS → Prop)  (a0 : Nat) (a1 : Int32) (κ : zS) : Prop :=
  ∃ I : Nat → Nat → Int32 → zS → Prop, (∃ n, I n a0 a1 κ) ∧ ∀ n a0 a1 κ, zW C n0 κ → zT κ a0 = 10 → I n a0 a1 κ →
    ((zI κ paWaits a0) ≤ (0 : Int32) →
      Q κ) ∧
    (¬ (zI κ paWaits a0) ≤ (0 : Int32) →
      inb ((zI κ paWaits a0) - (1 : Int32)) (zN κ (zR κ paWaiting a0)) ∧
      zRun C 0 mPa_rankOf [.int (zA κ (zR κ paWaiting a0) (((zI κ paWaits a0) - (1 : Int32))).toNatClampNeg)] κ (oI (fun r2 κ1 =>
        ∀ _ : zW C n0 κ1,
        ∀ _ : zM (zn κ) κ κ1,
        (r2 < a1 →
          Q κ1) ∧
        (¬ r2 < a1 →
          ∀ κ5, κ5 = ui κ1 paWaits a0 ((zI κ1 paWaits a0) - (1 : Int32)) →
          ∀ _ : zW C n0 κ5,
          inb (zI κ5 paWaits a0) (zN κ5 (zR κ5 paWaiting a0)) ∧
          ∀ _ : zT κ5 (zR κ5 paCode a0) = 5,
          zRun C 2 mCo_emit [.ref (zR κ5 paCode a0), .int (zA κ5 (zR κ5 paWaiting a0) ((zI κ5 paWaits a0)).toNatClampNeg), .int (0 : Int32)] κ5 (oV (fun κ7 =>
            ∀ _ : zW C n0 κ7,
            ∀ _ : zM (zn κ5) κ5 κ7,
            ∃ k < n, I k a0 a1 κ7) noX))) noX))
theorem t_Pa_emitWaiting_0 {C : zC} {n0 : Nat} {Q : zS → Prop}   {a0 : Nat} {a1 : Int32} {κ : zS} (W : zW C n0 κ) (Ta0 : zT κ a0 = 10) (F : w_Pa_emitWaiting_0 C n0 Q  a0 a1 κ) : zG C n0 3 mPa_emitWaiting 0 [some (.ref a0), some (.int a1)] [] κ (oV Q noX) := by
  obtain ⟨I, ⟨m0, hI0⟩, F0⟩ := F
  have key : ∀ n a0 a1 κ, zW C n0 κ → zT κ a0 = 10 → I n a0 a1 κ → zG C n0 3 mPa_emitWaiting 0 [some (.ref a0), some (.int a1)] [] κ (oV Q noX) := by
    intro n
    induction n using Nat.strongRecOn with
    | _ n ih =>
      intro a0 a1 κ W Ta0 hI
      have F := F0 n a0 a1 κ W Ta0 hI
      clear hI hI0
      refine y_aln dX7_emitWaiting_0 rfl ?_
      refine gf_X7_235 dX7_emitWaiting_1 rfl (Or.inl Ta0) ?_
      refine y_i ((zI κ paWaits a0) ≤ (0 : Int32)) dX7_emitWaiting_4 (t := 55) rfl rfl (fun c9 => ?_) (fun c9 => ?_)
      · replace F := F.1 c9
        exact y_rv W dX7_emitWaiting_55 rfl F
      · replace F := F.2 c9
        refine y_aln dX7_emitWaiting_7 rfl ?_
        refine gf_X7_42 W dX7_emitWaiting_8 rfl Ta0 ?_
        refine y_aln dX7_emitWaiting_11 rfl ?_
        refine gf_X7_235 dX7_emitWaiting_12 rfl (Or.inl Ta0) ?_
        refine y_ic dX7_emitWaiting_15 zi_1 ?_
        refine y_isub dX7_emitWaiting_16 ?_
        refine y_ald dX7_emitWaiting_17 (ty_paWaiting W Ta0) F.1 ?_
        replace F := F.2
        refine k_X7_264 W dX7_emitWaiting_18 rfl (Nat.le_of_ble_eq_true rfl) (Nat.le_of_ble_eq_true rfl)  F (fun r2 κ1 Wκ1 Mκ1 F => ?_) (fun _ _ h9 => False.elim h9)
        replace F := F Wκ1 Mκ1
        refine y_iln dX7_emitWaiting_21 rfl ?_
        refine y_ii (r2 < a1) dX7_emitWaiting_22 (t := 55) rfl rfl (fun c9 => ?_) (fun c9 => ?_)
        · replace F := F.1 c9
          exact y_rv Wκ1 dX7_emitWaiting_55 rfl F
        · replace F := F.2 c9
          refine y_aln dX7_emitWaiting_25 rfl ?_
          refine y_dup dX7_emitWaiting_26 rfl ?_
          have h4 := (ztm W Mκ1 Ta0)
          refine gf_X7_235 dX7_emitWaiting_27 rfl (Or.inl h4) ?_
          refine y_ic dX7_emitWaiting_30 zi_1 ?_
          refine y_isub dX7_emitWaiting_31 ?_
          refine pf_X7_235 Wκ1 dX7_emitWaiting_32 rfl (Or.inl h4) (fun κ5 eκ5 => ?_)
          replace F := F κ5 eκ5
          have Wκ5 : zW C n0 κ5 := zW_ui Wκ1 eκ5 (fun h => absurd h (by decide))
          have Mκ5 : zM (zn κ1) κ1 κ5 := by rw [eκ5]; exact zM.of rfl rfl rfl
          replace F := F Wκ5
          refine y_aln dX7_emitWaiting_35 rfl ?_
          have h6 := (ztm Wκ1 Mκ5 h4)
          refine gf_X7_15 Wκ5 dX7_emitWaiting_36 rfl h6 ?_
          refine y_aln dX7_emitWaiting_39 rfl ?_
          refine gf_X7_42 Wκ5 dX7_emitWaiting_40 rfl h6 ?_
          refine y_aln dX7_emitWaiting_43 rfl ?_
          refine gf_X7_235 dX7_emitWaiting_44 rfl (Or.inl h6) ?_
          refine y_ald dX7_emitWaiting_47 (ty_paWaiting Wκ5 h6) F.1 ?_
          replace F := F.2
          refine y_ic dX7_emitWaiting_48 zi_0 ?_
          replace F := F (ty_paCode Wκ5 h6)
          refine k_X7_258 Wκ5 dX7_emitWaiting_49 rfl (Nat.le_of_ble_eq_true rfl) (Nat.le_of_ble_eq_true rfl) (Or.inl (ty_paCode Wκ5 h6)) F (fun  κ7 Wκ7 Mκ7 F => ?_) (fun _ _ h9 => False.elim h9)
          replace F := F Wκ7 Mκ7
          refine y_goto dX7_emitWaiting_52 (t := 0) rfl ?_
          have h10 := (ztm Wκ5 Mκ7 h6)
          obtain ⟨k, hk, hI⟩ := F
          exact y_k (ih k hk _ _ _ Wκ7 h10 hI) ⟨rfl, rfl, trivial⟩
  exact key m0 a0 a1 κ W Ta0 hI0

theorem Pa_emitWaiting_run {C : zC} {n0 : Nat} {Q : zS → Prop} {a0 : Nat} {a1 : Int32} {κ : zS} (W : zW C n0 κ) (Ta0 : zT κ a0 = 10) (F : w_Pa_emitWaiting_0 C (zn κ) Q a0 a1 κ) : zRun C 3 mPa_emitWaiting [.ref a0, .int a1] κ (oV Q noX) := z_run (m_ent _ 0) (t_Pa_emitWaiting_0 (W.lo (Nat.le_trans W.1.2.1 W.1.2.2) (Nat.le_refl _)) Ta0 F)

theorem dX7_operator_0 : decode cX7_operator 0 = .ok (.iload_n 1, 1) := by decide +kernel
theorem dX7_operator_1 : decode cX7_operator 1 = .ok (.invokestatic 264, 3) := by decide +kernel
theorem dX7_operator_4 : decode cX7_operator 4 = .ok (.istore_n 2, 1) := by decide +kernel
theorem dX7_operator_5 : decode cX7_operator 5 = .ok (.aload_n 0, 1) := by decide +kernel
theorem dX7_operator_6 : decode cX7_operator 6 = .ok (.iload_n 2, 1) := by decide +kernel
theorem dX7_operator_7 : decode cX7_operator 7 = .ok (.iconst 3, 1) := by decide +kernel
theorem dX7_operator_8 : decode cX7_operator 8 = .ok (.if_icmp .ne 7, 3) := by decide +kernel
theorem dX7_operator_11 : decode cX7_operator 11 = .ok (.iconst 4, 1) := by decide +kernel
theorem dX7_operator_12 : decode cX7_operator 12 = .ok (.goto 4, 3) := by decide +kernel
theorem dX7_operator_15 : decode cX7_operator 15 = .ok (.iload_n 2, 1) := by decide +kernel
theorem dX7_operator_16 : decode cX7_operator 16 = .ok (.invokevirtual 252, 3) := by decide +kernel
theorem dX7_operator_19 : decode cX7_operator 19 = .ok (.iload_n 2, 1) := by decide +kernel
theorem dX7_operator_20 : decode cX7_operator 20 = .ok (.iconst 3, 1) := by decide +kernel
theorem dX7_operator_21 : decode cX7_operator 21 = .ok (.if_icmp .ne 37, 3) := by decide +kernel
theorem dX7_operator_24 : decode cX7_operator 24 = .ok (.aload_n 0, 1) := by decide +kernel
theorem dX7_operator_25 : decode cX7_operator 25 = .ok (.getfield 235, 3) := by decide +kernel
theorem dX7_operator_28 : decode cX7_operator 28 = .ok (.ifCond .le 30, 3) := by decide +kernel
theorem dX7_operator_31 : decode cX7_operator 31 = .ok (.aload_n 0, 1) := by decide +kernel
theorem dX7_operator_32 : decode cX7_operator 32 = .ok (.getfield 42, 3) := by decide +kernel
theorem dX7_operator_35 : decode cX7_operator 35 = .ok (.aload_n 0, 1) := by decide +kernel
theorem dX7_operator_36 : decode cX7_operator 36 = .ok (.getfield 235, 3) := by decide +kernel
theorem dX7_operator_39 : decode cX7_operator 39 = .ok (.iconst 1, 1) := by decide +kernel
theorem dX7_operator_40 : decode cX7_operator 40 = .ok (.isub, 1) := by decide +kernel
theorem dX7_operator_41 : decode cX7_operator 41 = .ok (.iaload, 1) := by decide +kernel
theorem dX7_operator_42 : decode cX7_operator 42 = .ok (.invokestatic 264, 3) := by decide +kernel
theorem dX7_operator_45 : decode cX7_operator 45 = .ok (.iconst 3, 1) := by decide +kernel
theorem dX7_operator_46 : decode cX7_operator 46 = .ok (.if_icmp .ne 12, 3) := by decide +kernel
theorem dX7_operator_49 : decode cX7_operator 49 = .ok (.aload_n 0, 1) := by decide +kernel
theorem dX7_operator_50 : decode cX7_operator 50 = .ok (.iconst 2, 1) := by decide +kernel
theorem dX7_operator_51 : decode cX7_operator 51 = .ok (.aload_n 0, 1) := by decide +kernel
theorem dX7_operator_52 : decode cX7_operator 52 = .ok (.getfield 55, 3) := by decide +kernel
theorem dX7_operator_55 : decode cX7_operator 55 = .ok (.invokevirtual 123, 3) := by decide +kernel
theorem dX7_operator_58 : decode cX7_operator 58 = .ok (.aload_n 0, 1) := by decide +kernel
theorem dX7_operator_59 : decode cX7_operator 59 = .ok (.iload_n 1, 1) := by decide +kernel
theorem dX7_operator_60 : decode cX7_operator 60 = .ok (.invokevirtual 261, 3) := by decide +kernel
theorem dX7_operator_63 : decode cX7_operator 63 = .ok (.aload_n 0, 1) := by decide +kernel
theorem dX7_operator_64 : decode cX7_operator 64 = .ok (.invokevirtual 72, 3) := by decide +kernel
theorem dX7_operator_67 : decode cX7_operator 67 = .ok (.return_, 1) := by decide +kernel
def w_Pa_operator_58 (C : zC) (n0 : Nat) (Q : zS → Prop) (X : zXp)  (a0 : Nat) (a1 : Int32) (κ : zS) : Prop :=
  ∀ _ : zT κ a0 = 10,
  zRun C 2 mPa_hold [.ref a0, .int a1] κ (oV (fun κ1 =>
    ∀ _ : zW C n0 κ1,
    ∀ _ : zM (zn κ) κ κ1,
    ∀ _ : zT κ1 a0 = 10,
    zRun C 0 mPa_take [.ref a0] κ1 (oV (fun κ4 =>
      ∀ _ : zW C n0 κ4,
      ∀ _ : zM (zn κ1) κ1 κ4,
      Q κ4) noX)) noX)
theorem t_Pa_operator_58 {C : zC} {n0 : Nat} {Q : zS → Prop} {X : zXp}   {a0 : Nat} {a1 : Int32} {κ : zS} (W : zW C n0 κ) (Ta0 : zT κ a0 = 10) (F : w_Pa_operator_58 C n0 Q X  a0 a1 κ) : zG C n0 9 mPa_operator 58 [some (.ref a0), some (.int a1), none] [] κ (oV Q X) := by
  unfold w_Pa_operator_58 at F
  refine y_aln dX7_operator_58 rfl ?_
  refine y_iln dX7_operator_59 rfl ?_
  replace F := F Ta0
  refine k_X7_261 W dX7_operator_60 rfl (Nat.le_of_ble_eq_true rfl) (Nat.le_of_ble_eq_true rfl) (Or.inl Ta0) F (fun  κ1 Wκ1 Mκ1 F => ?_) (fun _ _ h9 => False.elim h9)
  replace F := F Wκ1 Mκ1
  refine y_aln dX7_operator_63 rfl ?_
  have h6 := (ztm W Mκ1 Ta0)
  replace F := F h6
  refine k_X7_72 Wκ1 dX7_operator_64 rfl (Nat.le_of_ble_eq_true rfl) (Nat.le_of_ble_eq_true rfl) (Or.inl h6) F (fun  κ4 Wκ4 Mκ4 F => ?_) (fun _ _ h9 => False.elim h9)
  replace F := F Wκ4 Mκ4
  exact y_rv Wκ4 dX7_operator_67 rfl F

def w_Pa_operator_16 (C : zC) (n0 : Nat) (Q : zS → Prop) (X : zXp)  (a0 : Nat) (a1 : Int32) (a2 : Int32) (s0 : Nat) (s1 : Int32) (κ : zS) : Prop :=
  ∀ _ : zT κ s0 = 10,
  zRun C 3 mPa_emitWaiting [.ref s0, .int s1] κ (oV (fun κ1 =>
    ∀ _ : zW C n0 κ1,
    ∀ _ : zM (zn κ) κ κ1,
    (¬ a2 = (3 : Int32) →
      w_Pa_operator_58 C n0 Q X  a0 a1 κ1) ∧
    (a2 = (3 : Int32) →
      ((zI κ1 paWaits a0) ≤ (0 : Int32) →
        w_Pa_operator_58 C n0 Q X  a0 a1 κ1) ∧
      (¬ (zI κ1 paWaits a0) ≤ (0 : Int32) →
        inb ((zI κ1 paWaits a0) - (1 : Int32)) (zN κ1 (zR κ1 paWaiting a0)) ∧
        zRun C 0 mPa_rankOf [.int (zA κ1 (zR κ1 paWaiting a0) (((zI κ1 paWaits a0) - (1 : Int32))).toNatClampNeg)] κ1 (oI (fun r7 κ6 =>
          ∀ _ : zW C n0 κ6,
          ∀ _ : zM (zn κ1) κ1 κ6,
          (¬ r7 = (3 : Int32) →
            w_Pa_operator_58 C n0 Q X  a0 a1 κ6) ∧
          (r7 = (3 : Int32) →
            ∀ _ : zT κ6 a0 = 10,
            zRun C 8 mPa_refuse [.ref a0, .int (2 : Int32), .int (zI κ6 paAt a0)] κ6 (oV (fun κ11 =>
              ∀ _ : zW C n0 κ11,
              ∀ _ : zM (zn κ6) κ6 κ11,
              w_Pa_operator_58 C n0 Q X  a0 a1 κ11) X))) noX)))) noX)
theorem t_Pa_operator_16 {C : zC} {n0 : Nat} {Q : zS → Prop} {X : zXp}   {a0 : Nat} {a1 : Int32} {a2 : Int32} {s0 : Nat} {s1 : Int32} {κ : zS} (W : zW C n0 κ) (Ta0 : zT κ a0 = 10) (Ts0 : zT κ s0 = 10) (F : w_Pa_operator_16 C n0 Q X  a0 a1 a2 s0 s1 κ) : zG C n0 9 mPa_operator 16 [some (.ref a0), some (.int a1), some (.int a2)] [.int s1, .ref s0] κ (oV Q X) := by
  unfold w_Pa_operator_16 at F
  replace F := F Ts0
  refine k_X7_252 W dX7_operator_16 rfl (Nat.le_of_ble_eq_true rfl) (Nat.le_of_ble_eq_true rfl) (Or.inl Ts0) F (fun  κ1 Wκ1 Mκ1 F => ?_) (fun _ _ h9 => False.elim h9)
  replace F := F Wκ1 Mκ1
  refine y_iln dX7_operator_19 rfl ?_
  refine y_ic dX7_operator_20 zi_3 ?_
  refine y_iin (a2 = (3 : Int32)) dX7_operator_21 (t := 58) rfl rfl (fun c9 => ?_) (fun c9 => ?_)
  · replace F := F.1 c9
    have h4 := (ztm W Mκ1 Ta0)
    exact y_k (t_Pa_operator_58  Wκ1 h4 F) ⟨rfl, rfl, trivial⟩
  · replace F := F.2 c9
    refine y_aln dX7_operator_24 rfl ?_
    have h5 := (ztm W Mκ1 Ta0)
    refine gf_X7_235 dX7_operator_25 rfl (Or.inl h5) ?_
    refine y_i ((zI κ1 paWaits a0) ≤ (0 : Int32)) dX7_operator_28 (t := 58) rfl rfl (fun c9 => ?_) (fun c9 => ?_)
    · replace F := F.1 c9
      exact y_k (t_Pa_operator_58  Wκ1 h5 F) ⟨rfl, rfl, trivial⟩
    · replace F := F.2 c9
      refine y_aln dX7_operator_31 rfl ?_
      refine gf_X7_42 Wκ1 dX7_operator_32 rfl h5 ?_
      refine y_aln dX7_operator_35 rfl ?_
      refine gf_X7_235 dX7_operator_36 rfl (Or.inl h5) ?_
      refine y_ic dX7_operator_39 zi_1 ?_
      refine y_isub dX7_operator_40 ?_
      refine y_ald dX7_operator_41 (ty_paWaiting Wκ1 h5) F.1 ?_
      replace F := F.2
      refine k_X7_264 Wκ1 dX7_operator_42 rfl (Nat.le_of_ble_eq_true rfl) (Nat.le_of_ble_eq_true rfl)  F (fun r7 κ6 Wκ6 Mκ6 F => ?_) (fun _ _ h9 => False.elim h9)
      replace F := F Wκ6 Mκ6
      refine y_ic dX7_operator_45 zi_3 ?_
      refine y_iin (r7 = (3 : Int32)) dX7_operator_46 (t := 58) rfl rfl (fun c9 => ?_) (fun c9 => ?_)
      · replace F := F.1 c9
        have h9 := (ztm Wκ1 Mκ6 h5)
        exact y_k (t_Pa_operator_58  Wκ6 h9 F) ⟨rfl, rfl, trivial⟩
      · replace F := F.2 c9
        refine y_aln dX7_operator_49 rfl ?_
        refine y_ic dX7_operator_50 zi_2 ?_
        refine y_aln dX7_operator_51 rfl ?_
        have h10 := (ztm Wκ1 Mκ6 h5)
        refine gf_X7_55 dX7_operator_52 rfl (Or.inl h10) ?_
        replace F := F h10
        refine k_X7_123 Wκ6 dX7_operator_55 rfl (Nat.le_of_ble_eq_true rfl) (Nat.le_of_ble_eq_true rfl) (Or.inl h10) F (fun  κ11 Wκ11 Mκ11 F => ?_) (fun cls9 κ9 h9 => Or.inr ⟨_, rfl, h9⟩)
        replace F := F Wκ11 Mκ11
        have h14 := (ztm Wκ6 Mκ11 h10)
        exact y_k (t_Pa_operator_58  Wκ11 h14 F) ⟨rfl, rfl, trivial⟩

def w_Pa_operator_0 (C : zC) (n0 : Nat) (Q : zS → Prop) (X : zXp)  (a0 : Nat) (a1 : Int32) (κ : zS) : Prop :=
  zRun C 0 mPa_rankOf [.int a1] κ (oI (fun r2 κ1 =>
    ∀ _ : zW C n0 κ1,
    ∀ _ : zM (zn κ) κ κ1,
    (¬ r2 = (3 : Int32) →
      w_Pa_operator_16 C n0 Q X  a0 a1 r2 a0 r2 κ1) ∧
    (r2 = (3 : Int32) →
      w_Pa_operator_16 C n0 Q X  a0 a1 r2 a0 (4 : Int32) κ1)) noX)
theorem t_Pa_operator_0 {C : zC} {n0 : Nat} {Q : zS → Prop} {X : zXp}   {a0 : Nat} {a1 : Int32} {κ : zS} (W : zW C n0 κ) (Ta0 : zT κ a0 = 10) (F : w_Pa_operator_0 C n0 Q X  a0 a1 κ) : zG C n0 9 mPa_operator 0 [some (.ref a0), some (.int a1), none] [] κ (oV Q X) := by
  unfold w_Pa_operator_0 at F
  refine y_iln dX7_operator_0 rfl ?_
  refine k_X7_264 W dX7_operator_1 rfl (Nat.le_of_ble_eq_true rfl) (Nat.le_of_ble_eq_true rfl)  F (fun r2 κ1 Wκ1 Mκ1 F => ?_) (fun _ _ h9 => False.elim h9)
  replace F := F Wκ1 Mκ1
  refine y_isn dX7_operator_4 (Nat.le_of_ble_eq_true rfl) rfl ?_
  show zG _ _ _ _ _ [some (.ref a0), some (.int a1), some (.int r2)] _ _ _
  refine y_aln dX7_operator_5 rfl ?_
  refine y_iln dX7_operator_6 rfl ?_
  refine y_ic dX7_operator_7 zi_3 ?_
  refine y_iin (r2 = (3 : Int32)) dX7_operator_8 (t := 15) rfl rfl (fun c9 => ?_) (fun c9 => ?_)
  · replace F := F.1 c9
    refine y_iln dX7_operator_15 rfl ?_
    have h4 := (ztm W Mκ1 Ta0)
    exact y_k (t_Pa_operator_16  Wκ1 h4 h4 F) ⟨rfl, rfl, rfl, trivial⟩
  · replace F := F.2 c9
    refine y_ic dX7_operator_11 zi_4 ?_
    refine y_goto dX7_operator_12 (t := 16) rfl ?_
    have h5 := (ztm W Mκ1 Ta0)
    exact y_k (t_Pa_operator_16  Wκ1 h5 h5 F) ⟨rfl, rfl, rfl, trivial⟩

theorem Pa_operator_run {C : zC} {n0 : Nat} {Q : zS → Prop} {X : zXp} {a0 : Nat} {a1 : Int32} {κ : zS} (W : zW C n0 κ) (Ta0 : zT κ a0 = 10) (F : w_Pa_operator_0 C (zn κ) Q X a0 a1 κ) : zRun C 9 mPa_operator [.ref a0, .int a1] κ (oV Q X) := z_run (m_ent _ 1) (t_Pa_operator_0 (W.lo (Nat.le_trans W.1.2.1 W.1.2.2) (Nat.le_refl _)) Ta0 F)

theorem dX7_closeInner_0 : decode cX7_closeInner 0 = .ok (.aload_n 0, 1) := by decide +kernel
theorem dX7_closeInner_1 : decode cX7_closeInner 1 = .ok (.getfield 42, 3) := by decide +kernel
theorem dX7_closeInner_4 : decode cX7_closeInner 4 = .ok (.aload_n 0, 1) := by decide +kernel
theorem dX7_closeInner_5 : decode cX7_closeInner 5 = .ok (.getfield 235, 3) := by decide +kernel
theorem dX7_closeInner_8 : decode cX7_closeInner 8 = .ok (.iconst 1, 1) := by decide +kernel
theorem dX7_closeInner_9 : decode cX7_closeInner 9 = .ok (.isub, 1) := by decide +kernel
theorem dX7_closeInner_10 : decode cX7_closeInner 10 = .ok (.iaload, 1) := by decide +kernel
theorem dX7_closeInner_11 : decode cX7_closeInner 11 = .ok (.istore_n 1, 1) := by decide +kernel
theorem dX7_closeInner_12 : decode cX7_closeInner 12 = .ok (.aload_n 0, 1) := by decide +kernel
theorem dX7_closeInner_13 : decode cX7_closeInner 13 = .ok (.iload_n 1, 1) := by decide +kernel
theorem dX7_closeInner_14 : decode cX7_closeInner 14 = .ok (.bipush 100, 2) := by decide +kernel
theorem dX7_closeInner_16 : decode cX7_closeInner 16 = .ok (.if_icmp .ne 8, 3) := by decide +kernel
theorem dX7_closeInner_19 : decode cX7_closeInner 19 = .ok (.bipush 41, 2) := by decide +kernel
theorem dX7_closeInner_21 : decode cX7_closeInner 21 = .ok (.goto 5, 3) := by decide +kernel
theorem dX7_closeInner_24 : decode cX7_closeInner 24 = .ok (.bipush 93, 2) := by decide +kernel
theorem dX7_closeInner_26 : decode cX7_closeInner 26 = .ok (.invokevirtual 169, 3) := by decide +kernel
theorem dX7_closeInner_29 : decode cX7_closeInner 29 = .ok (.aload_n 0, 1) := by decide +kernel
theorem dX7_closeInner_30 : decode cX7_closeInner 30 = .ok (.dup, 1) := by decide +kernel
theorem dX7_closeInner_31 : decode cX7_closeInner 31 = .ok (.getfield 235, 3) := by decide +kernel
theorem dX7_closeInner_34 : decode cX7_closeInner 34 = .ok (.iconst 1, 1) := by decide +kernel
theorem dX7_closeInner_35 : decode cX7_closeInner 35 = .ok (.isub, 1) := by decide +kernel
theorem dX7_closeInner_36 : decode cX7_closeInner 36 = .ok (.putfield 235, 3) := by decide +kernel
theorem dX7_closeInner_39 : decode cX7_closeInner 39 = .ok (.iload_n 1, 1) := by decide +kernel
theorem dX7_closeInner_40 : decode cX7_closeInner 40 = .ok (.bipush 100, 2) := by decide +kernel
theorem dX7_closeInner_42 : decode cX7_closeInner 42 = .ok (.if_icmp .eq 15, 3) := by decide +kernel
theorem dX7_closeInner_45 : decode cX7_closeInner 45 = .ok (.aload_n 0, 1) := by decide +kernel
theorem dX7_closeInner_46 : decode cX7_closeInner 46 = .ok (.getfield 15, 3) := by decide +kernel
theorem dX7_closeInner_49 : decode cX7_closeInner 49 = .ok (.iconst 4, 1) := by decide +kernel
theorem dX7_closeInner_50 : decode cX7_closeInner 50 = .ok (.iload_n 1, 1) := by decide +kernel
theorem dX7_closeInner_51 : decode cX7_closeInner 51 = .ok (.bipush 101, 2) := by decide +kernel
theorem dX7_closeInner_53 : decode cX7_closeInner 53 = .ok (.isub, 1) := by decide +kernel
theorem dX7_closeInner_54 : decode cX7_closeInner 54 = .ok (.invokevirtual 258, 3) := by decide +kernel
theorem dX7_closeInner_57 : decode cX7_closeInner 57 = .ok (.return_, 1) := by decide +kernel
def w_Pa_closeInner_26 (C : zC) (n0 : Nat) (Q : zS → Prop) (X : zXp)  (a0 : Nat) (a1 : Int32) (s0 : Nat) (s1 : Int32) (κ : zS) : Prop :=
  ∀ _ : zT κ s0 = 10,
  zRun C 9 mPa_closeSign [.ref s0, .int s1] κ (oV (fun κ1 =>
    ∀ _ : zW C n0 κ1,
    ∀ _ : zM (zn κ) κ κ1,
    ∀ κ5, κ5 = ui κ1 paWaits a0 ((zI κ1 paWaits a0) - (1 : Int32)) →
    ∀ _ : zW C n0 κ5,
    (a1 = (100 : Int32) →
      Q κ5) ∧
    (¬ a1 = (100 : Int32) →
      ∀ _ : zT κ5 (zR κ5 paCode a0) = 5,
      zRun C 2 mCo_emit [.ref (zR κ5 paCode a0), .int (4 : Int32), .int (a1 - (101 : Int32))] κ5 (oV (fun κ7 =>
        ∀ _ : zW C n0 κ7,
        ∀ _ : zM (zn κ5) κ5 κ7,
        Q κ7) noX))) X)
theorem t_Pa_closeInner_26 {C : zC} {n0 : Nat} {Q : zS → Prop} {X : zXp}   {a0 : Nat} {a1 : Int32} {s0 : Nat} {s1 : Int32} {κ : zS} (W : zW C n0 κ) (Ta0 : zT κ a0 = 10) (Ts0 : zT κ s0 = 10) (F : w_Pa_closeInner_26 C n0 Q X  a0 a1 s0 s1 κ) : zG C n0 10 mPa_closeInner 26 [some (.ref a0), some (.int a1)] [.int s1, .ref s0] κ (oV Q X) := by
  unfold w_Pa_closeInner_26 at F
  replace F := F Ts0
  refine k_X7_169 W dX7_closeInner_26 rfl (Nat.le_of_ble_eq_true rfl) (Nat.le_of_ble_eq_true rfl) (Or.inl Ts0) F (fun  κ1 Wκ1 Mκ1 F => ?_) (fun cls9 κ9 h9 => Or.inr ⟨_, rfl, h9⟩)
  replace F := F Wκ1 Mκ1
  refine y_aln dX7_closeInner_29 rfl ?_
  refine y_dup dX7_closeInner_30 rfl ?_
  have h4 := (ztm W Mκ1 Ta0)
  refine gf_X7_235 dX7_closeInner_31 rfl (Or.inl h4) ?_
  refine y_ic dX7_closeInner_34 zi_1 ?_
  refine y_isub dX7_closeInner_35 ?_
  refine pf_X7_235 Wκ1 dX7_closeInner_36 rfl (Or.inl h4) (fun κ5 eκ5 => ?_)
  replace F := F κ5 eκ5
  have Wκ5 : zW C n0 κ5 := zW_ui Wκ1 eκ5 (fun h => absurd h (by decide))
  have Mκ5 : zM (zn κ1) κ1 κ5 := by rw [eκ5]; exact zM.of rfl rfl rfl
  replace F := F Wκ5
  refine y_iln dX7_closeInner_39 rfl ?_
  refine y_bi1 dX7_closeInner_40 zb_100 ?_
  refine y_ii (a1 = (100 : Int32)) dX7_closeInner_42 (t := 57) rfl rfl (fun c9 => ?_) (fun c9 => ?_)
  · replace F := F.1 c9
    exact y_rv Wκ5 dX7_closeInner_57 rfl F
  · replace F := F.2 c9
    refine y_aln dX7_closeInner_45 rfl ?_
    have h6 := (ztm Wκ1 Mκ5 h4)
    refine gf_X7_15 Wκ5 dX7_closeInner_46 rfl h6 ?_
    refine y_ic dX7_closeInner_49 zi_4 ?_
    refine y_iln dX7_closeInner_50 rfl ?_
    refine y_bi1 dX7_closeInner_51 zb_101 ?_
    refine y_isub dX7_closeInner_53 ?_
    replace F := F (ty_paCode Wκ5 h6)
    refine k_X7_258 Wκ5 dX7_closeInner_54 rfl (Nat.le_of_ble_eq_true rfl) (Nat.le_of_ble_eq_true rfl) (Or.inl (ty_paCode Wκ5 h6)) F (fun  κ7 Wκ7 Mκ7 F => ?_) (fun _ _ h9 => False.elim h9)
    replace F := F Wκ7 Mκ7
    exact y_rv Wκ7 dX7_closeInner_57 rfl F

def w_Pa_closeInner_0 (C : zC) (n0 : Nat) (Q : zS → Prop) (X : zXp)  (a0 : Nat) (κ : zS) : Prop :=
  inb ((zI κ paWaits a0) - (1 : Int32)) (zN κ (zR κ paWaiting a0)) ∧
  ∀ v1_1 : Int32, v1_1 = (zA κ (zR κ paWaiting a0) (((zI κ paWaits a0) - (1 : Int32))).toNatClampNeg) →
  (¬ v1_1 = (100 : Int32) →
    w_Pa_closeInner_26 C n0 Q X  a0 v1_1 a0 (93 : Int32) κ) ∧
  (v1_1 = (100 : Int32) →
    w_Pa_closeInner_26 C n0 Q X  a0 v1_1 a0 (41 : Int32) κ)
theorem t_Pa_closeInner_0 {C : zC} {n0 : Nat} {Q : zS → Prop} {X : zXp}   {a0 : Nat} {κ : zS} (W : zW C n0 κ) (Ta0 : zT κ a0 = 10) (F : w_Pa_closeInner_0 C n0 Q X  a0 κ) : zG C n0 10 mPa_closeInner 0 [some (.ref a0), none] [] κ (oV Q X) := by
  unfold w_Pa_closeInner_0 at F
  refine y_aln dX7_closeInner_0 rfl ?_
  refine gf_X7_42 W dX7_closeInner_1 rfl Ta0 ?_
  refine y_aln dX7_closeInner_4 rfl ?_
  refine gf_X7_235 dX7_closeInner_5 rfl (Or.inl Ta0) ?_
  refine y_ic dX7_closeInner_8 zi_1 ?_
  refine y_isub dX7_closeInner_9 ?_
  refine y_ald dX7_closeInner_10 (ty_paWaiting W Ta0) F.1 ?_
  replace F := F.2
  refine y_isnb dX7_closeInner_11 (Nat.le_of_ble_eq_true rfl) (fun v1_1 ev1_1 => ?_)
  replace F := F v1_1 ev1_1
  show zG _ _ _ _ _ [some (.ref a0), some (.int v1_1)] _ _ _
  refine y_aln dX7_closeInner_12 rfl ?_
  refine y_iln dX7_closeInner_13 rfl ?_
  refine y_bi1 dX7_closeInner_14 zb_100 ?_
  refine y_iin (v1_1 = (100 : Int32)) dX7_closeInner_16 (t := 24) rfl rfl (fun c9 => ?_) (fun c9 => ?_)
  · replace F := F.1 c9
    refine y_bi1 dX7_closeInner_24 zb_93 ?_
    exact y_k (t_Pa_closeInner_26  W Ta0 Ta0 F) ⟨rfl, rfl, trivial⟩
  · replace F := F.2 c9
    refine y_bi1 dX7_closeInner_19 zb_41 ?_
    refine y_goto dX7_closeInner_21 (t := 26) rfl ?_
    exact y_k (t_Pa_closeInner_26  W Ta0 Ta0 F) ⟨rfl, rfl, trivial⟩

theorem Pa_closeInner_run {C : zC} {n0 : Nat} {Q : zS → Prop} {X : zXp} {a0 : Nat} {κ : zS} (W : zW C n0 κ) (Ta0 : zT κ a0 = 10) (F : w_Pa_closeInner_0 C (zn κ) Q X a0 κ) : zRun C 10 mPa_closeInner [.ref a0] κ (oV Q X) := z_run (m_ent _ 1) (t_Pa_closeInner_0 (W.lo (Nat.le_trans W.1.2.1 W.1.2.2) (Nat.le_refl _)) Ta0 F)

theorem dX7_expression_0 : decode cX7_expression 0 = .ok (.aload_n 0, 1) := by decide +kernel
theorem dX7_expression_1 : decode cX7_expression 1 = .ok (.getfield 15, 3) := by decide +kernel
theorem dX7_expression_4 : decode cX7_expression 4 = .ok (.iload_n 1, 1) := by decide +kernel
theorem dX7_expression_5 : decode cX7_expression 5 = .ok (.iconst 4, 1) := by decide +kernel
theorem dX7_expression_6 : decode cX7_expression 6 = .ok (.aload_n 0, 1) := by decide +kernel
theorem dX7_expression_7 : decode cX7_expression 7 = .ok (.getfield 15, 3) := by decide +kernel
theorem dX7_expression_10 : decode cX7_expression 10 = .ok (.iload_n 1, 1) := by decide +kernel
theorem dX7_expression_11 : decode cX7_expression 11 = .ok (.iconst 4, 1) := by decide +kernel
theorem dX7_expression_12 : decode cX7_expression 12 = .ok (.invokevirtual 194, 3) := by decide +kernel
theorem dX7_expression_15 : decode cX7_expression 15 = .ok (.iconst 1, 1) := by decide +kernel
theorem dX7_expression_16 : decode cX7_expression 16 = .ok (.iadd, 1) := by decide +kernel
theorem dX7_expression_17 : decode cX7_expression 17 = .ok (.invokevirtual 201, 3) := by decide +kernel
theorem dX7_expression_20 : decode cX7_expression 20 = .ok (.aload_n 0, 1) := by decide +kernel
theorem dX7_expression_21 : decode cX7_expression 21 = .ok (.iconst 0, 1) := by decide +kernel
theorem dX7_expression_22 : decode cX7_expression 22 = .ok (.putfield 235, 3) := by decide +kernel
theorem dX7_expression_25 : decode cX7_expression 25 = .ok (.iload_n 2, 1) := by decide +kernel
theorem dX7_expression_26 : decode cX7_expression 26 = .ok (.istore_n 3, 1) := by decide +kernel
theorem dX7_expression_27 : decode cX7_expression 27 = .ok (.iconst 1, 1) := by decide +kernel
theorem dX7_expression_28 : decode cX7_expression 28 = .ok (.istore 4, 2) := by decide +kernel
theorem dX7_expression_30 : decode cX7_expression 30 = .ok (.iconst 1, 1) := by decide +kernel
theorem dX7_expression_31 : decode cX7_expression 31 = .ok (.istore 5, 2) := by decide +kernel
theorem dX7_expression_33 : decode cX7_expression 33 = .ok (.iconst 0, 1) := by decide +kernel
theorem dX7_expression_34 : decode cX7_expression 34 = .ok (.istore 6, 2) := by decide +kernel
theorem dX7_expression_36 : decode cX7_expression 36 = .ok (.iload 5, 2) := by decide +kernel
theorem dX7_expression_38 : decode cX7_expression 38 = .ok (.ifCond .eq 140, 3) := by decide +kernel
theorem dX7_expression_41 : decode cX7_expression 41 = .ok (.iload 6, 2) := by decide +kernel
theorem dX7_expression_43 : decode cX7_expression 43 = .ok (.iconst 2, 1) := by decide +kernel
theorem dX7_expression_44 : decode cX7_expression 44 = .ok (.aload_n 0, 1) := by decide +kernel
theorem dX7_expression_45 : decode cX7_expression 45 = .ok (.getfield 9, 3) := by decide +kernel
theorem dX7_expression_48 : decode cX7_expression 48 = .ok (.getfield 75, 3) := by decide +kernel
theorem dX7_expression_51 : decode cX7_expression 51 = .ok (.imul, 1) := by decide +kernel
theorem dX7_expression_52 : decode cX7_expression 52 = .ok (.if_icmp .gt 126, 3) := by decide +kernel
theorem dX7_expression_55 : decode cX7_expression 55 = .ok (.iload 4, 2) := by decide +kernel
theorem dX7_expression_57 : decode cX7_expression 57 = .ok (.ifCond .eq 30, 3) := by decide +kernel
theorem dX7_expression_60 : decode cX7_expression 60 = .ok (.iload_n 3, 1) := by decide +kernel
theorem dX7_expression_61 : decode cX7_expression 61 = .ok (.iconst (-1), 1) := by decide +kernel
theorem dX7_expression_62 : decode cX7_expression 62 = .ok (.if_icmp .ne 25, 3) := by decide +kernel
theorem dX7_expression_65 : decode cX7_expression 65 = .ok (.aload_n 0, 1) := by decide +kernel
theorem dX7_expression_66 : decode cX7_expression 66 = .ok (.getfield 78, 3) := by decide +kernel
theorem dX7_expression_69 : decode cX7_expression 69 = .ok (.sipush 140, 3) := by decide +kernel
theorem dX7_expression_72 : decode cX7_expression 72 = .ok (.if_icmp .ne 15, 3) := by decide +kernel
theorem dX7_expression_75 : decode cX7_expression 75 = .ok (.aload_n 0, 1) := by decide +kernel
theorem dX7_expression_76 : decode cX7_expression 76 = .ok (.getfield 55, 3) := by decide +kernel
theorem dX7_expression_79 : decode cX7_expression 79 = .ok (.istore_n 3, 1) := by decide +kernel
theorem dX7_expression_80 : decode cX7_expression 80 = .ok (.aload_n 0, 1) := by decide +kernel
theorem dX7_expression_81 : decode cX7_expression 81 = .ok (.invokevirtual 72, 3) := by decide +kernel
theorem dX7_expression_84 : decode cX7_expression 84 = .ok (.goto 88, 3) := by decide +kernel
theorem dX7_expression_87 : decode cX7_expression 87 = .ok (.iload 4, 2) := by decide +kernel
theorem dX7_expression_89 : decode cX7_expression 89 = .ok (.ifCond .eq 27, 3) := by decide +kernel
theorem dX7_expression_92 : decode cX7_expression 92 = .ok (.iload_n 3, 1) := by decide +kernel
theorem dX7_expression_93 : decode cX7_expression 93 = .ok (.iconst (-1), 1) := by decide +kernel
theorem dX7_expression_94 : decode cX7_expression 94 = .ok (.if_icmp .ne 10, 3) := by decide +kernel
theorem dX7_expression_97 : decode cX7_expression 97 = .ok (.aload_n 0, 1) := by decide +kernel
theorem dX7_expression_98 : decode cX7_expression 98 = .ok (.invokevirtual 238, 3) := by decide +kernel
theorem dX7_expression_101 : decode cX7_expression 101 = .ok (.goto 8, 3) := by decide +kernel
theorem dX7_expression_104 : decode cX7_expression 104 = .ok (.aload_n 0, 1) := by decide +kernel
theorem dX7_expression_105 : decode cX7_expression 105 = .ok (.iload_n 3, 1) := by decide +kernel
theorem dX7_expression_106 : decode cX7_expression 106 = .ok (.invokevirtual 242, 3) := by decide +kernel
theorem dX7_expression_109 : decode cX7_expression 109 = .ok (.istore 4, 2) := by decide +kernel
theorem dX7_expression_111 : decode cX7_expression 111 = .ok (.iconst (-1), 1) := by decide +kernel
theorem dX7_expression_112 : decode cX7_expression 112 = .ok (.istore_n 3, 1) := by decide +kernel
theorem dX7_expression_113 : decode cX7_expression 113 = .ok (.goto 59, 3) := by decide +kernel
theorem dX7_expression_116 : decode cX7_expression 116 = .ok (.aload_n 0, 1) := by decide +kernel
theorem dX7_expression_117 : decode cX7_expression 117 = .ok (.getfield 78, 3) := by decide +kernel
theorem dX7_expression_120 : decode cX7_expression 120 = .ok (.invokestatic 246, 3) := by decide +kernel
theorem dX7_expression_123 : decode cX7_expression 123 = .ok (.iconst (-1), 1) := by decide +kernel
theorem dX7_expression_124 : decode cX7_expression 124 = .ok (.if_icmp .eq 20, 3) := by decide +kernel
theorem dX7_expression_127 : decode cX7_expression 127 = .ok (.aload_n 0, 1) := by decide +kernel
theorem dX7_expression_128 : decode cX7_expression 128 = .ok (.aload_n 0, 1) := by decide +kernel
theorem dX7_expression_129 : decode cX7_expression 129 = .ok (.getfield 78, 3) := by decide +kernel
theorem dX7_expression_132 : decode cX7_expression 132 = .ok (.invokestatic 246, 3) := by decide +kernel
theorem dX7_expression_135 : decode cX7_expression 135 = .ok (.invokevirtual 249, 3) := by decide +kernel
theorem dX7_expression_138 : decode cX7_expression 138 = .ok (.iconst 1, 1) := by decide +kernel
theorem dX7_expression_139 : decode cX7_expression 139 = .ok (.istore 4, 2) := by decide +kernel
theorem dX7_expression_141 : decode cX7_expression 141 = .ok (.goto 31, 3) := by decide +kernel
theorem dX7_expression_144 : decode cX7_expression 144 = .ok (.aload_n 0, 1) := by decide +kernel
theorem dX7_expression_145 : decode cX7_expression 145 = .ok (.iconst 1, 1) := by decide +kernel
theorem dX7_expression_146 : decode cX7_expression 146 = .ok (.invokevirtual 252, 3) := by decide +kernel
theorem dX7_expression_149 : decode cX7_expression 149 = .ok (.aload_n 0, 1) := by decide +kernel
theorem dX7_expression_150 : decode cX7_expression 150 = .ok (.getfield 235, 3) := by decide +kernel
theorem dX7_expression_153 : decode cX7_expression 153 = .ok (.ifCond .le 7, 3) := by decide +kernel
theorem dX7_expression_156 : decode cX7_expression 156 = .ok (.iconst 1, 1) := by decide +kernel
theorem dX7_expression_157 : decode cX7_expression 157 = .ok (.goto 4, 3) := by decide +kernel
theorem dX7_expression_160 : decode cX7_expression 160 = .ok (.iconst 0, 1) := by decide +kernel
theorem dX7_expression_161 : decode cX7_expression 161 = .ok (.istore 5, 2) := by decide +kernel
theorem dX7_expression_163 : decode cX7_expression 163 = .ok (.iload 5, 2) := by decide +kernel
theorem dX7_expression_165 : decode cX7_expression 165 = .ok (.ifCond .eq 7, 3) := by decide +kernel
theorem dX7_expression_168 : decode cX7_expression 168 = .ok (.aload_n 0, 1) := by decide +kernel
theorem dX7_expression_169 : decode cX7_expression 169 = .ok (.invokevirtual 255, 3) := by decide +kernel
theorem dX7_expression_172 : decode cX7_expression 172 = .ok (.iinc 6 1, 3) := by decide +kernel
theorem dX7_expression_175 : decode cX7_expression 175 = .ok (.goto (-139), 3) := by decide +kernel
theorem dX7_expression_178 : decode cX7_expression 178 = .ok (.aload_n 0, 1) := by decide +kernel
theorem dX7_expression_179 : decode cX7_expression 179 = .ok (.getfield 15, 3) := by decide +kernel
theorem dX7_expression_182 : decode cX7_expression 182 = .ok (.iconst 0, 1) := by decide +kernel
theorem dX7_expression_183 : decode cX7_expression 183 = .ok (.iconst 0, 1) := by decide +kernel
theorem dX7_expression_184 : decode cX7_expression 184 = .ok (.invokevirtual 258, 3) := by decide +kernel
theorem dX7_expression_187 : decode cX7_expression 187 = .ok (.return_, 1) := by decide +kernel
def w_Pa_expression_109 (C : zC) (n0 : Nat) (Q : zS → Prop) (X : zXp) (B36 : Nat → Int32 → Int32 → Int32 → Int32 → zS → Prop) (a0 : Nat) (a5 : Int32) (a6 : Int32) (s0 : Int32) (κ : zS) : Prop :=
  ∀ v6_1 : Int32, v6_1 = a6 + (1 : Int32) →
  B36 a0 (-1 : Int32) s0 a5 v6_1 κ
theorem t_Pa_expression_109 {C : zC} {n0 : Nat} {Q : zS → Prop} {X : zXp} {B36 : Nat → Int32 → Int32 → Int32 → Int32 → zS → Prop} (hB36 : ∀ a0' a3' a4' a5' a6' τ, zW C n0 τ → zT τ a0' = 10 → B36 a0' a3' a4' a5' a6' τ → zG C n0 11 mPa_expression 36 [some (.ref a0'), none, none, some (.int a3'), some (.int a4'), some (.int a5'), some (.int a6')] [] τ (oV Q X)) {a0 : Nat} {a5 : Int32} {a6 : Int32} {s0 : Int32} {κ : zS} (W : zW C n0 κ) (Ta0 : zT κ a0 = 10) (F : w_Pa_expression_109 C n0 Q X B36 a0 a5 a6 s0 κ) : zG C n0 11 mPa_expression 109 [some (.ref a0), none, none, none, none, some (.int a5), some (.int a6)] [.int s0] κ (oV Q X) := by
  unfold w_Pa_expression_109 at F
  refine y_is dX7_expression_109 (Nat.le_of_ble_eq_true rfl) rfl ?_
  show zG _ _ _ _ _ [some (.ref a0), none, none, none, some (.int s0), some (.int a5), some (.int a6)] _ _ _
  refine y_ic dX7_expression_111 zi_m1 ?_
  refine y_isn dX7_expression_112 (Nat.le_of_ble_eq_true rfl) rfl ?_
  show zG _ _ _ _ _ [some (.ref a0), none, none, some (.int (-1 : Int32)), some (.int s0), some (.int a5), some (.int a6)] _ _ _
  refine y_goto dX7_expression_113 (t := 172) rfl ?_
  refine y_incb dX7_expression_172 zi_1 rfl (Nat.le_of_ble_eq_true rfl) (fun v6_1 ev6_1 => ?_)
  replace F := F v6_1 ev6_1
  show zG _ _ _ _ _ [some (.ref a0), none, none, some (.int (-1 : Int32)), some (.int s0), some (.int a5), some (.int v6_1)] _ _ _
  refine y_goto dX7_expression_175 (t := 36) rfl ?_
  exact y_k (hB36 _ _ _ _ _ _ W Ta0 F) ⟨rfl, rfl, rfl, rfl, rfl, trivial⟩

def w_Pa_expression_161 (C : zC) (n0 : Nat) (Q : zS → Prop) (X : zXp) (B36 : Nat → Int32 → Int32 → Int32 → Int32 → zS → Prop) (a0 : Nat) (a3 : Int32) (a4 : Int32) (a6 : Int32) (s0 : Int32) (κ : zS) : Prop :=
  (s0 = (0 : Int32) →
    ∀ v6_1 : Int32, v6_1 = a6 + (1 : Int32) →
    B36 a0 a3 a4 s0 v6_1 κ) ∧
  (¬ s0 = (0 : Int32) →
    ∀ _ : zT κ a0 = 10,
    zRun C 10 mPa_closeInner [.ref a0] κ (oV (fun κ2 =>
      ∀ _ : zW C n0 κ2,
      ∀ _ : zM (zn κ) κ κ2,
      ∀ v6_5 : Int32, v6_5 = a6 + (1 : Int32) →
      B36 a0 a3 a4 s0 v6_5 κ2) X))
theorem t_Pa_expression_161 {C : zC} {n0 : Nat} {Q : zS → Prop} {X : zXp} {B36 : Nat → Int32 → Int32 → Int32 → Int32 → zS → Prop} (hB36 : ∀ a0' a3' a4' a5' a6' τ, zW C n0 τ → zT τ a0' = 10 → B36 a0' a3' a4' a5' a6' τ → zG C n0 11 mPa_expression 36 [some (.ref a0'), none, none, some (.int a3'), some (.int a4'), some (.int a5'), some (.int a6')] [] τ (oV Q X)) {a0 : Nat} {a3 : Int32} {a4 : Int32} {a6 : Int32} {s0 : Int32} {κ : zS} (W : zW C n0 κ) (Ta0 : zT κ a0 = 10) (F : w_Pa_expression_161 C n0 Q X B36 a0 a3 a4 a6 s0 κ) : zG C n0 11 mPa_expression 161 [some (.ref a0), none, none, some (.int a3), some (.int a4), none, some (.int a6)] [.int s0] κ (oV Q X) := by
  unfold w_Pa_expression_161 at F
  refine y_is dX7_expression_161 (Nat.le_of_ble_eq_true rfl) rfl ?_
  show zG _ _ _ _ _ [some (.ref a0), none, none, some (.int a3), some (.int a4), some (.int s0), some (.int a6)] _ _ _
  refine y_il dX7_expression_163 rfl ?_
  refine y_i (s0 = (0 : Int32)) dX7_expression_165 (t := 172) rfl rfl (fun c9 => ?_) (fun c9 => ?_)
  · replace F := F.1 c9
    refine y_incb dX7_expression_172 zi_1 rfl (Nat.le_of_ble_eq_true rfl) (fun v6_1 ev6_1 => ?_)
    replace F := F v6_1 ev6_1
    show zG _ _ _ _ _ [some (.ref a0), none, none, some (.int a3), some (.int a4), some (.int s0), some (.int v6_1)] _ _ _
    refine y_goto dX7_expression_175 (t := 36) rfl ?_
    exact y_k (hB36 _ _ _ _ _ _ W Ta0 F) ⟨rfl, rfl, rfl, rfl, rfl, trivial⟩
  · replace F := F.2 c9
    refine y_aln dX7_expression_168 rfl ?_
    replace F := F Ta0
    refine k_X7_255 W dX7_expression_169 rfl (Nat.le_of_ble_eq_true rfl) (Nat.le_of_ble_eq_true rfl) (Or.inl Ta0) F (fun  κ2 Wκ2 Mκ2 F => ?_) (fun cls9 κ9 h9 => Or.inr ⟨_, rfl, h9⟩)
    replace F := F Wκ2 Mκ2
    refine y_incb dX7_expression_172 zi_1 rfl (Nat.le_of_ble_eq_true rfl) (fun v6_5 ev6_5 => ?_)
    replace F := F v6_5 ev6_5
    show zG _ _ _ _ _ [some (.ref a0), none, none, some (.int a3), some (.int a4), some (.int s0), some (.int v6_5)] _ _ _
    refine y_goto dX7_expression_175 (t := 36) rfl ?_
    have h6 := (ztm W Mκ2 Ta0)
    exact y_k (hB36 _ _ _ _ _ _ Wκ2 h6 F) ⟨rfl, rfl, rfl, rfl, rfl, trivial⟩

def w_Pa_expression_87 (C : zC) (n0 : Nat) (Q : zS → Prop) (X : zXp) (B36 : Nat → Int32 → Int32 → Int32 → Int32 → zS → Prop) (a0 : Nat) (a3 : Int32) (a4 : Int32) (a5 : Int32) (a6 : Int32) (κ : zS) : Prop :=
  (a4 = (0 : Int32) →
    zRun C 0 mPa_binary [.int (zI κ paKind a0)] κ (oI (fun r2 κ1 =>
      ∀ _ : zW C n0 κ1,
      ∀ _ : zM (zn κ) κ κ1,
      (r2 = (-1 : Int32) →
        ∀ _ : zT κ1 a0 = 10,
        zRun C 3 mPa_emitWaiting [.ref a0, .int (1 : Int32)] κ1 (oV (fun κ4 =>
          ∀ _ : zW C n0 κ4,
          ∀ _ : zM (zn κ1) κ1 κ4,
          ((zI κ4 paWaits a0) ≤ (0 : Int32) →
            w_Pa_expression_161 C n0 Q X B36 a0 a3 a4 a6 (0 : Int32) κ4) ∧
          (¬ (zI κ4 paWaits a0) ≤ (0 : Int32) →
            w_Pa_expression_161 C n0 Q X B36 a0 a3 a4 a6 (1 : Int32) κ4)) noX)) ∧
      (¬ r2 = (-1 : Int32) →
        zRun C 0 mPa_binary [.int (zI κ1 paKind a0)] κ1 (oI (fun r11 κ10 =>
          ∀ _ : zW C n0 κ10,
          ∀ _ : zM (zn κ1) κ1 κ10,
          ∀ _ : zT κ10 a0 = 10,
          zRun C 9 mPa_operator [.ref a0, .int r11] κ10 (oV (fun κ13 =>
            ∀ _ : zW C n0 κ13,
            ∀ _ : zM (zn κ10) κ10 κ13,
            ∀ v6_17 : Int32, v6_17 = a6 + (1 : Int32) →
            B36 a0 a3 (1 : Int32) a5 v6_17 κ13) X)) noX))) noX)) ∧
  (¬ a4 = (0 : Int32) →
    (¬ a3 = (-1 : Int32) →
      ∀ _ : zT κ a0 = 10,
      zRun C 10 mPa_operandName [.ref a0, .int a3] κ (oI (fun r20 κ19 =>
        ∀ _ : zW C n0 κ19,
        ∀ _ : zM (zn κ) κ κ19,
        w_Pa_expression_109 C n0 Q X B36 a0 a5 a6 r20 κ19) X)) ∧
    (a3 = (-1 : Int32) →
      ∀ _ : zT κ a0 = 10,
      zRun C 10 mPa_operand [.ref a0] κ (oI (fun r24 κ23 =>
        ∀ _ : zW C n0 κ23,
        ∀ _ : zM (zn κ) κ κ23,
        w_Pa_expression_109 C n0 Q X B36 a0 a5 a6 r24 κ23) X)))
theorem t_Pa_expression_87 {C : zC} {n0 : Nat} {Q : zS → Prop} {X : zXp} {B36 : Nat → Int32 → Int32 → Int32 → Int32 → zS → Prop} (hB36 : ∀ a0' a3' a4' a5' a6' τ, zW C n0 τ → zT τ a0' = 10 → B36 a0' a3' a4' a5' a6' τ → zG C n0 11 mPa_expression 36 [some (.ref a0'), none, none, some (.int a3'), some (.int a4'), some (.int a5'), some (.int a6')] [] τ (oV Q X)) {a0 : Nat} {a3 : Int32} {a4 : Int32} {a5 : Int32} {a6 : Int32} {κ : zS} (W : zW C n0 κ) (Ta0 : zT κ a0 = 10) (F : w_Pa_expression_87 C n0 Q X B36 a0 a3 a4 a5 a6 κ) : zG C n0 11 mPa_expression 87 [some (.ref a0), none, none, some (.int a3), some (.int a4), some (.int a5), some (.int a6)] [] κ (oV Q X) := by
  unfold w_Pa_expression_87 at F
  refine y_il dX7_expression_87 rfl ?_
  refine y_i (a4 = (0 : Int32)) dX7_expression_89 (t := 116) rfl rfl (fun c9 => ?_) (fun c9 => ?_)
  · replace F := F.1 c9
    refine y_aln dX7_expression_116 rfl ?_
    refine gf_X7_78 dX7_expression_117 rfl (Or.inl Ta0) ?_
    refine k_X7_246 W dX7_expression_120 rfl (Nat.le_of_ble_eq_true rfl) (Nat.le_of_ble_eq_true rfl)  F (fun r2 κ1 Wκ1 Mκ1 F => ?_) (fun _ _ h9 => False.elim h9)
    replace F := F Wκ1 Mκ1
    refine y_ic dX7_expression_123 zi_m1 ?_
    refine y_ii (r2 = (-1 : Int32)) dX7_expression_124 (t := 144) rfl rfl (fun c9 => ?_) (fun c9 => ?_)
    · replace F := F.1 c9
      refine y_aln dX7_expression_144 rfl ?_
      refine y_ic dX7_expression_145 zi_1 ?_
      have h6 := (ztm W Mκ1 Ta0)
      replace F := F h6
      refine k_X7_252 Wκ1 dX7_expression_146 rfl (Nat.le_of_ble_eq_true rfl) (Nat.le_of_ble_eq_true rfl) (Or.inl h6) F (fun  κ4 Wκ4 Mκ4 F => ?_) (fun _ _ h9 => False.elim h9)
      replace F := F Wκ4 Mκ4
      refine y_aln dX7_expression_149 rfl ?_
      have h8 := (ztm Wκ1 Mκ4 h6)
      refine gf_X7_235 dX7_expression_150 rfl (Or.inl h8) ?_
      refine y_i ((zI κ4 paWaits a0) ≤ (0 : Int32)) dX7_expression_153 (t := 160) rfl rfl (fun c9 => ?_) (fun c9 => ?_)
      · replace F := F.1 c9
        refine y_ic dX7_expression_160 zi_0 ?_
        exact y_k (t_Pa_expression_161 hB36 Wκ4 h8 F) ⟨rfl, rfl, rfl, rfl, trivial⟩
      · replace F := F.2 c9
        refine y_ic dX7_expression_156 zi_1 ?_
        refine y_goto dX7_expression_157 (t := 161) rfl ?_
        exact y_k (t_Pa_expression_161 hB36 Wκ4 h8 F) ⟨rfl, rfl, rfl, rfl, trivial⟩
    · replace F := F.2 c9
      refine y_aln dX7_expression_127 rfl ?_
      refine y_aln dX7_expression_128 rfl ?_
      have h9 := (ztm W Mκ1 Ta0)
      refine gf_X7_78 dX7_expression_129 rfl (Or.inl h9) ?_
      refine k_X7_246 Wκ1 dX7_expression_132 rfl (Nat.le_of_ble_eq_true rfl) (Nat.le_of_ble_eq_true rfl)  F (fun r11 κ10 Wκ10 Mκ10 F => ?_) (fun _ _ h9 => False.elim h9)
      replace F := F Wκ10 Mκ10
      have h15 := (ztm Wκ1 Mκ10 h9)
      replace F := F h15
      refine k_X7_249 Wκ10 dX7_expression_135 rfl (Nat.le_of_ble_eq_true rfl) (Nat.le_of_ble_eq_true rfl) (Or.inl h15) F (fun  κ13 Wκ13 Mκ13 F => ?_) (fun cls9 κ9 h9 => Or.inr ⟨_, rfl, h9⟩)
      replace F := F Wκ13 Mκ13
      refine y_ic dX7_expression_138 zi_1 ?_
      refine y_is dX7_expression_139 (Nat.le_of_ble_eq_true rfl) rfl ?_
      show zG _ _ _ _ _ [some (.ref a0), none, none, some (.int a3), some (.int (1 : Int32)), some (.int a5), some (.int a6)] _ _ _
      refine y_goto dX7_expression_141 (t := 172) rfl ?_
      refine y_incb dX7_expression_172 zi_1 rfl (Nat.le_of_ble_eq_true rfl) (fun v6_17 ev6_17 => ?_)
      replace F := F v6_17 ev6_17
      show zG _ _ _ _ _ [some (.ref a0), none, none, some (.int a3), some (.int (1 : Int32)), some (.int a5), some (.int v6_17)] _ _ _
      refine y_goto dX7_expression_175 (t := 36) rfl ?_
      have h18 := (ztm Wκ10 Mκ13 h15)
      exact y_k (hB36 _ _ _ _ _ _ Wκ13 h18 F) ⟨rfl, rfl, rfl, rfl, rfl, trivial⟩
  · replace F := F.2 c9
    refine y_iln dX7_expression_92 rfl ?_
    refine y_ic dX7_expression_93 zi_m1 ?_
    refine y_iin (a3 = (-1 : Int32)) dX7_expression_94 (t := 104) rfl rfl (fun c9 => ?_) (fun c9 => ?_)
    · replace F := F.1 c9
      refine y_aln dX7_expression_104 rfl ?_
      refine y_iln dX7_expression_105 rfl ?_
      replace F := F Ta0
      refine k_X7_242 W dX7_expression_106 rfl (Nat.le_of_ble_eq_true rfl) (Nat.le_of_ble_eq_true rfl) (Or.inl Ta0) F (fun r20 κ19 Wκ19 Mκ19 F => ?_) (fun cls9 κ9 h9 => Or.inr ⟨_, rfl, h9⟩)
      replace F := F Wκ19 Mκ19
      have h22 := (ztm W Mκ19 Ta0)
      exact y_k (t_Pa_expression_109 hB36 Wκ19 h22 F) ⟨rfl, rfl, rfl, trivial⟩
    · replace F := F.2 c9
      refine y_aln dX7_expression_97 rfl ?_
      replace F := F Ta0
      refine k_X7_238 W dX7_expression_98 rfl (Nat.le_of_ble_eq_true rfl) (Nat.le_of_ble_eq_true rfl) (Or.inl Ta0) F (fun r24 κ23 Wκ23 Mκ23 F => ?_) (fun cls9 κ9 h9 => Or.inr ⟨_, rfl, h9⟩)
      replace F := F Wκ23 Mκ23
      refine y_goto dX7_expression_101 (t := 109) rfl ?_
      have h26 := (ztm W Mκ23 Ta0)
      exact y_k (t_Pa_expression_109 hB36 Wκ23 h26 F) ⟨rfl, rfl, rfl, trivial⟩

def w_Pa_expression_178 (C : zC) (n0 : Nat) (Q : zS → Prop) (X : zXp)  (a0 : Nat) (κ : zS) : Prop :=
  ∀ _ : zT κ (zR κ paCode a0) = 5,
  zRun C 2 mCo_emit [.ref (zR κ paCode a0), .int (0 : Int32), .int (0 : Int32)] κ (oV (fun κ1 =>
    ∀ _ : zW C n0 κ1,
    ∀ _ : zM (zn κ) κ κ1,
    Q κ1) noX)
theorem t_Pa_expression_178 {C : zC} {n0 : Nat} {Q : zS → Prop} {X : zXp}   {a0 : Nat} {κ : zS} (W : zW C n0 κ) (Ta0 : zT κ a0 = 10) (F : w_Pa_expression_178 C n0 Q X  a0 κ) : zG C n0 11 mPa_expression 178 [some (.ref a0), none, none, none, none, none, none] [] κ (oV Q X) := by
  unfold w_Pa_expression_178 at F
  refine y_aln dX7_expression_178 rfl ?_
  refine gf_X7_15 W dX7_expression_179 rfl Ta0 ?_
  refine y_ic dX7_expression_182 zi_0 ?_
  refine y_ic dX7_expression_183 zi_0 ?_
  replace F := F (ty_paCode W Ta0)
  refine k_X7_258 W dX7_expression_184 rfl (Nat.le_of_ble_eq_true rfl) (Nat.le_of_ble_eq_true rfl) (Or.inl (ty_paCode W Ta0)) F (fun  κ1 Wκ1 Mκ1 F => ?_) (fun _ _ h9 => False.elim h9)
  replace F := F Wκ1 Mκ1
  exact y_rv Wκ1 dX7_expression_187 rfl F

def w_Pa_expression_36 (C : zC) (n0 : Nat) (Q : zS → Prop) (X : zXp)  (a0 : Nat) (a3 : Int32) (a4 : Int32) (a5 : Int32) (a6 : Int32) (κ : zS) : Prop :=
  ∃ I : Nat → Nat → Int32 → Int32 → Int32 → Int32 → zS → Prop, (∃ n, I n a0 a3 a4 a5 a6 κ) ∧ ∀ n a0 a3 a4 a5 a6 κ, zW C n0 κ → zT κ a0 = 10 → I n a0 a3 a4 a5 a6 κ →
    (a5 = (0 : Int32) →
      w_Pa_expression_178 C n0 Q X  a0 κ) ∧
    (¬ a5 = (0 : Int32) →
      (((2 : Int32) * (zI κ taTotal (zR κ paTape a0))) < a6 →
        w_Pa_expression_178 C n0 Q X  a0 κ) ∧
      (¬ ((2 : Int32) * (zI κ taTotal (zR κ paTape a0))) < a6 →
        (a4 = (0 : Int32) →
          w_Pa_expression_87 C n0 Q X (fun a0' a3' a4' a5' a6' τ => ∃ k < n, I k a0' a3' a4' a5' a6' τ) a0 a3 a4 a5 a6 κ) ∧
        (¬ a4 = (0 : Int32) →
          (¬ a3 = (-1 : Int32) →
            w_Pa_expression_87 C n0 Q X (fun a0' a3' a4' a5' a6' τ => ∃ k < n, I k a0' a3' a4' a5' a6' τ) a0 a3 a4 a5 a6 κ) ∧
          (a3 = (-1 : Int32) →
            (¬ (zI κ paKind a0) = (140 : Int32) →
              w_Pa_expression_87 C n0 Q X (fun a0' a3' a4' a5' a6' τ => ∃ k < n, I k a0' a3' a4' a5' a6' τ) a0 a3 a4 a5 a6 κ) ∧
            ((zI κ paKind a0) = (140 : Int32) →
              ∀ v3_1 : Int32, v3_1 = (zI κ paAt a0) →
              ∀ _ : zT κ a0 = 10,
              zRun C 0 mPa_take [.ref a0] κ (oV (fun κ2 =>
                ∀ _ : zW C n0 κ2,
                ∀ _ : zM (zn κ) κ κ2,
                ∀ v6_5 : Int32, v6_5 = a6 + (1 : Int32) →
                ∃ k < n, I k a0 v3_1 a4 a5 v6_5 κ2) noX))))))
theorem t_Pa_expression_36 {C : zC} {n0 : Nat} {Q : zS → Prop} {X : zXp}   {a0 : Nat} {a3 : Int32} {a4 : Int32} {a5 : Int32} {a6 : Int32} {κ : zS} (W : zW C n0 κ) (Ta0 : zT κ a0 = 10) (F : w_Pa_expression_36 C n0 Q X  a0 a3 a4 a5 a6 κ) : zG C n0 11 mPa_expression 36 [some (.ref a0), none, none, some (.int a3), some (.int a4), some (.int a5), some (.int a6)] [] κ (oV Q X) := by
  obtain ⟨I, ⟨m0, hI0⟩, F0⟩ := F
  have key : ∀ n a0 a3 a4 a5 a6 κ, zW C n0 κ → zT κ a0 = 10 → I n a0 a3 a4 a5 a6 κ → zG C n0 11 mPa_expression 36 [some (.ref a0), none, none, some (.int a3), some (.int a4), some (.int a5), some (.int a6)] [] κ (oV Q X) := by
    intro n
    induction n using Nat.strongRecOn with
    | _ n ih =>
      intro a0 a3 a4 a5 a6 κ W Ta0 hI
      have F := F0 n a0 a3 a4 a5 a6 κ W Ta0 hI
      clear hI hI0
      refine y_il dX7_expression_36 rfl ?_
      refine y_i (a5 = (0 : Int32)) dX7_expression_38 (t := 178) rfl rfl (fun c9 => ?_) (fun c9 => ?_)
      · replace F := F.1 c9
        exact y_k (t_Pa_expression_178  W Ta0 F) ⟨rfl, trivial⟩
      · replace F := F.2 c9
        refine y_il dX7_expression_41 rfl ?_
        refine y_ic dX7_expression_43 zi_2 ?_
        refine y_aln dX7_expression_44 rfl ?_
        refine gf_X7_9 W dX7_expression_45 rfl Ta0 ?_
        refine gf_X7_75 dX7_expression_48 rfl (Or.inl (ty_paTape W Ta0)) ?_
        refine y_imul dX7_expression_51 ?_
        refine y_ii (((2 : Int32) * (zI κ taTotal (zR κ paTape a0))) < a6) dX7_expression_52 (t := 178) rfl rfl (fun c9 => ?_) (fun c9 => ?_)
        · replace F := F.1 c9
          exact y_k (t_Pa_expression_178  W Ta0 F) ⟨rfl, trivial⟩
        · replace F := F.2 c9
          refine y_il dX7_expression_55 rfl ?_
          refine y_i (a4 = (0 : Int32)) dX7_expression_57 (t := 87) rfl rfl (fun c9 => ?_) (fun c9 => ?_)
          · replace F := F.1 c9
            exact y_k (t_Pa_expression_87 (fun a0' a3' a4' a5' a6' τ w9 f09 hb => by obtain ⟨k, hk, hI⟩ := hb; exact ih k hk a0' a3' a4' a5' a6' τ w9 f09 hI) W Ta0 F) ⟨rfl, rfl, rfl, rfl, rfl, trivial⟩
          · replace F := F.2 c9
            refine y_iln dX7_expression_60 rfl ?_
            refine y_ic dX7_expression_61 zi_m1 ?_
            refine y_iin (a3 = (-1 : Int32)) dX7_expression_62 (t := 87) rfl rfl (fun c9 => ?_) (fun c9 => ?_)
            · replace F := F.1 c9
              exact y_k (t_Pa_expression_87 (fun a0' a3' a4' a5' a6' τ w9 f09 hb => by obtain ⟨k, hk, hI⟩ := hb; exact ih k hk a0' a3' a4' a5' a6' τ w9 f09 hI) W Ta0 F) ⟨rfl, rfl, rfl, rfl, rfl, trivial⟩
            · replace F := F.2 c9
              refine y_aln dX7_expression_65 rfl ?_
              refine gf_X7_78 dX7_expression_66 rfl (Or.inl Ta0) ?_
              refine y_si dX7_expression_69 zs_140 ?_
              refine y_iin ((zI κ paKind a0) = (140 : Int32)) dX7_expression_72 (t := 87) rfl rfl (fun c9 => ?_) (fun c9 => ?_)
              · replace F := F.1 c9
                exact y_k (t_Pa_expression_87 (fun a0' a3' a4' a5' a6' τ w9 f09 hb => by obtain ⟨k, hk, hI⟩ := hb; exact ih k hk a0' a3' a4' a5' a6' τ w9 f09 hI) W Ta0 F) ⟨rfl, rfl, rfl, rfl, rfl, trivial⟩
              · replace F := F.2 c9
                refine y_aln dX7_expression_75 rfl ?_
                refine gf_X7_55 dX7_expression_76 rfl (Or.inl Ta0) ?_
                refine y_isnb dX7_expression_79 (Nat.le_of_ble_eq_true rfl) (fun v3_1 ev3_1 => ?_)
                replace F := F v3_1 ev3_1
                show zG _ _ _ _ _ [some (.ref a0), none, none, some (.int v3_1), some (.int a4), some (.int a5), some (.int a6)] _ _ _
                refine y_aln dX7_expression_80 rfl ?_
                replace F := F Ta0
                refine k_X7_72 W dX7_expression_81 rfl (Nat.le_of_ble_eq_true rfl) (Nat.le_of_ble_eq_true rfl) (Or.inl Ta0) F (fun  κ2 Wκ2 Mκ2 F => ?_) (fun _ _ h9 => False.elim h9)
                replace F := F Wκ2 Mκ2
                refine y_goto dX7_expression_84 (t := 172) rfl ?_
                refine y_incb dX7_expression_172 zi_1 rfl (Nat.le_of_ble_eq_true rfl) (fun v6_5 ev6_5 => ?_)
                replace F := F v6_5 ev6_5
                show zG _ _ _ _ _ [some (.ref a0), none, none, some (.int v3_1), some (.int a4), some (.int a5), some (.int v6_5)] _ _ _
                refine y_goto dX7_expression_175 (t := 36) rfl ?_
                have h6 := (ztm W Mκ2 Ta0)
                obtain ⟨k, hk, hI⟩ := F
                exact y_k (ih k hk _ _ _ _ _ _ Wκ2 h6 hI) ⟨rfl, rfl, rfl, rfl, rfl, trivial⟩
  exact key m0 a0 a3 a4 a5 a6 κ W Ta0 hI0

def w_Pa_expression_0 (C : zC) (n0 : Nat) (Q : zS → Prop) (X : zXp)  (a0 : Nat) (a1 : Int32) (a2 : Int32) (κ : zS) : Prop :=
  ∀ _ : zT κ (zR κ paCode a0) = 5,
  zRun C 0 mCo_column [.ref (zR κ paCode a0), .int a1, .int (4 : Int32)] κ (oI (fun r2 κ1 =>
    ∀ _ : zW C n0 κ1,
    ∀ _ : zM (zn κ) κ κ1,
    ∀ _ : zT κ1 (zR κ paCode a0) = 5,
    zRun C 0 mCo_setColumn [.ref (zR κ paCode a0), .int a1, .int (4 : Int32), .int (r2 + (1 : Int32))] κ1 (oV (fun κ4 =>
      ∀ _ : zW C n0 κ4,
      ∀ _ : zM (zn κ1) κ1 κ4,
      ∀ κ8, κ8 = ui κ4 paWaits a0 (0 : Int32) →
      ∀ _ : zW C n0 κ8,
      w_Pa_expression_36 C n0 Q X  a0 a2 (1 : Int32) (1 : Int32) (0 : Int32) κ8) noX)) noX)
theorem t_Pa_expression_0 {C : zC} {n0 : Nat} {Q : zS → Prop} {X : zXp}   {a0 : Nat} {a1 : Int32} {a2 : Int32} {κ : zS} (W : zW C n0 κ) (Ta0 : zT κ a0 = 10) (F : w_Pa_expression_0 C n0 Q X  a0 a1 a2 κ) : zG C n0 11 mPa_expression 0 [some (.ref a0), some (.int a1), some (.int a2), none, none, none, none] [] κ (oV Q X) := by
  unfold w_Pa_expression_0 at F
  refine y_aln dX7_expression_0 rfl ?_
  refine gf_X7_15 W dX7_expression_1 rfl Ta0 ?_
  refine y_iln dX7_expression_4 rfl ?_
  refine y_ic dX7_expression_5 zi_4 ?_
  refine y_aln dX7_expression_6 rfl ?_
  refine gf_X7_15 W dX7_expression_7 rfl Ta0 ?_
  refine y_iln dX7_expression_10 rfl ?_
  refine y_ic dX7_expression_11 zi_4 ?_
  replace F := F (ty_paCode W Ta0)
  refine k_X7_194 W dX7_expression_12 rfl (Nat.le_of_ble_eq_true rfl) (Nat.le_of_ble_eq_true rfl) (Or.inl (ty_paCode W Ta0)) F (fun r2 κ1 Wκ1 Mκ1 F => ?_) (fun _ _ h9 => False.elim h9)
  replace F := F Wκ1 Mκ1
  refine y_ic dX7_expression_15 zi_1 ?_
  refine y_iadd dX7_expression_16 ?_
  have h6 := (ztm W Mκ1 (ty_paCode W Ta0))
  replace F := F h6
  refine k_X7_201 Wκ1 dX7_expression_17 rfl (Nat.le_of_ble_eq_true rfl) (Nat.le_of_ble_eq_true rfl) (Or.inl h6) F (fun  κ4 Wκ4 Mκ4 F => ?_) (fun _ _ h9 => False.elim h9)
  replace F := F Wκ4 Mκ4
  refine y_aln dX7_expression_20 rfl ?_
  refine y_ic dX7_expression_21 zi_0 ?_
  have h9 := (ztm Wκ1 Mκ4 (ztm W Mκ1 Ta0))
  refine pf_X7_235 Wκ4 dX7_expression_22 rfl (Or.inl h9) (fun κ8 eκ8 => ?_)
  replace F := F κ8 eκ8
  have Wκ8 : zW C n0 κ8 := zW_ui Wκ4 eκ8 (fun h => absurd h (by decide))
  have Mκ8 : zM (zn κ4) κ4 κ8 := by rw [eκ8]; exact zM.of rfl rfl rfl
  replace F := F Wκ8
  refine y_iln dX7_expression_25 rfl ?_
  refine y_isn dX7_expression_26 (Nat.le_of_ble_eq_true rfl) rfl ?_
  show zG _ _ _ _ _ [some (.ref a0), some (.int a1), some (.int a2), some (.int a2), none, none, none] _ _ _
  refine y_ic dX7_expression_27 zi_1 ?_
  refine y_is dX7_expression_28 (Nat.le_of_ble_eq_true rfl) rfl ?_
  show zG _ _ _ _ _ [some (.ref a0), some (.int a1), some (.int a2), some (.int a2), some (.int (1 : Int32)), none, none] _ _ _
  refine y_ic dX7_expression_30 zi_1 ?_
  refine y_is dX7_expression_31 (Nat.le_of_ble_eq_true rfl) rfl ?_
  show zG _ _ _ _ _ [some (.ref a0), some (.int a1), some (.int a2), some (.int a2), some (.int (1 : Int32)), some (.int (1 : Int32)), none] _ _ _
  refine y_ic dX7_expression_33 zi_0 ?_
  refine y_is dX7_expression_34 (Nat.le_of_ble_eq_true rfl) rfl ?_
  show zG _ _ _ _ _ [some (.ref a0), some (.int a1), some (.int a2), some (.int a2), some (.int (1 : Int32)), some (.int (1 : Int32)), some (.int (0 : Int32))] _ _ _
  have h10 := (ztm Wκ4 Mκ8 h9)
  exact y_k (t_Pa_expression_36  Wκ8 h10 F) ⟨rfl, rfl, rfl, rfl, rfl, trivial⟩

theorem Pa_expression_run {C : zC} {n0 : Nat} {Q : zS → Prop} {X : zXp} {a0 : Nat} {a1 : Int32} {a2 : Int32} {κ : zS} (W : zW C n0 κ) (Ta0 : zT κ a0 = 10) (F : w_Pa_expression_0 C (zn κ) Q X a0 a1 a2 κ) : zRun C 11 mPa_expression [.ref a0, .int a1, .int a2] κ (oV Q X) := z_run (m_ent _ 4) (t_Pa_expression_0 (W.lo (Nat.le_trans W.1.2.1 W.1.2.2) (Nat.le_refl _)) Ta0 F)

