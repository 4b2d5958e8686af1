/-! methods of the reference: newStatement, goesOn, hold, top, truth, turn, push, look, valueOf, named, operand, rank, compared -/
theorem dX13_newStatement_0 : decode cX13_newStatement 0 = .ok (.aload_n 0, 1) := by decide +kernel
theorem dX13_newStatement_1 : decode cX13_newStatement 1 = .ok (.getfield 19, 3) := by decide +kernel
theorem dX13_newStatement_4 : decode cX13_newStatement 4 = .ok (.aload_n 0, 1) := by decide +kernel
theorem dX13_newStatement_5 : decode cX13_newStatement 5 = .ok (.getfield 306, 3) := by decide +kernel
theorem dX13_newStatement_8 : decode cX13_newStatement 8 = .ok (.baload, 1) := by decide +kernel
theorem dX13_newStatement_9 : decode cX13_newStatement 9 = .ok (.iconst 5, 1) := by decide +kernel
theorem dX13_newStatement_10 : decode cX13_newStatement 10 = .ok (.if_icmp .eq 23, 3) := by decide +kernel
theorem dX13_newStatement_13 : decode cX13_newStatement 13 = .ok (.aload_n 0, 1) := by decide +kernel
theorem dX13_newStatement_14 : decode cX13_newStatement 14 = .ok (.getfield 378, 3) := by decide +kernel
theorem dX13_newStatement_17 : decode cX13_newStatement 17 = .ok (.sipush 150, 3) := by decide +kernel
theorem dX13_newStatement_20 : decode cX13_newStatement 20 = .ok (.if_icmp .ne 13, 3) := by decide +kernel
theorem dX13_newStatement_23 : decode cX13_newStatement 23 = .ok (.aload_n 0, 1) := by decide +kernel
theorem dX13_newStatement_24 : decode cX13_newStatement 24 = .ok (.bipush 15, 2) := by decide +kernel
theorem dX13_newStatement_26 : decode cX13_newStatement 26 = .ok (.aload_n 0, 1) := by decide +kernel
theorem dX13_newStatement_27 : decode cX13_newStatement 27 = .ok (.getfield 306, 3) := by decide +kernel
theorem dX13_newStatement_30 : decode cX13_newStatement 30 = .ok (.invokevirtual 312, 3) := by decide +kernel
theorem dX13_newStatement_33 : decode cX13_newStatement 33 = .ok (.aload_n 0, 1) := by decide +kernel
theorem dX13_newStatement_34 : decode cX13_newStatement 34 = .ok (.getfield 378, 3) := by decide +kernel
theorem dX13_newStatement_37 : decode cX13_newStatement 37 = .ok (.sipush 150, 3) := by decide +kernel
theorem dX13_newStatement_40 : decode cX13_newStatement 40 = .ok (.if_icmp .ge 10, 3) := by decide +kernel
theorem dX13_newStatement_43 : decode cX13_newStatement 43 = .ok (.aload_n 0, 1) := by decide +kernel
theorem dX13_newStatement_44 : decode cX13_newStatement 44 = .ok (.getfield 378, 3) := by decide +kernel
theorem dX13_newStatement_47 : decode cX13_newStatement 47 = .ok (.goto 4, 3) := by decide +kernel
theorem dX13_newStatement_50 : decode cX13_newStatement 50 = .ok (.iconst 0, 1) := by decide +kernel
theorem dX13_newStatement_51 : decode cX13_newStatement 51 = .ok (.istore_n 2, 1) := by decide +kernel
theorem dX13_newStatement_52 : decode cX13_newStatement 52 = .ok (.aload_n 0, 1) := by decide +kernel
theorem dX13_newStatement_53 : decode cX13_newStatement 53 = .ok (.invokevirtual 325, 3) := by decide +kernel
theorem dX13_newStatement_56 : decode cX13_newStatement 56 = .ok (.ifCond .ne 5, 3) := by decide +kernel
theorem dX13_newStatement_59 : decode cX13_newStatement 59 = .ok (.iload_n 2, 1) := by decide +kernel
theorem dX13_newStatement_60 : decode cX13_newStatement 60 = .ok (.ireturn, 1) := by decide +kernel
theorem dX13_newStatement_61 : decode cX13_newStatement 61 = .ok (.aload_n 0, 1) := by decide +kernel
theorem dX13_newStatement_62 : decode cX13_newStatement 62 = .ok (.dup, 1) := by decide +kernel
theorem dX13_newStatement_63 : decode cX13_newStatement 63 = .ok (.getfield 378, 3) := by decide +kernel
theorem dX13_newStatement_66 : decode cX13_newStatement 66 = .ok (.iconst 1, 1) := by decide +kernel
theorem dX13_newStatement_67 : decode cX13_newStatement 67 = .ok (.iadd, 1) := by decide +kernel
theorem dX13_newStatement_68 : decode cX13_newStatement 68 = .ok (.putfield 378, 3) := by decide +kernel
theorem dX13_newStatement_71 : decode cX13_newStatement 71 = .ok (.aload_n 0, 1) := by decide +kernel
theorem dX13_newStatement_72 : decode cX13_newStatement 72 = .ok (.getfield 66, 3) := by decide +kernel
theorem dX13_newStatement_75 : decode cX13_newStatement 75 = .ok (.iload_n 2, 1) := by decide +kernel
theorem dX13_newStatement_76 : decode cX13_newStatement 76 = .ok (.iload_n 1, 1) := by decide +kernel
theorem dX13_newStatement_77 : decode cX13_newStatement 77 = .ok (.iastore, 1) := by decide +kernel
theorem dX13_newStatement_78 : decode cX13_newStatement 78 = .ok (.aload_n 0, 1) := by decide +kernel
theorem dX13_newStatement_79 : decode cX13_newStatement 79 = .ok (.getfield 90, 3) := by decide +kernel
theorem dX13_newStatement_82 : decode cX13_newStatement 82 = .ok (.iload_n 2, 1) := by decide +kernel
theorem dX13_newStatement_83 : decode cX13_newStatement 83 = .ok (.aload_n 0, 1) := by decide +kernel
theorem dX13_newStatement_84 : decode cX13_newStatement 84 = .ok (.getfield 346, 3) := by decide +kernel
theorem dX13_newStatement_87 : decode cX13_newStatement 87 = .ok (.iastore, 1) := by decide +kernel
theorem dX13_newStatement_88 : decode cX13_newStatement 88 = .ok (.aload_n 0, 1) := by decide +kernel
theorem dX13_newStatement_89 : decode cX13_newStatement 89 = .ok (.getfield 69, 3) := by decide +kernel
theorem dX13_newStatement_92 : decode cX13_newStatement 92 = .ok (.iload_n 2, 1) := by decide +kernel
theorem dX13_newStatement_93 : decode cX13_newStatement 93 = .ok (.aload_n 0, 1) := by decide +kernel
theorem dX13_newStatement_94 : decode cX13_newStatement 94 = .ok (.getfield 306, 3) := by decide +kernel
theorem dX13_newStatement_97 : decode cX13_newStatement 97 = .ok (.iastore, 1) := by decide +kernel
theorem dX13_newStatement_98 : decode cX13_newStatement 98 = .ok (.aload_n 0, 1) := by decide +kernel
theorem dX13_newStatement_99 : decode cX13_newStatement 99 = .ok (.getfield 72, 3) := by decide +kernel
theorem dX13_newStatement_102 : decode cX13_newStatement 102 = .ok (.iload_n 2, 1) := by decide +kernel
theorem dX13_newStatement_103 : decode cX13_newStatement 103 = .ok (.iconst (-1), 1) := by decide +kernel
theorem dX13_newStatement_104 : decode cX13_newStatement 104 = .ok (.iastore, 1) := by decide +kernel
theorem dX13_newStatement_105 : decode cX13_newStatement 105 = .ok (.aload_n 0, 1) := by decide +kernel
theorem dX13_newStatement_106 : decode cX13_newStatement 106 = .ok (.getfield 75, 3) := by decide +kernel
theorem dX13_newStatement_109 : decode cX13_newStatement 109 = .ok (.iload_n 2, 1) := by decide +kernel
theorem dX13_newStatement_110 : decode cX13_newStatement 110 = .ok (.iconst (-1), 1) := by decide +kernel
theorem dX13_newStatement_111 : decode cX13_newStatement 111 = .ok (.iastore, 1) := by decide +kernel
theorem dX13_newStatement_112 : decode cX13_newStatement 112 = .ok (.aload_n 0, 1) := by decide +kernel
theorem dX13_newStatement_113 : decode cX13_newStatement 113 = .ok (.getfield 78, 3) := by decide +kernel
theorem dX13_newStatement_116 : decode cX13_newStatement 116 = .ok (.iload_n 2, 1) := by decide +kernel
theorem dX13_newStatement_117 : decode cX13_newStatement 117 = .ok (.iconst (-1), 1) := by decide +kernel
theorem dX13_newStatement_118 : decode cX13_newStatement 118 = .ok (.iastore, 1) := by decide +kernel
theorem dX13_newStatement_119 : decode cX13_newStatement 119 = .ok (.aload_n 0, 1) := by decide +kernel
theorem dX13_newStatement_120 : decode cX13_newStatement 120 = .ok (.getfield 81, 3) := by decide +kernel
theorem dX13_newStatement_123 : decode cX13_newStatement 123 = .ok (.iload_n 2, 1) := by decide +kernel
theorem dX13_newStatement_124 : decode cX13_newStatement 124 = .ok (.iconst (-1), 1) := by decide +kernel
theorem dX13_newStatement_125 : decode cX13_newStatement 125 = .ok (.iastore, 1) := by decide +kernel
theorem dX13_newStatement_126 : decode cX13_newStatement 126 = .ok (.aload_n 0, 1) := by decide +kernel
theorem dX13_newStatement_127 : decode cX13_newStatement 127 = .ok (.getfield 375, 3) := by decide +kernel
theorem dX13_newStatement_130 : decode cX13_newStatement 130 = .ok (.iconst 1, 1) := by decide +kernel
theorem dX13_newStatement_131 : decode cX13_newStatement 131 = .ok (.isub, 1) := by decide +kernel
theorem dX13_newStatement_132 : decode cX13_newStatement 132 = .ok (.istore_n 3, 1) := by decide +kernel
theorem dX13_newStatement_133 : decode cX13_newStatement 133 = .ok (.aload_n 0, 1) := by decide +kernel
theorem dX13_newStatement_134 : decode cX13_newStatement 134 = .ok (.getfield 96, 3) := by decide +kernel
theorem dX13_newStatement_137 : decode cX13_newStatement 137 = .ok (.iload_n 3, 1) := by decide +kernel
theorem dX13_newStatement_138 : decode cX13_newStatement 138 = .ok (.iaload, 1) := by decide +kernel
theorem dX13_newStatement_139 : decode cX13_newStatement 139 = .ok (.istore 4, 2) := by decide +kernel
theorem dX13_newStatement_141 : decode cX13_newStatement 141 = .ok (.aload_n 0, 1) := by decide +kernel
theorem dX13_newStatement_142 : decode cX13_newStatement 142 = .ok (.getfield 84, 3) := by decide +kernel
theorem dX13_newStatement_145 : decode cX13_newStatement 145 = .ok (.iload_n 2, 1) := by decide +kernel
theorem dX13_newStatement_146 : decode cX13_newStatement 146 = .ok (.iload 4, 2) := by decide +kernel
theorem dX13_newStatement_148 : decode cX13_newStatement 148 = .ok (.iastore, 1) := by decide +kernel
theorem dX13_newStatement_149 : decode cX13_newStatement 149 = .ok (.aload_n 0, 1) := by decide +kernel
theorem dX13_newStatement_150 : decode cX13_newStatement 150 = .ok (.getfield 99, 3) := by decide +kernel
theorem dX13_newStatement_153 : decode cX13_newStatement 153 = .ok (.iload_n 3, 1) := by decide +kernel
theorem dX13_newStatement_154 : decode cX13_newStatement 154 = .ok (.iaload, 1) := by decide +kernel
theorem dX13_newStatement_155 : decode cX13_newStatement 155 = .ok (.iconst (-1), 1) := by decide +kernel
theorem dX13_newStatement_156 : decode cX13_newStatement 156 = .ok (.if_icmp .eq 18, 3) := by decide +kernel
theorem dX13_newStatement_159 : decode cX13_newStatement 159 = .ok (.aload_n 0, 1) := by decide +kernel
theorem dX13_newStatement_160 : decode cX13_newStatement 160 = .ok (.getfield 81, 3) := by decide +kernel
theorem dX13_newStatement_163 : decode cX13_newStatement 163 = .ok (.aload_n 0, 1) := by decide +kernel
theorem dX13_newStatement_164 : decode cX13_newStatement 164 = .ok (.getfield 99, 3) := by decide +kernel
theorem dX13_newStatement_167 : decode cX13_newStatement 167 = .ok (.iload_n 3, 1) := by decide +kernel
theorem dX13_newStatement_168 : decode cX13_newStatement 168 = .ok (.iaload, 1) := by decide +kernel
theorem dX13_newStatement_169 : decode cX13_newStatement 169 = .ok (.iload_n 2, 1) := by decide +kernel
theorem dX13_newStatement_170 : decode cX13_newStatement 170 = .ok (.iastore, 1) := by decide +kernel
theorem dX13_newStatement_171 : decode cX13_newStatement 171 = .ok (.goto 50, 3) := by decide +kernel
theorem dX13_newStatement_174 : decode cX13_newStatement 174 = .ok (.iload 4, 2) := by decide +kernel
theorem dX13_newStatement_176 : decode cX13_newStatement 176 = .ok (.iconst (-1), 1) := by decide +kernel
theorem dX13_newStatement_177 : decode cX13_newStatement 177 = .ok (.if_icmp .ne 16, 3) := by decide +kernel
theorem dX13_newStatement_180 : decode cX13_newStatement 180 = .ok (.aload_n 0, 1) := by decide +kernel
theorem dX13_newStatement_181 : decode cX13_newStatement 181 = .ok (.getfield 63, 3) := by decide +kernel
theorem dX13_newStatement_184 : decode cX13_newStatement 184 = .ok (.aload_n 0, 1) := by decide +kernel
theorem dX13_newStatement_185 : decode cX13_newStatement 185 = .ok (.getfield 346, 3) := by decide +kernel
theorem dX13_newStatement_188 : decode cX13_newStatement 188 = .ok (.iload_n 2, 1) := by decide +kernel
theorem dX13_newStatement_189 : decode cX13_newStatement 189 = .ok (.iastore, 1) := by decide +kernel
theorem dX13_newStatement_190 : decode cX13_newStatement 190 = .ok (.goto 31, 3) := by decide +kernel
theorem dX13_newStatement_193 : decode cX13_newStatement 193 = .ok (.aload_n 0, 1) := by decide +kernel
theorem dX13_newStatement_194 : decode cX13_newStatement 194 = .ok (.getfield 102, 3) := by decide +kernel
theorem dX13_newStatement_197 : decode cX13_newStatement 197 = .ok (.iload_n 3, 1) := by decide +kernel
theorem dX13_newStatement_198 : decode cX13_newStatement 198 = .ok (.baload, 1) := by decide +kernel
theorem dX13_newStatement_199 : decode cX13_newStatement 199 = .ok (.ifCond .eq 14, 3) := by decide +kernel
theorem dX13_newStatement_202 : decode cX13_newStatement 202 = .ok (.aload_n 0, 1) := by decide +kernel
theorem dX13_newStatement_203 : decode cX13_newStatement 203 = .ok (.getfield 78, 3) := by decide +kernel
theorem dX13_newStatement_206 : decode cX13_newStatement 206 = .ok (.iload 4, 2) := by decide +kernel
theorem dX13_newStatement_208 : decode cX13_newStatement 208 = .ok (.iload_n 2, 1) := by decide +kernel
theorem dX13_newStatement_209 : decode cX13_newStatement 209 = .ok (.iastore, 1) := by decide +kernel
theorem dX13_newStatement_210 : decode cX13_newStatement 210 = .ok (.goto 11, 3) := by decide +kernel
theorem dX13_newStatement_213 : decode cX13_newStatement 213 = .ok (.aload_n 0, 1) := by decide +kernel
theorem dX13_newStatement_214 : decode cX13_newStatement 214 = .ok (.getfield 75, 3) := by decide +kernel
theorem dX13_newStatement_217 : decode cX13_newStatement 217 = .ok (.iload 4, 2) := by decide +kernel
theorem dX13_newStatement_219 : decode cX13_newStatement 219 = .ok (.iload_n 2, 1) := by decide +kernel
theorem dX13_newStatement_220 : decode cX13_newStatement 220 = .ok (.iastore, 1) := by decide +kernel
theorem dX13_newStatement_221 : decode cX13_newStatement 221 = .ok (.aload_n 0, 1) := by decide +kernel
theorem dX13_newStatement_222 : decode cX13_newStatement 222 = .ok (.getfield 99, 3) := by decide +kernel
theorem dX13_newStatement_225 : decode cX13_newStatement 225 = .ok (.iload_n 3, 1) := by decide +kernel
theorem dX13_newStatement_226 : decode cX13_newStatement 226 = .ok (.iload_n 2, 1) := by decide +kernel
theorem dX13_newStatement_227 : decode cX13_newStatement 227 = .ok (.iastore, 1) := by decide +kernel
theorem dX13_newStatement_228 : decode cX13_newStatement 228 = .ok (.iload_n 2, 1) := by decide +kernel
theorem dX13_newStatement_229 : decode cX13_newStatement 229 = .ok (.ireturn, 1) := by decide +kernel
def w_newStatement_221 (C : rCx) (Q : Int32 → rS → Prop)  (a2 : Int32) (a3 : Int32) (σ : rS) : Prop :=
  inb a3 64 ∧
  ∀ σ1, σ1 = riU σ 44 (a3).toNatClampNeg a2 →
  Q a2 σ1
theorem t_newStatement_221 {C : rCx} (hC : cOK C) {Q : Int32 → rS → Prop}   {a2 : Int32} {a3 : Int32} {σ : rS} (F : w_newStatement_221 C Q  a2 a3 σ) : wG C 1 m_newStatement 221 [some (.ref (co C)), none, some (.int a2), some (.int a3), none] [] σ (qI Q) := by
  unfold w_newStatement_221 at F
  refine s_aln dX13_newStatement_221 rfl ?_
  refine gf_99 dX13_newStatement_222 rfl ?_
  refine s_iln dX13_newStatement_225 rfl ?_
  refine s_iln dX13_newStatement_226 rfl ?_
  refine s_astb hC dX13_newStatement_227 rt_44 F.1 (fun σ1 eσ1 => ?_)
  replace F := F.2 σ1 eσ1
  refine s_iln dX13_newStatement_228 rfl ?_
  exact s_ri dX13_newStatement_229 rfl in_nar F

def w_newStatement_51 (C : rCx) (Q : Int32 → rS → Prop)  (a1 : Int32) (s0 : Int32) (σ : rS) : Prop :=
  cI C 0 m_isRight [.ref (co C)] σ (fun r2 σ1 =>
    (¬ (r2 = 0) →
      ∀ σ3, σ3 = siU σ1 19 ((σ1.1 19) + (1 : Int32)) →
      inb s0 150 ∧
      ∀ σ4, σ4 = riU σ3 30 (s0).toNatClampNeg a1 →
      inb s0 150 ∧
      ∀ σ5, σ5 = riU σ4 38 (s0).toNatClampNeg (σ4.1 41) →
      inb s0 150 ∧
      ∀ σ6, σ6 = riU σ5 31 (s0).toNatClampNeg (σ5.1 10) →
      inb s0 150 ∧
      ∀ σ7, σ7 = riU σ6 32 (s0).toNatClampNeg (-1 : Int32) →
      inb s0 150 ∧
      ∀ σ8, σ8 = riU σ7 33 (s0).toNatClampNeg (-1 : Int32) →
      inb s0 150 ∧
      ∀ σ9, σ9 = riU σ8 34 (s0).toNatClampNeg (-1 : Int32) →
      inb s0 150 ∧
      ∀ σ10, σ10 = riU σ9 35 (s0).toNatClampNeg (-1 : Int32) →
      ∀ v3_11 : Int32, v3_11 = ((σ10.1 42) - (1 : Int32)) →
      inb v3_11 64 ∧
      ∀ v4_12 : Int32, v4_12 = (σ10.2.2.1 43 (v3_11).toNatClampNeg) →
      inb s0 150 ∧
      ∀ σ13, σ13 = riU σ10 36 (s0).toNatClampNeg v4_12 →
      inb v3_11 64 ∧
      ((σ13.2.2.1 44 (v3_11).toNatClampNeg) = (-1 : Int32) →
        (¬ (v4_12 = (-1 : Int32)) →
          inb v3_11 64 ∧
          ((σ13.2.2.1 45 (v3_11).toNatClampNeg) = 0 →
            inb v4_12 150 ∧
            ∀ σ14, σ14 = riU σ13 33 (v4_12).toNatClampNeg s0 →
            w_newStatement_221 C Q  s0 v3_11 σ14) ∧
          (¬ ((σ13.2.2.1 45 (v3_11).toNatClampNeg) = 0) →
            inb v4_12 150 ∧
            ∀ σ15, σ15 = riU σ13 34 (v4_12).toNatClampNeg s0 →
            w_newStatement_221 C Q  s0 v3_11 σ15)) ∧
        (v4_12 = (-1 : Int32) →
          inb (σ13.1 41) 10 ∧
          ∀ σ16, σ16 = riU σ13 29 ((σ13.1 41)).toNatClampNeg s0 →
          w_newStatement_221 C Q  s0 v3_11 σ16)) ∧
      (¬ ((σ13.2.2.1 44 (v3_11).toNatClampNeg) = (-1 : Int32)) →
        inb v3_11 64 ∧
        inb (σ13.2.2.1 44 (v3_11).toNatClampNeg) 150 ∧
        ∀ σ17, σ17 = riU σ13 35 ((σ13.2.2.1 44 (v3_11).toNatClampNeg)).toNatClampNeg s0 →
        w_newStatement_221 C Q  s0 v3_11 σ17)) ∧
    (r2 = 0 →
      Q s0 σ1))
theorem t_newStatement_51 {C : rCx} (hC : cOK C) {Q : Int32 → rS → Prop}   {a1 : Int32} {s0 : Int32} {σ : rS} (F : w_newStatement_51 C Q  a1 s0 σ) : wG C 1 m_newStatement 51 [some (.ref (co C)), some (.int a1), none, none, none] [.int s0] σ (qI Q) := by
  unfold w_newStatement_51 at F
  refine s_isn dX13_newStatement_51 (Nat.le_of_ble_eq_true rfl) rfl ?_
  refine s_aln dX13_newStatement_52 rfl ?_
  refine k_325 dX13_newStatement_53 rfl (Nat.le_of_ble_eq_true rfl) (Nat.le_of_ble_eq_true rfl) F (fun r2 σ1 F => ?_)
  refine s_in (t := 61) (r2 = 0) dX13_newStatement_56 rfl rfl (fun hc => ?_) (fun hc => ?_)
  · replace F := F.1 hc
    refine s_aln dX13_newStatement_61 rfl ?_
    refine s_dup dX13_newStatement_62 rfl ?_
    refine gf_378 dX13_newStatement_63 rfl ?_
    refine s_ic dX13_newStatement_66 ki_1 ?_
    refine s_iadd dX13_newStatement_67 ?_
    refine pf_378 hC dX13_newStatement_68 rfl (fun σ3 eσ3 => ?_)
    replace F := F σ3 eσ3
    refine s_aln dX13_newStatement_71 rfl ?_
    refine gf_66 dX13_newStatement_72 rfl ?_
    refine s_iln dX13_newStatement_75 rfl ?_
    refine s_iln dX13_newStatement_76 rfl ?_
    refine s_astb hC dX13_newStatement_77 rt_30 F.1 (fun σ4 eσ4 => ?_)
    replace F := F.2 σ4 eσ4
    refine s_aln dX13_newStatement_78 rfl ?_
    refine gf_90 dX13_newStatement_79 rfl ?_
    refine s_iln dX13_newStatement_82 rfl ?_
    refine s_aln dX13_newStatement_83 rfl ?_
    refine gf_346 dX13_newStatement_84 rfl ?_
    refine s_astb hC dX13_newStatement_87 rt_38 F.1 (fun σ5 eσ5 => ?_)
    replace F := F.2 σ5 eσ5
    refine s_aln dX13_newStatement_88 rfl ?_
    refine gf_69 dX13_newStatement_89 rfl ?_
    refine s_iln dX13_newStatement_92 rfl ?_
    refine s_aln dX13_newStatement_93 rfl ?_
    refine gf_306 dX13_newStatement_94 rfl ?_
    refine s_astb hC dX13_newStatement_97 rt_31 F.1 (fun σ6 eσ6 => ?_)
    replace F := F.2 σ6 eσ6
    refine s_aln dX13_newStatement_98 rfl ?_
    refine gf_72 dX13_newStatement_99 rfl ?_
    refine s_iln dX13_newStatement_102 rfl ?_
    refine s_ic dX13_newStatement_103 ki_m1 ?_
    refine s_astb hC dX13_newStatement_104 rt_32 F.1 (fun σ7 eσ7 => ?_)
    replace F := F.2 σ7 eσ7
    refine s_aln dX13_newStatement_105 rfl ?_
    refine gf_75 dX13_newStatement_106 rfl ?_
    refine s_iln dX13_newStatement_109 rfl ?_
    refine s_ic dX13_newStatement_110 ki_m1 ?_
    refine s_astb hC dX13_newStatement_111 rt_33 F.1 (fun σ8 eσ8 => ?_)
    replace F := F.2 σ8 eσ8
    refine s_aln dX13_newStatement_112 rfl ?_
    refine gf_78 dX13_newStatement_113 rfl ?_
    refine s_iln dX13_newStatement_116 rfl ?_
    refine s_ic dX13_newStatement_117 ki_m1 ?_
    refine s_astb hC dX13_newStatement_118 rt_34 F.1 (fun σ9 eσ9 => ?_)
    replace F := F.2 σ9 eσ9
    refine s_aln dX13_newStatement_119 rfl ?_
    refine gf_81 dX13_newStatement_120 rfl ?_
    refine s_iln dX13_newStatement_123 rfl ?_
    refine s_ic dX13_newStatement_124 ki_m1 ?_
    refine s_astb hC dX13_newStatement_125 rt_35 F.1 (fun σ10 eσ10 => ?_)
    replace F := F.2 σ10 eσ10
    refine s_aln dX13_newStatement_126 rfl ?_
    refine gf_375 dX13_newStatement_127 rfl ?_
    refine s_ic dX13_newStatement_130 ki_1 ?_
    refine s_isub dX13_newStatement_131 ?_
    refine s_isnb dX13_newStatement_132 (Nat.le_of_ble_eq_true rfl) (fun v3_11 ev3_11 => ?_)
    replace F := F v3_11 ev3_11
    refine s_aln dX13_newStatement_133 rfl ?_
    refine gf_96 dX13_newStatement_134 rfl ?_
    refine s_iln dX13_newStatement_137 rfl ?_
    refine s_ald hC dX13_newStatement_138 rt_43 F.1 ?_
    replace F := F.2
    refine s_isb dX13_newStatement_139 (Nat.le_of_ble_eq_true rfl) (fun v4_12 ev4_12 => ?_)
    replace F := F v4_12 ev4_12
    refine s_aln dX13_newStatement_141 rfl ?_
    refine gf_84 dX13_newStatement_142 rfl ?_
    refine s_iln dX13_newStatement_145 rfl ?_
    refine s_il dX13_newStatement_146 rfl ?_
    refine s_astb hC dX13_newStatement_148 rt_36 F.1 (fun σ13 eσ13 => ?_)
    replace F := F.2 σ13 eσ13
    refine s_aln dX13_newStatement_149 rfl ?_
    refine gf_99 dX13_newStatement_150 rfl ?_
    refine s_iln dX13_newStatement_153 rfl ?_
    refine s_ald hC dX13_newStatement_154 rt_44 F.1 ?_
    replace F := F.2
    refine s_ic dX13_newStatement_155 ki_m1 ?_
    refine s_ii (t := 174) ((σ13.2.2.1 44 (v3_11).toNatClampNeg) = (-1 : Int32)) dX13_newStatement_156 rfl rfl (fun hc => ?_) (fun hc => ?_)
    · replace F := F.1 hc
      refine s_il dX13_newStatement_174 rfl ?_
      refine s_ic dX13_newStatement_176 ki_m1 ?_
      refine s_iin (t := 193) (v4_12 = (-1 : Int32)) dX13_newStatement_177 rfl rfl (fun hc => ?_) (fun hc => ?_)
      · replace F := F.1 hc
        refine s_aln dX13_newStatement_193 rfl ?_
        refine gf_102 dX13_newStatement_194 rfl ?_
        refine s_iln dX13_newStatement_197 rfl ?_
        refine s_zld hC dX13_newStatement_198 rt_45 F.1 ?_
        replace F := F.2
        refine s_i (t := 213) ((σ13.2.2.1 45 (v3_11).toNatClampNeg) = 0) dX13_newStatement_199 rfl rfl (fun hc => ?_) (fun hc => ?_)
        · replace F := F.1 hc
          refine s_aln dX13_newStatement_213 rfl ?_
          refine gf_75 dX13_newStatement_214 rfl ?_
          refine s_il dX13_newStatement_217 rfl ?_
          refine s_iln dX13_newStatement_219 rfl ?_
          refine s_astb hC dX13_newStatement_220 rt_33 F.1 (fun σ14 eσ14 => ?_)
          replace F := F.2 σ14 eσ14
          exact s_k (t_newStatement_221 hC  F) ⟨rfl, rfl, rfl, trivial⟩
        · replace F := F.2 hc
          refine s_aln dX13_newStatement_202 rfl ?_
          refine gf_78 dX13_newStatement_203 rfl ?_
          refine s_il dX13_newStatement_206 rfl ?_
          refine s_iln dX13_newStatement_208 rfl ?_
          refine s_astb hC dX13_newStatement_209 rt_34 F.1 (fun σ15 eσ15 => ?_)
          replace F := F.2 σ15 eσ15
          refine s_goto (t := 221) dX13_newStatement_210 rfl ?_
          exact s_k (t_newStatement_221 hC  F) ⟨rfl, rfl, rfl, trivial⟩
      · replace F := F.2 hc
        refine s_aln dX13_newStatement_180 rfl ?_
        refine gf_63 dX13_newStatement_181 rfl ?_
        refine s_aln dX13_newStatement_184 rfl ?_
        refine gf_346 dX13_newStatement_185 rfl ?_
        refine s_iln dX13_newStatement_188 rfl ?_
        refine s_astb hC dX13_newStatement_189 rt_29 F.1 (fun σ16 eσ16 => ?_)
        replace F := F.2 σ16 eσ16
        refine s_goto (t := 221) dX13_newStatement_190 rfl ?_
        exact s_k (t_newStatement_221 hC  F) ⟨rfl, rfl, rfl, trivial⟩
    · replace F := F.2 hc
      refine s_aln dX13_newStatement_159 rfl ?_
      refine gf_81 dX13_newStatement_160 rfl ?_
      refine s_aln dX13_newStatement_163 rfl ?_
      refine gf_99 dX13_newStatement_164 rfl ?_
      refine s_iln dX13_newStatement_167 rfl ?_
      refine s_ald hC dX13_newStatement_168 rt_44 F.1 ?_
      replace F := F.2
      refine s_iln dX13_newStatement_169 rfl ?_
      refine s_astb hC dX13_newStatement_170 rt_35 F.1 (fun σ17 eσ17 => ?_)
      replace F := F.2 σ17 eσ17
      refine s_goto (t := 221) dX13_newStatement_171 rfl ?_
      exact s_k (t_newStatement_221 hC  F) ⟨rfl, rfl, rfl, trivial⟩
  · replace F := F.2 hc
    refine s_iln dX13_newStatement_59 rfl ?_
    exact s_ri dX13_newStatement_60 rfl in_nar F

def w_newStatement_33 (C : rCx) (Q : Int32 → rS → Prop)  (a1 : Int32) (σ : rS) : Prop :=
  ((150 : Int32) ≤ (σ.1 19) →
    w_newStatement_51 C Q  a1 (0 : Int32) σ) ∧
  (¬ ((150 : Int32) ≤ (σ.1 19)) →
    w_newStatement_51 C Q  a1 (σ.1 19) σ)
theorem t_newStatement_33 {C : rCx} (hC : cOK C) {Q : Int32 → rS → Prop}   {a1 : Int32} {σ : rS} (F : w_newStatement_33 C Q  a1 σ) : wG C 1 m_newStatement 33 [some (.ref (co C)), some (.int a1), none, none, none] [] σ (qI Q) := by
  unfold w_newStatement_33 at F
  refine s_aln dX13_newStatement_33 rfl ?_
  refine gf_378 dX13_newStatement_34 rfl ?_
  refine s_si dX13_newStatement_37 ks_150 ?_
  refine s_ii (t := 50) ((150 : Int32) ≤ (σ.1 19)) dX13_newStatement_40 rfl rfl (fun hc => ?_) (fun hc => ?_)
  · replace F := F.1 hc
    refine s_ic dX13_newStatement_50 ki_0 ?_
    exact s_k (t_newStatement_51 hC  F) ⟨rfl, rfl, trivial⟩
  · replace F := F.2 hc
    refine s_aln dX13_newStatement_43 rfl ?_
    refine gf_378 dX13_newStatement_44 rfl ?_
    refine s_goto (t := 51) dX13_newStatement_47 rfl ?_
    exact s_k (t_newStatement_51 hC  F) ⟨rfl, rfl, trivial⟩

def w_newStatement_0 (C : rCx) (Q : Int32 → rS → Prop)  (a1 : Int32) (σ : rS) : Prop :=
  inb (σ.1 10) 131074 ∧
  ((σ.2.2.1 5 ((σ.1 10)).toNatClampNeg) = (5 : Int32) →
    w_newStatement_33 C Q  a1 σ) ∧
  (¬ ((σ.2.2.1 5 ((σ.1 10)).toNatClampNeg) = (5 : Int32)) →
    (¬ ((σ.1 19) = (150 : Int32)) →
      w_newStatement_33 C Q  a1 σ) ∧
    ((σ.1 19) = (150 : Int32) →
      cV C 0 m_flaw [.ref (co C), .int (15 : Int32), .int (σ.1 10)] σ (fun σ1 =>
        w_newStatement_33 C Q  a1 σ1)))
theorem t_newStatement_0 {C : rCx} (hC : cOK C) {Q : Int32 → rS → Prop}   {a1 : Int32} {σ : rS} (F : w_newStatement_0 C Q  a1 σ) : wG C 1 m_newStatement 0 [some (.ref (co C)), some (.int a1), none, none, none] [] σ (qI Q) := by
  unfold w_newStatement_0 at F
  refine s_aln dX13_newStatement_0 rfl ?_
  refine gf_19 dX13_newStatement_1 rfl ?_
  refine s_aln dX13_newStatement_4 rfl ?_
  refine gf_306 dX13_newStatement_5 rfl ?_
  refine s_bld hC dX13_newStatement_8 rt_5 F.1 ?_
  replace F := F.2
  refine s_ic dX13_newStatement_9 ki_5 ?_
  refine s_ii (t := 33) ((σ.2.2.1 5 ((σ.1 10)).toNatClampNeg) = (5 : Int32)) dX13_newStatement_10 rfl rfl (fun hc => ?_) (fun hc => ?_)
  · replace F := F.1 hc
    exact s_k (t_newStatement_33 hC  F) ⟨rfl, rfl, trivial⟩
  · replace F := F.2 hc
    refine s_aln dX13_newStatement_13 rfl ?_
    refine gf_378 dX13_newStatement_14 rfl ?_
    refine s_si dX13_newStatement_17 ks_150 ?_
    refine s_iin (t := 33) ((σ.1 19) = (150 : Int32)) dX13_newStatement_20 rfl rfl (fun hc => ?_) (fun hc => ?_)
    · replace F := F.1 hc
      exact s_k (t_newStatement_33 hC  F) ⟨rfl, rfl, trivial⟩
    · replace F := F.2 hc
      refine s_aln dX13_newStatement_23 rfl ?_
      refine s_bi dX13_newStatement_24 kb_15 ?_
      refine s_aln dX13_newStatement_26 rfl ?_
      refine gf_306 dX13_newStatement_27 rfl ?_
      refine k_312 dX13_newStatement_30 rfl (Nat.le_of_ble_eq_true rfl) (Nat.le_of_ble_eq_true rfl) F (fun σ1 F => ?_)
      exact s_k (t_newStatement_33 hC  F) ⟨rfl, rfl, trivial⟩

theorem m_newStatement_run {C : rCx} (hC : cOK C) {Q : Int32 → rS → Prop} {a1 : Int32} {σ : rS} (F : w_newStatement_0 C Q a1 σ) : cI C 1 m_newStatement [.ref (co C), .int a1] σ Q := m_I (m_ent _ 3) (t_newStatement_0 hC F)

theorem dX13_goesOn_0 : decode cX13_goesOn 0 = .ok (.aload_n 0, 1) := by decide +kernel
theorem dX13_goesOn_1 : decode cX13_goesOn 1 = .ok (.invokevirtual 325, 3) := by decide +kernel
theorem dX13_goesOn_4 : decode cX13_goesOn 4 = .ok (.ifCond .eq 14, 3) := by decide +kernel
theorem dX13_goesOn_7 : decode cX13_goesOn 7 = .ok (.aload_n 0, 1) := by decide +kernel
theorem dX13_goesOn_8 : decode cX13_goesOn 8 = .ok (.getfield 428, 3) := by decide +kernel
theorem dX13_goesOn_11 : decode cX13_goesOn 11 = .ok (.ifCond .ne 7, 3) := by decide +kernel
theorem dX13_goesOn_14 : decode cX13_goesOn 14 = .ok (.iconst 1, 1) := by decide +kernel
theorem dX13_goesOn_15 : decode cX13_goesOn 15 = .ok (.goto 4, 3) := by decide +kernel
theorem dX13_goesOn_18 : decode cX13_goesOn 18 = .ok (.iconst 0, 1) := by decide +kernel
theorem dX13_goesOn_19 : decode cX13_goesOn 19 = .ok (.ireturn, 1) := by decide +kernel
def w_goesOn_0 (C : rCx) (Q : Int32 → rS → Prop)   (σ : rS) : Prop :=
  cI C 0 m_isRight [.ref (co C)] σ (fun r2 σ1 =>
    (r2 = 0 →
      Q (0 : Int32) σ1) ∧
    (¬ (r2 = 0) →
      (¬ ((σ1.1 47) = 0) →
        Q (0 : Int32) σ1) ∧
      ((σ1.1 47) = 0 →
        Q (1 : Int32) σ1)))
theorem t_goesOn_0 {C : rCx} (hC : cOK C) {Q : Int32 → rS → Prop}    {σ : rS} (F : w_goesOn_0 C Q   σ) : wG C 1 m_goesOn 0 [some (.ref (co C))] [] σ (qI Q) := by
  unfold w_goesOn_0 at F
  refine s_aln dX13_goesOn_0 rfl ?_
  refine k_325 dX13_goesOn_1 rfl (Nat.le_of_ble_eq_true rfl) (Nat.le_of_ble_eq_true rfl) F (fun r2 σ1 F => ?_)
  refine s_i (t := 18) (r2 = 0) dX13_goesOn_4 rfl rfl (fun hc => ?_) (fun hc => ?_)
  · replace F := F.1 hc
    refine s_ic dX13_goesOn_18 ki_0 ?_
    exact s_ri dX13_goesOn_19 rfl (nb_nar nb_0) F
  · replace F := F.2 hc
    refine s_aln dX13_goesOn_7 rfl ?_
    refine gf_428 dX13_goesOn_8 rfl ?_
    refine s_in (t := 18) ((σ1.1 47) = 0) dX13_goesOn_11 rfl rfl (fun hc => ?_) (fun hc => ?_)
    · replace F := F.1 hc
      refine s_ic dX13_goesOn_18 ki_0 ?_
      exact s_ri dX13_goesOn_19 rfl (nb_nar nb_0) F
    · replace F := F.2 hc
      refine s_ic dX13_goesOn_14 ki_1 ?_
      refine s_goto (t := 19) dX13_goesOn_15 rfl ?_
      exact s_ri dX13_goesOn_19 rfl (nb_nar nb_1) F

theorem m_goesOn_run {C : rCx} (hC : cOK C) {Q : Int32 → rS → Prop}  {σ : rS} (F : w_goesOn_0 C Q  σ) : cI C 1 m_goesOn [.ref (co C)] σ Q := m_I (m_ent _ 0) (t_goesOn_0 hC F)

theorem dX13_hold_0 : decode cX13_hold 0 = .ok (.aload_n 0, 1) := by decide +kernel
theorem dX13_hold_1 : decode cX13_hold 1 = .ok (.getfield 107, 3) := by decide +kernel
theorem dX13_hold_4 : decode cX13_hold 4 = .ok (.aload_n 0, 1) := by decide +kernel
theorem dX13_hold_5 : decode cX13_hold 5 = .ok (.getfield 425, 3) := by decide +kernel
theorem dX13_hold_8 : decode cX13_hold 8 = .ok (.iload_n 1, 1) := by decide +kernel
theorem dX13_hold_9 : decode cX13_hold 9 = .ok (.iastore, 1) := by decide +kernel
theorem dX13_hold_10 : decode cX13_hold 10 = .ok (.aload_n 0, 1) := by decide +kernel
theorem dX13_hold_11 : decode cX13_hold 11 = .ok (.getfield 110, 3) := by decide +kernel
theorem dX13_hold_14 : decode cX13_hold 14 = .ok (.aload_n 0, 1) := by decide +kernel
theorem dX13_hold_15 : decode cX13_hold 15 = .ok (.getfield 425, 3) := by decide +kernel
theorem dX13_hold_18 : decode cX13_hold 18 = .ok (.iload_n 2, 1) := by decide +kernel
theorem dX13_hold_19 : decode cX13_hold 19 = .ok (.iastore, 1) := by decide +kernel
theorem dX13_hold_20 : decode cX13_hold 20 = .ok (.aload_n 0, 1) := by decide +kernel
theorem dX13_hold_21 : decode cX13_hold 21 = .ok (.dup, 1) := by decide +kernel
theorem dX13_hold_22 : decode cX13_hold 22 = .ok (.getfield 425, 3) := by decide +kernel
theorem dX13_hold_25 : decode cX13_hold 25 = .ok (.iconst 1, 1) := by decide +kernel
theorem dX13_hold_26 : decode cX13_hold 26 = .ok (.iadd, 1) := by decide +kernel
theorem dX13_hold_27 : decode cX13_hold 27 = .ok (.putfield 425, 3) := by decide +kernel
theorem dX13_hold_30 : decode cX13_hold 30 = .ok (.return_, 1) := by decide +kernel
def w_hold_0 (C : rCx) (Q : rS → Prop)  (a1 : Int32) (a2 : Int32) (σ : rS) : Prop :=
  inb (σ.1 48) 66000 ∧
  ∀ σ1, σ1 = riU σ 50 ((σ.1 48)).toNatClampNeg a1 →
  inb (σ1.1 48) 66000 ∧
  ∀ σ2, σ2 = riU σ1 51 ((σ1.1 48)).toNatClampNeg a2 →
  ∀ σ3, σ3 = siU σ2 48 ((σ2.1 48) + (1 : Int32)) →
  Q σ3
theorem t_hold_0 {C : rCx} (hC : cOK C) {Q : rS → Prop}   {a1 : Int32} {a2 : Int32} {σ : rS} (F : w_hold_0 C Q  a1 a2 σ) : wG C 0 m_hold 0 [some (.ref (co C)), some (.int a1), some (.int a2)] [] σ (qV Q) := by
  unfold w_hold_0 at F
  refine s_aln dX13_hold_0 rfl ?_
  refine gf_107 dX13_hold_1 rfl ?_
  refine s_aln dX13_hold_4 rfl ?_
  refine gf_425 dX13_hold_5 rfl ?_
  refine s_iln dX13_hold_8 rfl ?_
  refine s_astb hC dX13_hold_9 rt_50 F.1 (fun σ1 eσ1 => ?_)
  replace F := F.2 σ1 eσ1
  refine s_aln dX13_hold_10 rfl ?_
  refine gf_110 dX13_hold_11 rfl ?_
  refine s_aln dX13_hold_14 rfl ?_
  refine gf_425 dX13_hold_15 rfl ?_
  refine s_iln dX13_hold_18 rfl ?_
  refine s_astb hC dX13_hold_19 rt_51 F.1 (fun σ2 eσ2 => ?_)
  replace F := F.2 σ2 eσ2
  refine s_aln dX13_hold_20 rfl ?_
  refine s_dup dX13_hold_21 rfl ?_
  refine gf_425 dX13_hold_22 rfl ?_
  refine s_ic dX13_hold_25 ki_1 ?_
  refine s_iadd dX13_hold_26 ?_
  refine pf_425 hC dX13_hold_27 rfl (fun σ3 eσ3 => ?_)
  replace F := F σ3 eσ3
  exact s_rv dX13_hold_30 rfl F

theorem m_hold_run {C : rCx} (hC : cOK C) {Q : rS → Prop} {a1 : Int32} {a2 : Int32} {σ : rS} (F : w_hold_0 C Q a1 a2 σ) : cV C 0 m_hold [.ref (co C), .int a1, .int a2] σ Q := m_V (m_ent _ 0) (t_hold_0 hC F)

theorem dX13_top_0 : decode cX13_top 0 = .ok (.aload_n 0, 1) := by decide +kernel
theorem dX13_top_1 : decode cX13_top 1 = .ok (.getfield 425, 3) := by decide +kernel
theorem dX13_top_4 : decode cX13_top 4 = .ok (.ifCond .le 17, 3) := by decide +kernel
theorem dX13_top_7 : decode cX13_top 7 = .ok (.aload_n 0, 1) := by decide +kernel
theorem dX13_top_8 : decode cX13_top 8 = .ok (.getfield 107, 3) := by decide +kernel
theorem dX13_top_11 : decode cX13_top 11 = .ok (.aload_n 0, 1) := by decide +kernel
theorem dX13_top_12 : decode cX13_top 12 = .ok (.getfield 425, 3) := by decide +kernel
theorem dX13_top_15 : decode cX13_top 15 = .ok (.iconst 1, 1) := by decide +kernel
theorem dX13_top_16 : decode cX13_top 16 = .ok (.isub, 1) := by decide +kernel
theorem dX13_top_17 : decode cX13_top 17 = .ok (.iaload, 1) := by decide +kernel
theorem dX13_top_18 : decode cX13_top 18 = .ok (.goto 4, 3) := by decide +kernel
theorem dX13_top_21 : decode cX13_top 21 = .ok (.iconst 0, 1) := by decide +kernel
theorem dX13_top_22 : decode cX13_top 22 = .ok (.ireturn, 1) := by decide +kernel
def w_top_0 (C : rCx) (Q : Int32 → rS → Prop)   (σ : rS) : Prop :=
  ((σ.1 48) ≤ 0 →
    Q (0 : Int32) σ) ∧
  (¬ ((σ.1 48) ≤ 0) →
    inb ((σ.1 48) - (1 : Int32)) 66000 ∧
    Q (σ.2.2.1 50 (((σ.1 48) - (1 : Int32))).toNatClampNeg) σ)
theorem t_top_0 {C : rCx} (hC : cOK C) {Q : Int32 → rS → Prop}    {σ : rS} (F : w_top_0 C Q   σ) : wG C 0 m_top 0 [some (.ref (co C))] [] σ (qI Q) := by
  unfold w_top_0 at F
  refine s_aln dX13_top_0 rfl ?_
  refine gf_425 dX13_top_1 rfl ?_
  refine s_i (t := 21) ((σ.1 48) ≤ 0) dX13_top_4 rfl rfl (fun hc => ?_) (fun hc => ?_)
  · replace F := F.1 hc
    refine s_ic dX13_top_21 ki_0 ?_
    exact s_ri dX13_top_22 rfl in_nar F
  · replace F := F.2 hc
    refine s_aln dX13_top_7 rfl ?_
    refine gf_107 dX13_top_8 rfl ?_
    refine s_aln dX13_top_11 rfl ?_
    refine gf_425 dX13_top_12 rfl ?_
    refine s_ic dX13_top_15 ki_1 ?_
    refine s_isub dX13_top_16 ?_
    refine s_ald hC dX13_top_17 rt_50 F.1 ?_
    replace F := F.2
    refine s_goto (t := 22) dX13_top_18 rfl ?_
    exact s_ri dX13_top_22 rfl in_nar F

theorem m_top_run {C : rCx} (hC : cOK C) {Q : Int32 → rS → Prop}  {σ : rS} (F : w_top_0 C Q  σ) : cI C 0 m_top [.ref (co C)] σ Q := m_I (m_ent _ 0) (t_top_0 hC F)

theorem dX13_truth_0 : decode cX13_truth 0 = .ok (.iload_n 0, 1) := by decide +kernel
theorem dX13_truth_1 : decode cX13_truth 1 = .ok (.ifCond .eq 7, 3) := by decide +kernel
theorem dX13_truth_4 : decode cX13_truth 4 = .ok (.iconst 1, 1) := by decide +kernel
theorem dX13_truth_5 : decode cX13_truth 5 = .ok (.goto 4, 3) := by decide +kernel
theorem dX13_truth_8 : decode cX13_truth 8 = .ok (.iconst 0, 1) := by decide +kernel
theorem dX13_truth_9 : decode cX13_truth 9 = .ok (.ireturn, 1) := by decide +kernel
def w_truth_0 (C : rCx) (Q : Int32 → rS → Prop)  (a0 : Int32) (σ : rS) : Prop :=
  (a0 = 0 →
    Q (0 : Int32) σ) ∧
  (¬ (a0 = 0) →
    Q (1 : Int32) σ)
theorem t_truth_0 {C : rCx} (hC : cOK C) {Q : Int32 → rS → Prop}   {a0 : Int32} {σ : rS} (F : w_truth_0 C Q  a0 σ) : wG C 0 m_truth 0 [some (.int a0)] [] σ (qI Q) := by
  unfold w_truth_0 at F
  refine s_iln dX13_truth_0 rfl ?_
  refine s_i (t := 8) (a0 = 0) dX13_truth_1 rfl rfl (fun hc => ?_) (fun hc => ?_)
  · replace F := F.1 hc
    refine s_ic dX13_truth_8 ki_0 ?_
    exact s_ri dX13_truth_9 rfl in_nar F
  · replace F := F.2 hc
    refine s_ic dX13_truth_4 ki_1 ?_
    refine s_goto (t := 9) dX13_truth_5 rfl ?_
    exact s_ri dX13_truth_9 rfl in_nar F

theorem m_truth_run {C : rCx} (hC : cOK C) {Q : Int32 → rS → Prop} {a0 : Int32} {σ : rS} (F : w_truth_0 C Q a0 σ) : cI C 0 m_truth [.int a0] σ Q := m_I (m_ent _ 0) (t_truth_0 hC F)

theorem dX13_turn_0 : decode cX13_turn 0 = .ok (.aload_n 0, 1) := by decide +kernel
theorem dX13_turn_1 : decode cX13_turn 1 = .ok (.invokevirtual 451, 3) := by decide +kernel
theorem dX13_turn_4 : decode cX13_turn 4 = .ok (.sipush 1000, 3) := by decide +kernel
theorem dX13_turn_7 : decode cX13_turn 7 = .ok (.if_icmp .eq 13, 3) := by decide +kernel
theorem dX13_turn_10 : decode cX13_turn 10 = .ok (.aload_n 0, 1) := by decide +kernel
theorem dX13_turn_11 : decode cX13_turn 11 = .ok (.invokevirtual 451, 3) := by decide +kernel
theorem dX13_turn_14 : decode cX13_turn 14 = .ok (.sipush 1001, 3) := by decide +kernel
theorem dX13_turn_17 : decode cX13_turn 17 = .ok (.if_icmp .ne 66, 3) := by decide +kernel
theorem dX13_turn_20 : decode cX13_turn 20 = .ok (.aload_n 0, 1) := by decide +kernel
theorem dX13_turn_21 : decode cX13_turn 21 = .ok (.getfield 113, 3) := by decide +kernel
theorem dX13_turn_24 : decode cX13_turn 24 = .ok (.aload_n 0, 1) := by decide +kernel
theorem dX13_turn_25 : decode cX13_turn 25 = .ok (.getfield 435, 3) := by decide +kernel
theorem dX13_turn_28 : decode cX13_turn 28 = .ok (.iconst 1, 1) := by decide +kernel
theorem dX13_turn_29 : decode cX13_turn 29 = .ok (.isub, 1) := by decide +kernel
theorem dX13_turn_30 : decode cX13_turn 30 = .ok (.iaload, 1) := by decide +kernel
theorem dX13_turn_31 : decode cX13_turn 31 = .ok (.istore_n 1, 1) := by decide +kernel
theorem dX13_turn_32 : decode cX13_turn 32 = .ok (.aload_n 0, 1) := by decide +kernel
theorem dX13_turn_33 : decode cX13_turn 33 = .ok (.getfield 113, 3) := by decide +kernel
theorem dX13_turn_36 : decode cX13_turn 36 = .ok (.aload_n 0, 1) := by decide +kernel
theorem dX13_turn_37 : decode cX13_turn 37 = .ok (.getfield 435, 3) := by decide +kernel
theorem dX13_turn_40 : decode cX13_turn 40 = .ok (.iconst 1, 1) := by decide +kernel
theorem dX13_turn_41 : decode cX13_turn 41 = .ok (.isub, 1) := by decide +kernel
theorem dX13_turn_42 : decode cX13_turn 42 = .ok (.aload_n 0, 1) := by decide +kernel
theorem dX13_turn_43 : decode cX13_turn 43 = .ok (.invokevirtual 451, 3) := by decide +kernel
theorem dX13_turn_46 : decode cX13_turn 46 = .ok (.sipush 1000, 3) := by decide +kernel
theorem dX13_turn_49 : decode cX13_turn 49 = .ok (.if_icmp .ne 18, 3) := by decide +kernel
theorem dX13_turn_52 : decode cX13_turn 52 = .ok (.iload_n 1, 1) := by decide +kernel
theorem dX13_turn_53 : decode cX13_turn 53 = .ok (.ifCond .ne 7, 3) := by decide +kernel
theorem dX13_turn_56 : decode cX13_turn 56 = .ok (.iconst 1, 1) := by decide +kernel
theorem dX13_turn_57 : decode cX13_turn 57 = .ok (.goto 4, 3) := by decide +kernel
theorem dX13_turn_60 : decode cX13_turn 60 = .ok (.iconst 0, 1) := by decide +kernel
theorem dX13_turn_61 : decode cX13_turn 61 = .ok (.invokestatic 431, 3) := by decide +kernel
theorem dX13_turn_64 : decode cX13_turn 64 = .ok (.goto 5, 3) := by decide +kernel
theorem dX13_turn_67 : decode cX13_turn 67 = .ok (.iload_n 1, 1) := by decide +kernel
theorem dX13_turn_68 : decode cX13_turn 68 = .ok (.ineg, 1) := by decide +kernel
theorem dX13_turn_69 : decode cX13_turn 69 = .ok (.iastore, 1) := by decide +kernel
theorem dX13_turn_70 : decode cX13_turn 70 = .ok (.aload_n 0, 1) := by decide +kernel
theorem dX13_turn_71 : decode cX13_turn 71 = .ok (.dup, 1) := by decide +kernel
theorem dX13_turn_72 : decode cX13_turn 72 = .ok (.getfield 425, 3) := by decide +kernel
theorem dX13_turn_75 : decode cX13_turn 75 = .ok (.iconst 1, 1) := by decide +kernel
theorem dX13_turn_76 : decode cX13_turn 76 = .ok (.isub, 1) := by decide +kernel
theorem dX13_turn_77 : decode cX13_turn 77 = .ok (.putfield 425, 3) := by decide +kernel
theorem dX13_turn_80 : decode cX13_turn 80 = .ok (.goto (-80), 3) := by decide +kernel
theorem dX13_turn_83 : decode cX13_turn 83 = .ok (.return_, 1) := by decide +kernel
def w_turn_69 (C : rCx) (Q : rS → Prop) (B0 : rS → Prop) (s1 : Int32) (s2 : Int32) (σ : rS) : Prop :=
  inb s1 66000 ∧
  ∀ σ1, σ1 = riU σ 52 (s1).toNatClampNeg s2 →
  ∀ σ2, σ2 = siU σ1 48 ((σ1.1 48) - (1 : Int32)) →
  B0  σ2
theorem t_turn_69 {C : rCx} (hC : cOK C) {Q : rS → Prop} {B0 : rS → Prop} (hB0 : ∀ τ, B0  τ → wG C 1 m_turn 0 [some (.ref (co C)), none] [] τ (qV Q)) {s1 : Int32} {s2 : Int32} {σ : rS} (F : w_turn_69 C Q B0 s1 s2 σ) : wG C 1 m_turn 69 [some (.ref (co C)), none] [.int s2, .int s1, .ref (cad C 52)] σ (qV Q) := by
  unfold w_turn_69 at F
  refine s_astb hC dX13_turn_69 rt_52 F.1 (fun σ1 eσ1 => ?_)
  replace F := F.2 σ1 eσ1
  refine s_aln dX13_turn_70 rfl ?_
  refine s_dup dX13_turn_71 rfl ?_
  refine gf_425 dX13_turn_72 rfl ?_
  refine s_ic dX13_turn_75 ki_1 ?_
  refine s_isub dX13_turn_76 ?_
  refine pf_425 hC dX13_turn_77 rfl (fun σ2 eσ2 => ?_)
  replace F := F σ2 eσ2
  refine s_goto (t := 0) dX13_turn_80 rfl ?_
  exact s_k (hB0  _ F) ⟨rfl, trivial⟩

def w_turn_20 (C : rCx) (Q : rS → Prop) (B0 : rS → Prop)  (σ : rS) : Prop :=
  inb ((σ.1 49) - (1 : Int32)) 66000 ∧
  ∀ v1_1 : Int32, v1_1 = (σ.2.2.1 52 (((σ.1 49) - (1 : Int32))).toNatClampNeg) →
  cI C 0 m_top [.ref (co C)] σ (fun r3 σ2 =>
    (¬ (r3 = (1000 : Int32)) →
      w_turn_69 C Q B0 ((σ.1 49) - (1 : Int32)) (-v1_1) σ2) ∧
    (r3 = (1000 : Int32) →
      (¬ (v1_1 = 0) →
        cI C 0 m_truth [.int (0 : Int32)] σ2 (fun r5 σ4 =>
          w_turn_69 C Q B0 ((σ.1 49) - (1 : Int32)) r5 σ4)) ∧
      (v1_1 = 0 →
        cI C 0 m_truth [.int (1 : Int32)] σ2 (fun r7 σ6 =>
          w_turn_69 C Q B0 ((σ.1 49) - (1 : Int32)) r7 σ6))))
theorem t_turn_20 {C : rCx} (hC : cOK C) {Q : rS → Prop} {B0 : rS → Prop} (hB0 : ∀ τ, B0  τ → wG C 1 m_turn 0 [some (.ref (co C)), none] [] τ (qV Q))  {σ : rS} (F : w_turn_20 C Q B0  σ) : wG C 1 m_turn 20 [some (.ref (co C)), none] [] σ (qV Q) := by
  unfold w_turn_20 at F
  refine s_aln dX13_turn_20 rfl ?_
  refine gf_113 dX13_turn_21 rfl ?_
  refine s_aln dX13_turn_24 rfl ?_
  refine gf_435 dX13_turn_25 rfl ?_
  refine s_ic dX13_turn_28 ki_1 ?_
  refine s_isub dX13_turn_29 ?_
  refine s_ald hC dX13_turn_30 rt_52 F.1 ?_
  replace F := F.2
  refine s_isnb dX13_turn_31 (Nat.le_of_ble_eq_true rfl) (fun v1_1 ev1_1 => ?_)
  replace F := F v1_1 ev1_1
  refine s_aln dX13_turn_32 rfl ?_
  refine gf_113 dX13_turn_33 rfl ?_
  refine s_aln dX13_turn_36 rfl ?_
  refine gf_435 dX13_turn_37 rfl ?_
  refine s_ic dX13_turn_40 ki_1 ?_
  refine s_isub dX13_turn_41 ?_
  refine s_aln dX13_turn_42 rfl ?_
  refine k_451 dX13_turn_43 rfl (Nat.le_of_ble_eq_true rfl) (Nat.le_of_ble_eq_true rfl) F (fun r3 σ2 F => ?_)
  refine s_si dX13_turn_46 ks_1000 ?_
  refine s_iin (t := 67) (r3 = (1000 : Int32)) dX13_turn_49 rfl rfl (fun hc => ?_) (fun hc => ?_)
  · replace F := F.1 hc
    refine s_iln dX13_turn_67 rfl ?_
    refine s_ineg dX13_turn_68 ?_
    exact s_k (t_turn_69 hC hB0 F) ⟨rfl, trivial⟩
  · replace F := F.2 hc
    refine s_iln dX13_turn_52 rfl ?_
    refine s_in (t := 60) (v1_1 = 0) dX13_turn_53 rfl rfl (fun hc => ?_) (fun hc => ?_)
    · replace F := F.1 hc
      refine s_ic dX13_turn_60 ki_0 ?_
      refine k_431 dX13_turn_61 rfl (Nat.le_of_ble_eq_true rfl) (Nat.le_of_ble_eq_true rfl) F (fun r5 σ4 F => ?_)
      refine s_goto (t := 69) dX13_turn_64 rfl ?_
      exact s_k (t_turn_69 hC hB0 F) ⟨rfl, trivial⟩
    · replace F := F.2 hc
      refine s_ic dX13_turn_56 ki_1 ?_
      refine s_goto (t := 61) dX13_turn_57 rfl ?_
      refine k_431 dX13_turn_61 rfl (Nat.le_of_ble_eq_true rfl) (Nat.le_of_ble_eq_true rfl) F (fun r7 σ6 F => ?_)
      refine s_goto (t := 69) dX13_turn_64 rfl ?_
      exact s_k (t_turn_69 hC hB0 F) ⟨rfl, trivial⟩

def w_turn_0 (C : rCx) (Q : rS → Prop)   (σ : rS) : Prop :=
  ∃ I : Nat → rS → Prop, (∃ n, I n  σ) ∧ ∀ n  σ, I n  σ →
    cI C 0 m_top [.ref (co C)] σ (fun r2 σ1 =>
      (r2 = (1000 : Int32) →
        w_turn_20 C Q (fun τ => ∃ k < n, I k  τ)  σ1) ∧
      (¬ (r2 = (1000 : Int32)) →
        cI C 0 m_top [.ref (co C)] σ1 (fun r4 σ3 =>
          (¬ (r4 = (1001 : Int32)) →
            Q σ3) ∧
          (r4 = (1001 : Int32) →
            w_turn_20 C Q (fun τ => ∃ k < n, I k  τ)  σ3))))
theorem t_turn_0 {C : rCx} (hC : cOK C) {Q : rS → Prop}    {σ : rS} (F : w_turn_0 C Q   σ) : wG C 1 m_turn 0 [some (.ref (co C)), none] [] σ (qV Q) := by
  obtain ⟨I, ⟨n0, hI0⟩, F0⟩ := F
  have key : ∀ n  σ, I n  σ → wG C 1 m_turn 0 [some (.ref (co C)), none] [] σ (qV Q) := by
    intro n
    induction n using Nat.strongRecOn with
    | _ n ih =>
      intro  σ hI
      have F := F0 n  σ hI
      clear hI hI0
      refine s_aln dX13_turn_0 rfl ?_
      refine k_451 dX13_turn_1 rfl (Nat.le_of_ble_eq_true rfl) (Nat.le_of_ble_eq_true rfl) F (fun r2 σ1 F => ?_)
      refine s_si dX13_turn_4 ks_1000 ?_
      refine s_ii (t := 20) (r2 = (1000 : Int32)) dX13_turn_7 rfl rfl (fun hc => ?_) (fun hc => ?_)
      · replace F := F.1 hc
        exact s_k (t_turn_20 hC (fun τ hb => by obtain ⟨k, hk, hI⟩ := hb; exact ih k hk  τ hI) F) ⟨rfl, trivial⟩
      · replace F := F.2 hc
        refine s_aln dX13_turn_10 rfl ?_
        refine k_451 dX13_turn_11 rfl (Nat.le_of_ble_eq_true rfl) (Nat.le_of_ble_eq_true rfl) F (fun r4 σ3 F => ?_)
        refine s_si dX13_turn_14 ks_1001 ?_
        refine s_iin (t := 83) (r4 = (1001 : Int32)) dX13_turn_17 rfl rfl (fun hc => ?_) (fun hc => ?_)
        · replace F := F.1 hc
          exact s_rv dX13_turn_83 rfl F
        · replace F := F.2 hc
          exact s_k (t_turn_20 hC (fun τ hb => by obtain ⟨k, hk, hI⟩ := hb; exact ih k hk  τ hI) F) ⟨rfl, trivial⟩
  exact key n0  σ hI0

theorem m_turn_run {C : rCx} (hC : cOK C) {Q : rS → Prop}  {σ : rS} (F : w_turn_0 C Q  σ) : cV C 1 m_turn [.ref (co C)] σ Q := m_V (m_ent _ 1) (t_turn_0 hC F)

theorem dX13_push_0 : decode cX13_push 0 = .ok (.aload_n 0, 1) := by decide +kernel
theorem dX13_push_1 : decode cX13_push 1 = .ok (.getfield 113, 3) := by decide +kernel
theorem dX13_push_4 : decode cX13_push 4 = .ok (.aload_n 0, 1) := by decide +kernel
theorem dX13_push_5 : decode cX13_push 5 = .ok (.getfield 435, 3) := by decide +kernel
theorem dX13_push_8 : decode cX13_push 8 = .ok (.iload_n 1, 1) := by decide +kernel
theorem dX13_push_9 : decode cX13_push 9 = .ok (.iastore, 1) := by decide +kernel
theorem dX13_push_10 : decode cX13_push 10 = .ok (.aload_n 0, 1) := by decide +kernel
theorem dX13_push_11 : decode cX13_push 11 = .ok (.dup, 1) := by decide +kernel
theorem dX13_push_12 : decode cX13_push 12 = .ok (.getfield 435, 3) := by decide +kernel
theorem dX13_push_15 : decode cX13_push 15 = .ok (.iconst 1, 1) := by decide +kernel
theorem dX13_push_16 : decode cX13_push 16 = .ok (.iadd, 1) := by decide +kernel
theorem dX13_push_17 : decode cX13_push 17 = .ok (.putfield 435, 3) := by decide +kernel
theorem dX13_push_20 : decode cX13_push 20 = .ok (.aload_n 0, 1) := by decide +kernel
theorem dX13_push_21 : decode cX13_push 21 = .ok (.invokevirtual 457, 3) := by decide +kernel
theorem dX13_push_24 : decode cX13_push 24 = .ok (.return_, 1) := by decide +kernel
def w_push_0 (C : rCx) (Q : rS → Prop)  (a1 : Int32) (σ : rS) : Prop :=
  inb (σ.1 49) 66000 ∧
  ∀ σ1, σ1 = riU σ 52 ((σ.1 49)).toNatClampNeg a1 →
  ∀ σ2, σ2 = siU σ1 49 ((σ1.1 49) + (1 : Int32)) →
  cV C 1 m_turn [.ref (co C)] σ2 (fun σ3 =>
    Q σ3)
theorem t_push_0 {C : rCx} (hC : cOK C) {Q : rS → Prop}   {a1 : Int32} {σ : rS} (F : w_push_0 C Q  a1 σ) : wG C 2 m_push 0 [some (.ref (co C)), some (.int a1)] [] σ (qV Q) := by
  unfold w_push_0 at F
  refine s_aln dX13_push_0 rfl ?_
  refine gf_113 dX13_push_1 rfl ?_
  refine s_aln dX13_push_4 rfl ?_
  refine gf_435 dX13_push_5 rfl ?_
  refine s_iln dX13_push_8 rfl ?_
  refine s_astb hC dX13_push_9 rt_52 F.1 (fun σ1 eσ1 => ?_)
  replace F := F.2 σ1 eσ1
  refine s_aln dX13_push_10 rfl ?_
  refine s_dup dX13_push_11 rfl ?_
  refine gf_435 dX13_push_12 rfl ?_
  refine s_ic dX13_push_15 ki_1 ?_
  refine s_iadd dX13_push_16 ?_
  refine pf_435 hC dX13_push_17 rfl (fun σ2 eσ2 => ?_)
  replace F := F σ2 eσ2
  refine s_aln dX13_push_20 rfl ?_
  refine k_457 dX13_push_21 rfl (Nat.le_of_ble_eq_true rfl) (Nat.le_of_ble_eq_true rfl) F (fun σ3 F => ?_)
  exact s_rv dX13_push_24 rfl F

theorem m_push_run {C : rCx} (hC : cOK C) {Q : rS → Prop} {a1 : Int32} {σ : rS} (F : w_push_0 C Q a1 σ) : cV C 2 m_push [.ref (co C), .int a1] σ Q := m_V (m_ent _ 0) (t_push_0 hC F)

theorem dX13_look_0 : decode cX13_look 0 = .ok (.iload_n 2, 1) := by decide +kernel
theorem dX13_look_1 : decode cX13_look 1 = .ok (.iconst (-1), 1) := by decide +kernel
theorem dX13_look_2 : decode cX13_look 2 = .ok (.if_icmp .ne 26, 3) := by decide +kernel
theorem dX13_look_5 : decode cX13_look 5 = .ok (.aload_n 0, 1) := by decide +kernel
theorem dX13_look_6 : decode cX13_look 6 = .ok (.getfield 300, 3) := by decide +kernel
theorem dX13_look_9 : decode cX13_look 9 = .ok (.ifCond .ne 19, 3) := by decide +kernel
theorem dX13_look_12 : decode cX13_look 12 = .ok (.aload_n 0, 1) := by decide +kernel
theorem dX13_look_13 : decode cX13_look 13 = .ok (.bipush 11, 2) := by decide +kernel
theorem dX13_look_15 : decode cX13_look 15 = .ok (.putfield 300, 3) := by decide +kernel
theorem dX13_look_18 : decode cX13_look 18 = .ok (.aload_n 0, 1) := by decide +kernel
theorem dX13_look_19 : decode cX13_look 19 = .ok (.aload_n 0, 1) := by decide +kernel
theorem dX13_look_20 : decode cX13_look 20 = .ok (.getfield 22, 3) := by decide +kernel
theorem dX13_look_23 : decode cX13_look 23 = .ok (.iload_n 1, 1) := by decide +kernel
theorem dX13_look_24 : decode cX13_look 24 = .ok (.iaload, 1) := by decide +kernel
theorem dX13_look_25 : decode cX13_look 25 = .ok (.putfield 303, 3) := by decide +kernel
theorem dX13_look_28 : decode cX13_look 28 = .ok (.aload_n 0, 1) := by decide +kernel
theorem dX13_look_29 : decode cX13_look 29 = .ok (.getfield 93, 3) := by decide +kernel
theorem dX13_look_32 : decode cX13_look 32 = .ok (.iload_n 1, 1) := by decide +kernel
theorem dX13_look_33 : decode cX13_look 33 = .ok (.iload_n 2, 1) := by decide +kernel
theorem dX13_look_34 : decode cX13_look 34 = .ok (.iastore, 1) := by decide +kernel
theorem dX13_look_35 : decode cX13_look 35 = .ok (.return_, 1) := by decide +kernel
def w_look_28 (C : rCx) (Q : rS → Prop)  (a1 : Int32) (a2 : Int32) (σ : rS) : Prop :=
  inb a1 131074 ∧
  ∀ σ1, σ1 = riU σ 39 (a1).toNatClampNeg a2 →
  Q σ1
theorem t_look_28 {C : rCx} (hC : cOK C) {Q : rS → Prop}   {a1 : Int32} {a2 : Int32} {σ : rS} (F : w_look_28 C Q  a1 a2 σ) : wG C 0 m_look 28 [some (.ref (co C)), some (.int a1), some (.int a2)] [] σ (qV Q) := by
  unfold w_look_28 at F
  refine s_aln dX13_look_28 rfl ?_
  refine gf_93 dX13_look_29 rfl ?_
  refine s_iln dX13_look_32 rfl ?_
  refine s_iln dX13_look_33 rfl ?_
  refine s_astb hC dX13_look_34 rt_39 F.1 (fun σ1 eσ1 => ?_)
  replace F := F.2 σ1 eσ1
  exact s_rv dX13_look_35 rfl F

def w_look_0 (C : rCx) (Q : rS → Prop)  (a1 : Int32) (a2 : Int32) (σ : rS) : Prop :=
  (¬ (a2 = (-1 : Int32)) →
    w_look_28 C Q  a1 a2 σ) ∧
  (a2 = (-1 : Int32) →
    (¬ ((σ.1 11) = 0) →
      w_look_28 C Q  a1 a2 σ) ∧
    ((σ.1 11) = 0 →
      ∀ σ1, σ1 = siU σ 11 (11 : Int32) →
      inb a1 131074 ∧
      ∀ σ2, σ2 = siU σ1 12 (σ1.2.2.1 6 (a1).toNatClampNeg) →
      w_look_28 C Q  a1 a2 σ2))
theorem t_look_0 {C : rCx} (hC : cOK C) {Q : rS → Prop}   {a1 : Int32} {a2 : Int32} {σ : rS} (F : w_look_0 C Q  a1 a2 σ) : wG C 0 m_look 0 [some (.ref (co C)), some (.int a1), some (.int a2)] [] σ (qV Q) := by
  unfold w_look_0 at F
  refine s_iln dX13_look_0 rfl ?_
  refine s_ic dX13_look_1 ki_m1 ?_
  refine s_iin (t := 28) (a2 = (-1 : Int32)) dX13_look_2 rfl rfl (fun hc => ?_) (fun hc => ?_)
  · replace F := F.1 hc
    exact s_k (t_look_28 hC  F) ⟨rfl, rfl, rfl, trivial⟩
  · replace F := F.2 hc
    refine s_aln dX13_look_5 rfl ?_
    refine gf_300 dX13_look_6 rfl ?_
    refine s_in (t := 28) ((σ.1 11) = 0) dX13_look_9 rfl rfl (fun hc => ?_) (fun hc => ?_)
    · replace F := F.1 hc
      exact s_k (t_look_28 hC  F) ⟨rfl, rfl, rfl, trivial⟩
    · replace F := F.2 hc
      refine s_aln dX13_look_12 rfl ?_
      refine s_bi dX13_look_13 kb_11 ?_
      refine pf_300 hC dX13_look_15 rfl (fun σ1 eσ1 => ?_)
      replace F := F σ1 eσ1
      refine s_aln dX13_look_18 rfl ?_
      refine s_aln dX13_look_19 rfl ?_
      refine gf_22 dX13_look_20 rfl ?_
      refine s_iln dX13_look_23 rfl ?_
      refine s_ald hC dX13_look_24 rt_6 F.1 ?_
      replace F := F.2
      refine pf_303 hC dX13_look_25 rfl (fun σ2 eσ2 => ?_)
      replace F := F σ2 eσ2
      exact s_k (t_look_28 hC  F) ⟨rfl, rfl, rfl, trivial⟩

theorem m_look_run {C : rCx} (hC : cOK C) {Q : rS → Prop} {a1 : Int32} {a2 : Int32} {σ : rS} (F : w_look_0 C Q a1 a2 σ) : cV C 0 m_look [.ref (co C), .int a1, .int a2] σ Q := m_V (m_ent _ 0) (t_look_0 hC F)

theorem dX13_valueOf_0 : decode cX13_valueOf 0 = .ok (.iload_n 1, 1) := by decide +kernel
theorem dX13_valueOf_1 : decode cX13_valueOf 1 = .ok (.bipush 100, 2) := by decide +kernel
theorem dX13_valueOf_3 : decode cX13_valueOf 3 = .ok (.if_icmp .ge 12, 3) := by decide +kernel
theorem dX13_valueOf_6 : decode cX13_valueOf 6 = .ok (.aload_n 0, 1) := by decide +kernel
theorem dX13_valueOf_7 : decode cX13_valueOf 7 = .ok (.getfield 122, 3) := by decide +kernel
theorem dX13_valueOf_10 : decode cX13_valueOf 10 = .ok (.iload_n 1, 1) := by decide +kernel
theorem dX13_valueOf_11 : decode cX13_valueOf 11 = .ok (.iaload, 1) := by decide +kernel
theorem dX13_valueOf_12 : decode cX13_valueOf 12 = .ok (.goto 22, 3) := by decide +kernel
theorem dX13_valueOf_15 : decode cX13_valueOf 15 = .ok (.aload_n 0, 1) := by decide +kernel
theorem dX13_valueOf_16 : decode cX13_valueOf 16 = .ok (.getfield 128, 3) := by decide +kernel
theorem dX13_valueOf_19 : decode cX13_valueOf 19 = .ok (.bipush 8, 2) := by decide +kernel
theorem dX13_valueOf_21 : decode cX13_valueOf 21 = .ok (.aload_n 0, 1) := by decide +kernel
theorem dX13_valueOf_22 : decode cX13_valueOf 22 = .ok (.getfield 551, 3) := by decide +kernel
theorem dX13_valueOf_25 : decode cX13_valueOf 25 = .ok (.iconst 1, 1) := by decide +kernel
theorem dX13_valueOf_26 : decode cX13_valueOf 26 = .ok (.isub, 1) := by decide +kernel
theorem dX13_valueOf_27 : decode cX13_valueOf 27 = .ok (.imul, 1) := by decide +kernel
theorem dX13_valueOf_28 : decode cX13_valueOf 28 = .ok (.iload_n 1, 1) := by decide +kernel
theorem dX13_valueOf_29 : decode cX13_valueOf 29 = .ok (.iadd, 1) := by decide +kernel
theorem dX13_valueOf_30 : decode cX13_valueOf 30 = .ok (.bipush 100, 2) := by decide +kernel
theorem dX13_valueOf_32 : decode cX13_valueOf 32 = .ok (.isub, 1) := by decide +kernel
theorem dX13_valueOf_33 : decode cX13_valueOf 33 = .ok (.iaload, 1) := by decide +kernel
theorem dX13_valueOf_34 : decode cX13_valueOf 34 = .ok (.ireturn, 1) := by decide +kernel
def w_valueOf_0 (C : rCx) (Q : Int32 → rS → Prop)  (a1 : Int32) (σ : rS) : Prop :=
  ((100 : Int32) ≤ a1 →
    inb ((((8 : Int32) * ((σ.1 58) - (1 : Int32))) + a1) - (100 : Int32)) 96 ∧
    Q (σ.2.2.1 60 (((((8 : Int32) * ((σ.1 58) - (1 : Int32))) + a1) - (100 : Int32))).toNatClampNeg) σ) ∧
  (¬ ((100 : Int32) ≤ a1) →
    inb a1 34 ∧
    Q (σ.2.2.1 57 (a1).toNatClampNeg) σ)
theorem t_valueOf_0 {C : rCx} (hC : cOK C) {Q : Int32 → rS → Prop}   {a1 : Int32} {σ : rS} (F : w_valueOf_0 C Q  a1 σ) : wG C 0 m_valueOf 0 [some (.ref (co C)), some (.int a1)] [] σ (qI Q) := by
  unfold w_valueOf_0 at F
  refine s_iln dX13_valueOf_0 rfl ?_
  refine s_bi dX13_valueOf_1 kb_100 ?_
  refine s_ii (t := 15) ((100 : Int32) ≤ a1) dX13_valueOf_3 rfl rfl (fun hc => ?_) (fun hc => ?_)
  · replace F := F.1 hc
    refine s_aln dX13_valueOf_15 rfl ?_
    refine gf_128 dX13_valueOf_16 rfl ?_
    refine s_bi dX13_valueOf_19 kb_8 ?_
    refine s_aln dX13_valueOf_21 rfl ?_
    refine gf_551 dX13_valueOf_22 rfl ?_
    refine s_ic dX13_valueOf_25 ki_1 ?_
    refine s_isub dX13_valueOf_26 ?_
    refine s_imul dX13_valueOf_27 ?_
    refine s_iln dX13_valueOf_28 rfl ?_
    refine s_iadd dX13_valueOf_29 ?_
    refine s_bi dX13_valueOf_30 kb_100 ?_
    refine s_isub dX13_valueOf_32 ?_
    refine s_ald hC dX13_valueOf_33 rt_60 F.1 ?_
    replace F := F.2
    exact s_ri dX13_valueOf_34 rfl in_nar F
  · replace F := F.2 hc
    refine s_aln dX13_valueOf_6 rfl ?_
    refine gf_122 dX13_valueOf_7 rfl ?_
    refine s_iln dX13_valueOf_10 rfl ?_
    refine s_ald hC dX13_valueOf_11 rt_57 F.1 ?_
    replace F := F.2
    refine s_goto (t := 34) dX13_valueOf_12 rfl ?_
    exact s_ri dX13_valueOf_34 rfl in_nar F

theorem m_valueOf_run {C : rCx} (hC : cOK C) {Q : Int32 → rS → Prop} {a1 : Int32} {σ : rS} (F : w_valueOf_0 C Q a1 σ) : cI C 0 m_valueOf [.ref (co C), .int a1] σ Q := m_I (m_ent _ 0) (t_valueOf_0 hC F)

theorem dX13_named_0 : decode cX13_named 0 = .ok (.aload_n 0, 1) := by decide +kernel
theorem dX13_named_1 : decode cX13_named 1 = .ok (.getfield 306, 3) := by decide +kernel
theorem dX13_named_4 : decode cX13_named 4 = .ok (.istore_n 1, 1) := by decide +kernel
theorem dX13_named_5 : decode cX13_named 5 = .ok (.aload_n 0, 1) := by decide +kernel
theorem dX13_named_6 : decode cX13_named 6 = .ok (.invokevirtual 319, 3) := by decide +kernel
theorem dX13_named_9 : decode cX13_named 9 = .ok (.aload_n 0, 1) := by decide +kernel
theorem dX13_named_10 : decode cX13_named 10 = .ok (.invokevirtual 325, 3) := by decide +kernel
theorem dX13_named_13 : decode cX13_named 13 = .ok (.ifCond .eq 21, 3) := by decide +kernel
theorem dX13_named_16 : decode cX13_named 16 = .ok (.aload_n 0, 1) := by decide +kernel
theorem dX13_named_17 : decode cX13_named 17 = .ok (.bipush 40, 2) := by decide +kernel
theorem dX13_named_19 : decode cX13_named 19 = .ok (.invokevirtual 316, 3) := by decide +kernel
theorem dX13_named_22 : decode cX13_named 22 = .ok (.ifCond .eq 12, 3) := by decide +kernel
theorem dX13_named_25 : decode cX13_named 25 = .ok (.aload_n 0, 1) := by decide +kernel
theorem dX13_named_26 : decode cX13_named 26 = .ok (.iconst 2, 1) := by decide +kernel
theorem dX13_named_27 : decode cX13_named 27 = .ok (.aload_n 0, 1) := by decide +kernel
theorem dX13_named_28 : decode cX13_named 28 = .ok (.getfield 306, 3) := by decide +kernel
theorem dX13_named_31 : decode cX13_named 31 = .ok (.invokevirtual 312, 3) := by decide +kernel
theorem dX13_named_34 : decode cX13_named 34 = .ok (.aload_n 0, 1) := by decide +kernel
theorem dX13_named_35 : decode cX13_named 35 = .ok (.invokevirtual 325, 3) := by decide +kernel
theorem dX13_named_38 : decode cX13_named 38 = .ok (.ifCond .ne 5, 3) := by decide +kernel
theorem dX13_named_41 : decode cX13_named 41 = .ok (.iconst 0, 1) := by decide +kernel
theorem dX13_named_42 : decode cX13_named 42 = .ok (.ireturn, 1) := by decide +kernel
theorem dX13_named_43 : decode cX13_named 43 = .ok (.aload_n 0, 1) := by decide +kernel
theorem dX13_named_44 : decode cX13_named 44 = .ok (.bipush 91, 2) := by decide +kernel
theorem dX13_named_46 : decode cX13_named 46 = .ok (.invokevirtual 316, 3) := by decide +kernel
theorem dX13_named_49 : decode cX13_named 49 = .ok (.istore_n 2, 1) := by decide +kernel
theorem dX13_named_50 : decode cX13_named 50 = .ok (.aload_n 0, 1) := by decide +kernel
theorem dX13_named_51 : decode cX13_named 51 = .ok (.getfield 438, 3) := by decide +kernel
theorem dX13_named_54 : decode cX13_named 54 = .ok (.ifCond .ne 25, 3) := by decide +kernel
theorem dX13_named_57 : decode cX13_named 57 = .ok (.aload_n 0, 1) := by decide +kernel
theorem dX13_named_58 : decode cX13_named 58 = .ok (.iload_n 1, 1) := by decide +kernel
theorem dX13_named_59 : decode cX13_named 59 = .ok (.iload_n 2, 1) := by decide +kernel
theorem dX13_named_60 : decode cX13_named 60 = .ok (.ifCond .eq 11, 3) := by decide +kernel
theorem dX13_named_63 : decode cX13_named 63 = .ok (.aload_n 0, 1) := by decide +kernel
theorem dX13_named_64 : decode cX13_named 64 = .ok (.iload_n 1, 1) := by decide +kernel
theorem dX13_named_65 : decode cX13_named 65 = .ok (.invokevirtual 410, 3) := by decide +kernel
theorem dX13_named_68 : decode cX13_named 68 = .ok (.goto 8, 3) := by decide +kernel
theorem dX13_named_71 : decode cX13_named 71 = .ok (.aload_n 0, 1) := by decide +kernel
theorem dX13_named_72 : decode cX13_named 72 = .ok (.iload_n 1, 1) := by decide +kernel
theorem dX13_named_73 : decode cX13_named 73 = .ok (.invokevirtual 413, 3) := by decide +kernel
theorem dX13_named_76 : decode cX13_named 76 = .ok (.invokevirtual 416, 3) := by decide +kernel
theorem dX13_named_79 : decode cX13_named 79 = .ok (.aload_n 0, 1) := by decide +kernel
theorem dX13_named_80 : decode cX13_named 80 = .ok (.invokevirtual 325, 3) := by decide +kernel
theorem dX13_named_83 : decode cX13_named 83 = .ok (.ifCond .ne 5, 3) := by decide +kernel
theorem dX13_named_86 : decode cX13_named 86 = .ok (.iconst 0, 1) := by decide +kernel
theorem dX13_named_87 : decode cX13_named 87 = .ok (.ireturn, 1) := by decide +kernel
theorem dX13_named_88 : decode cX13_named 88 = .ok (.iload_n 2, 1) := by decide +kernel
theorem dX13_named_89 : decode cX13_named 89 = .ok (.ifCond .eq 23, 3) := by decide +kernel
theorem dX13_named_92 : decode cX13_named 92 = .ok (.aload_n 0, 1) := by decide +kernel
theorem dX13_named_93 : decode cX13_named 93 = .ok (.bipush 91, 2) := by decide +kernel
theorem dX13_named_95 : decode cX13_named 95 = .ok (.invokevirtual 359, 3) := by decide +kernel
theorem dX13_named_98 : decode cX13_named 98 = .ok (.aload_n 0, 1) := by decide +kernel
theorem dX13_named_99 : decode cX13_named 99 = .ok (.bipush 91, 2) := by decide +kernel
theorem dX13_named_101 : decode cX13_named 101 = .ok (.aload_n 0, 1) := by decide +kernel
theorem dX13_named_102 : decode cX13_named 102 = .ok (.getfield 93, 3) := by decide +kernel
theorem dX13_named_105 : decode cX13_named 105 = .ok (.iload_n 1, 1) := by decide +kernel
theorem dX13_named_106 : decode cX13_named 106 = .ok (.iaload, 1) := by decide +kernel
theorem dX13_named_107 : decode cX13_named 107 = .ok (.invokevirtual 460, 3) := by decide +kernel
theorem dX13_named_110 : decode cX13_named 110 = .ok (.iconst 0, 1) := by decide +kernel
theorem dX13_named_111 : decode cX13_named 111 = .ok (.ireturn, 1) := by decide +kernel
theorem dX13_named_112 : decode cX13_named 112 = .ok (.aload_n 0, 1) := by decide +kernel
theorem dX13_named_113 : decode cX13_named 113 = .ok (.aload_n 0, 1) := by decide +kernel
theorem dX13_named_114 : decode cX13_named 114 = .ok (.getfield 438, 3) := by decide +kernel
theorem dX13_named_117 : decode cX13_named 117 = .ok (.ifCond .ne 7, 3) := by decide +kernel
theorem dX13_named_120 : decode cX13_named 120 = .ok (.iconst 0, 1) := by decide +kernel
theorem dX13_named_121 : decode cX13_named 121 = .ok (.goto 13, 3) := by decide +kernel
theorem dX13_named_124 : decode cX13_named 124 = .ok (.aload_n 0, 1) := by decide +kernel
theorem dX13_named_125 : decode cX13_named 125 = .ok (.aload_n 0, 1) := by decide +kernel
theorem dX13_named_126 : decode cX13_named 126 = .ok (.getfield 93, 3) := by decide +kernel
theorem dX13_named_129 : decode cX13_named 129 = .ok (.iload_n 1, 1) := by decide +kernel
theorem dX13_named_130 : decode cX13_named 130 = .ok (.iaload, 1) := by decide +kernel
theorem dX13_named_131 : decode cX13_named 131 = .ok (.invokevirtual 469, 3) := by decide +kernel
theorem dX13_named_134 : decode cX13_named 134 = .ok (.invokevirtual 463, 3) := by decide +kernel
theorem dX13_named_137 : decode cX13_named 137 = .ok (.iconst 1, 1) := by decide +kernel
theorem dX13_named_138 : decode cX13_named 138 = .ok (.ireturn, 1) := by decide +kernel
def w_named_79 (C : rCx) (Q : Int32 → rS → Prop)  (a1 : Int32) (a2 : Int32) (σ : rS) : Prop :=
  cI C 0 m_isRight [.ref (co C)] σ (fun r2 σ1 =>
    (¬ (r2 = 0) →
      (a2 = 0 →
        (¬ ((σ1.1 46) = 0) →
          inb a1 131074 ∧
          cI C 0 m_valueOf [.ref (co C), .int (σ1.2.2.1 39 (a1).toNatClampNeg)] σ1 (fun r4 σ3 =>
            cV C 2 m_push [.ref (co C), .int r4] σ3 (fun σ5 =>
              Q (1 : Int32) σ5))) ∧
        ((σ1.1 46) = 0 →
          cV C 2 m_push [.ref (co C), .int (0 : Int32)] σ1 (fun σ7 =>
            Q (1 : Int32) σ7))) ∧
      (¬ (a2 = 0) →
        cV C 3 m_open [.ref (co C), .int (91 : Int32)] σ1 (fun σ9 =>
          inb a1 131074 ∧
          cV C 0 m_hold [.ref (co C), .int (91 : Int32), .int (σ9.2.2.1 39 (a1).toNatClampNeg)] σ9 (fun σ11 =>
            Q (0 : Int32) σ11)))) ∧
    (r2 = 0 →
      Q (0 : Int32) σ1))
theorem t_named_79 {C : rCx} (hC : cOK C) {Q : Int32 → rS → Prop}   {a1 : Int32} {a2 : Int32} {σ : rS} (F : w_named_79 C Q  a1 a2 σ) : wG C 4 m_named 79 [some (.ref (co C)), some (.int a1), some (.int a2)] [] σ (qI Q) := by
  unfold w_named_79 at F
  refine s_aln dX13_named_79 rfl ?_
  refine k_325 dX13_named_80 rfl (Nat.le_of_ble_eq_true rfl) (Nat.le_of_ble_eq_true rfl) F (fun r2 σ1 F => ?_)
  refine s_in (t := 88) (r2 = 0) dX13_named_83 rfl rfl (fun hc => ?_) (fun hc => ?_)
  · replace F := F.1 hc
    refine s_iln dX13_named_88 rfl ?_
    refine s_i (t := 112) (a2 = 0) dX13_named_89 rfl rfl (fun hc => ?_) (fun hc => ?_)
    · replace F := F.1 hc
      refine s_aln dX13_named_112 rfl ?_
      refine s_aln dX13_named_113 rfl ?_
      refine gf_438 dX13_named_114 rfl ?_
      refine s_in (t := 124) ((σ1.1 46) = 0) dX13_named_117 rfl rfl (fun hc => ?_) (fun hc => ?_)
      · replace F := F.1 hc
        refine s_aln dX13_named_124 rfl ?_
        refine s_aln dX13_named_125 rfl ?_
        refine gf_93 dX13_named_126 rfl ?_
        refine s_iln dX13_named_129 rfl ?_
        refine s_ald hC dX13_named_130 rt_39 F.1 ?_
        replace F := F.2
        refine k_469 dX13_named_131 rfl (Nat.le_of_ble_eq_true rfl) (Nat.le_of_ble_eq_true rfl) F (fun r4 σ3 F => ?_)
        refine k_463 dX13_named_134 rfl (Nat.le_of_ble_eq_true rfl) (Nat.le_of_ble_eq_true rfl) F (fun σ5 F => ?_)
        refine s_ic dX13_named_137 ki_1 ?_
        exact s_ri dX13_named_138 rfl (nb_nar nb_1) F
      · replace F := F.2 hc
        refine s_ic dX13_named_120 ki_0 ?_
        refine s_goto (t := 134) dX13_named_121 rfl ?_
        refine k_463 dX13_named_134 rfl (Nat.le_of_ble_eq_true rfl) (Nat.le_of_ble_eq_true rfl) F (fun σ7 F => ?_)
        refine s_ic dX13_named_137 ki_1 ?_
        exact s_ri dX13_named_138 rfl (nb_nar nb_1) F
    · replace F := F.2 hc
      refine s_aln dX13_named_92 rfl ?_
      refine s_bi dX13_named_93 kb_91 ?_
      refine k_359 dX13_named_95 rfl (Nat.le_of_ble_eq_true rfl) (Nat.le_of_ble_eq_true rfl) F (fun σ9 F => ?_)
      refine s_aln dX13_named_98 rfl ?_
      refine s_bi dX13_named_99 kb_91 ?_
      refine s_aln dX13_named_101 rfl ?_
      refine gf_93 dX13_named_102 rfl ?_
      refine s_iln dX13_named_105 rfl ?_
      refine s_ald hC dX13_named_106 rt_39 F.1 ?_
      replace F := F.2
      refine k_460 dX13_named_107 rfl (Nat.le_of_ble_eq_true rfl) (Nat.le_of_ble_eq_true rfl) F (fun σ11 F => ?_)
      refine s_ic dX13_named_110 ki_0 ?_
      exact s_ri dX13_named_111 rfl (nb_nar nb_0) F
  · replace F := F.2 hc
    refine s_ic dX13_named_86 ki_0 ?_
    exact s_ri dX13_named_87 rfl (nb_nar nb_0) F

def w_named_34 (C : rCx) (Q : Int32 → rS → Prop)  (a1 : Int32) (σ : rS) : Prop :=
  cI C 0 m_isRight [.ref (co C)] σ (fun r2 σ1 =>
    (¬ (r2 = 0) →
      cI C 0 m_isAt [.ref (co C), .int (91 : Int32)] σ1 (fun r4 σ3 =>
        (¬ ((σ3.1 46) = 0) →
          w_named_79 C Q  a1 r4 σ3) ∧
        ((σ3.1 46) = 0 →
          (r4 = 0 →
            cI C 1 m_variableOf [.ref (co C), .int a1] σ3 (fun r6 σ5 =>
              cV C 0 m_look [.ref (co C), .int a1, .int r6] σ5 (fun σ7 =>
                w_named_79 C Q  a1 r4 σ7))) ∧
          (¬ (r4 = 0) →
            cI C 1 m_arrayOf [.ref (co C), .int a1] σ3 (fun r10 σ9 =>
              cV C 0 m_look [.ref (co C), .int a1, .int r10] σ9 (fun σ11 =>
                w_named_79 C Q  a1 r4 σ11)))))) ∧
    (r2 = 0 →
      Q (0 : Int32) σ1))
theorem t_named_34 {C : rCx} (hC : cOK C) {Q : Int32 → rS → Prop}   {a1 : Int32} {σ : rS} (F : w_named_34 C Q  a1 σ) : wG C 4 m_named 34 [some (.ref (co C)), some (.int a1), none] [] σ (qI Q) := by
  unfold w_named_34 at F
  refine s_aln dX13_named_34 rfl ?_
  refine k_325 dX13_named_35 rfl (Nat.le_of_ble_eq_true rfl) (Nat.le_of_ble_eq_true rfl) F (fun r2 σ1 F => ?_)
  refine s_in (t := 43) (r2 = 0) dX13_named_38 rfl rfl (fun hc => ?_) (fun hc => ?_)
  · replace F := F.1 hc
    refine s_aln dX13_named_43 rfl ?_
    refine s_bi dX13_named_44 kb_91 ?_
    refine k_316 dX13_named_46 rfl (Nat.le_of_ble_eq_true rfl) (Nat.le_of_ble_eq_true rfl) F (fun r4 σ3 F => ?_)
    refine s_isn dX13_named_49 (Nat.le_of_ble_eq_true rfl) rfl ?_
    refine s_aln dX13_named_50 rfl ?_
    refine gf_438 dX13_named_51 rfl ?_
    refine s_in (t := 79) ((σ3.1 46) = 0) dX13_named_54 rfl rfl (fun hc => ?_) (fun hc => ?_)
    · replace F := F.1 hc
      exact s_k (t_named_79 hC  F) ⟨rfl, rfl, rfl, trivial⟩
    · replace F := F.2 hc
      refine s_aln dX13_named_57 rfl ?_
      refine s_iln dX13_named_58 rfl ?_
      refine s_iln dX13_named_59 rfl ?_
      refine s_i (t := 71) (r4 = 0) dX13_named_60 rfl rfl (fun hc => ?_) (fun hc => ?_)
      · replace F := F.1 hc
        refine s_aln dX13_named_71 rfl ?_
        refine s_iln dX13_named_72 rfl ?_
        refine k_413 dX13_named_73 rfl (Nat.le_of_ble_eq_true rfl) (Nat.le_of_ble_eq_true rfl) F (fun r6 σ5 F => ?_)
        refine k_416 dX13_named_76 rfl (Nat.le_of_ble_eq_true rfl) (Nat.le_of_ble_eq_true rfl) F (fun σ7 F => ?_)
        exact s_k (t_named_79 hC  F) ⟨rfl, rfl, rfl, trivial⟩
      · replace F := F.2 hc
        refine s_aln dX13_named_63 rfl ?_
        refine s_iln dX13_named_64 rfl ?_
        refine k_410 dX13_named_65 rfl (Nat.le_of_ble_eq_true rfl) (Nat.le_of_ble_eq_true rfl) F (fun r10 σ9 F => ?_)
        refine s_goto (t := 76) dX13_named_68 rfl ?_
        refine k_416 dX13_named_76 rfl (Nat.le_of_ble_eq_true rfl) (Nat.le_of_ble_eq_true rfl) F (fun σ11 F => ?_)
        exact s_k (t_named_79 hC  F) ⟨rfl, rfl, rfl, trivial⟩
  · replace F := F.2 hc
    refine s_ic dX13_named_41 ki_0 ?_
    exact s_ri dX13_named_42 rfl (nb_nar nb_0) F

def w_named_0 (C : rCx) (Q : Int32 → rS → Prop)   (σ : rS) : Prop :=
  ∀ v1_1 : Int32, v1_1 = (σ.1 10) →
  cV C 2 m_go [.ref (co C)] σ (fun σ2 =>
    cI C 0 m_isRight [.ref (co C)] σ2 (fun r5 σ4 =>
      (r5 = 0 →
        w_named_34 C Q  v1_1 σ4) ∧
      (¬ (r5 = 0) →
        cI C 0 m_isAt [.ref (co C), .int (40 : Int32)] σ4 (fun r7 σ6 =>
          (r7 = 0 →
            w_named_34 C Q  v1_1 σ6) ∧
          (¬ (r7 = 0) →
            cV C 0 m_flaw [.ref (co C), .int (2 : Int32), .int (σ6.1 10)] σ6 (fun σ8 =>
              w_named_34 C Q  v1_1 σ8))))))
theorem t_named_0 {C : rCx} (hC : cOK C) {Q : Int32 → rS → Prop}    {σ : rS} (F : w_named_0 C Q   σ) : wG C 4 m_named 0 [some (.ref (co C)), none, none] [] σ (qI Q) := by
  unfold w_named_0 at F
  refine s_aln dX13_named_0 rfl ?_
  refine gf_306 dX13_named_1 rfl ?_
  refine s_isnb dX13_named_4 (Nat.le_of_ble_eq_true rfl) (fun v1_1 ev1_1 => ?_)
  replace F := F v1_1 ev1_1
  refine s_aln dX13_named_5 rfl ?_
  refine k_319 dX13_named_6 rfl (Nat.le_of_ble_eq_true rfl) (Nat.le_of_ble_eq_true rfl) F (fun σ2 F => ?_)
  refine s_aln dX13_named_9 rfl ?_
  refine k_325 dX13_named_10 rfl (Nat.le_of_ble_eq_true rfl) (Nat.le_of_ble_eq_true rfl) F (fun r5 σ4 F => ?_)
  refine s_i (t := 34) (r5 = 0) dX13_named_13 rfl rfl (fun hc => ?_) (fun hc => ?_)
  · replace F := F.1 hc
    exact s_k (t_named_34 hC  F) ⟨rfl, rfl, trivial⟩
  · replace F := F.2 hc
    refine s_aln dX13_named_16 rfl ?_
    refine s_bi dX13_named_17 kb_40 ?_
    refine k_316 dX13_named_19 rfl (Nat.le_of_ble_eq_true rfl) (Nat.le_of_ble_eq_true rfl) F (fun r7 σ6 F => ?_)
    refine s_i (t := 34) (r7 = 0) dX13_named_22 rfl rfl (fun hc => ?_) (fun hc => ?_)
    · replace F := F.1 hc
      exact s_k (t_named_34 hC  F) ⟨rfl, rfl, trivial⟩
    · replace F := F.2 hc
      refine s_aln dX13_named_25 rfl ?_
      refine s_ic dX13_named_26 ki_2 ?_
      refine s_aln dX13_named_27 rfl ?_
      refine gf_306 dX13_named_28 rfl ?_
      refine k_312 dX13_named_31 rfl (Nat.le_of_ble_eq_true rfl) (Nat.le_of_ble_eq_true rfl) F (fun σ8 F => ?_)
      exact s_k (t_named_34 hC  F) ⟨rfl, rfl, trivial⟩

theorem m_named_run {C : rCx} (hC : cOK C) {Q : Int32 → rS → Prop}  {σ : rS} (F : w_named_0 C Q  σ) : cI C 4 m_named [.ref (co C)] σ Q := m_I (m_ent _ 2) (t_named_0 hC F)

theorem dX13_operand_0 : decode cX13_operand 0 = .ok (.aload_n 0, 1) := by decide +kernel
theorem dX13_operand_1 : decode cX13_operand 1 = .ok (.bipush 33, 2) := by decide +kernel
theorem dX13_operand_3 : decode cX13_operand 3 = .ok (.invokevirtual 316, 3) := by decide +kernel
theorem dX13_operand_6 : decode cX13_operand 6 = .ok (.ifCond .ne 12, 3) := by decide +kernel
theorem dX13_operand_9 : decode cX13_operand 9 = .ok (.aload_n 0, 1) := by decide +kernel
theorem dX13_operand_10 : decode cX13_operand 10 = .ok (.bipush 45, 2) := by decide +kernel
theorem dX13_operand_12 : decode cX13_operand 12 = .ok (.invokevirtual 316, 3) := by decide +kernel
theorem dX13_operand_15 : decode cX13_operand 15 = .ok (.ifCond .eq 32, 3) := by decide +kernel
theorem dX13_operand_18 : decode cX13_operand 18 = .ok (.aload_n 0, 1) := by decide +kernel
theorem dX13_operand_19 : decode cX13_operand 19 = .ok (.aload_n 0, 1) := by decide +kernel
theorem dX13_operand_20 : decode cX13_operand 20 = .ok (.bipush 33, 2) := by decide +kernel
theorem dX13_operand_22 : decode cX13_operand 22 = .ok (.invokevirtual 316, 3) := by decide +kernel
theorem dX13_operand_25 : decode cX13_operand 25 = .ok (.ifCond .eq 9, 3) := by decide +kernel
theorem dX13_operand_28 : decode cX13_operand 28 = .ok (.sipush 1000, 3) := by decide +kernel
theorem dX13_operand_31 : decode cX13_operand 31 = .ok (.goto 6, 3) := by decide +kernel
theorem dX13_operand_34 : decode cX13_operand 34 = .ok (.sipush 1001, 3) := by decide +kernel
theorem dX13_operand_37 : decode cX13_operand 37 = .ok (.iconst 0, 1) := by decide +kernel
theorem dX13_operand_38 : decode cX13_operand 38 = .ok (.invokevirtual 460, 3) := by decide +kernel
theorem dX13_operand_41 : decode cX13_operand 41 = .ok (.aload_n 0, 1) := by decide +kernel
theorem dX13_operand_42 : decode cX13_operand 42 = .ok (.invokevirtual 319, 3) := by decide +kernel
theorem dX13_operand_45 : decode cX13_operand 45 = .ok (.iconst 0, 1) := by decide +kernel
theorem dX13_operand_46 : decode cX13_operand 46 = .ok (.ireturn, 1) := by decide +kernel
theorem dX13_operand_47 : decode cX13_operand 47 = .ok (.aload_n 0, 1) := by decide +kernel
theorem dX13_operand_48 : decode cX13_operand 48 = .ok (.bipush 40, 2) := by decide +kernel
theorem dX13_operand_50 : decode cX13_operand 50 = .ok (.invokevirtual 316, 3) := by decide +kernel
theorem dX13_operand_53 : decode cX13_operand 53 = .ok (.ifCond .eq 18, 3) := by decide +kernel
theorem dX13_operand_56 : decode cX13_operand 56 = .ok (.aload_n 0, 1) := by decide +kernel
theorem dX13_operand_57 : decode cX13_operand 57 = .ok (.bipush 40, 2) := by decide +kernel
theorem dX13_operand_59 : decode cX13_operand 59 = .ok (.invokevirtual 359, 3) := by decide +kernel
theorem dX13_operand_62 : decode cX13_operand 62 = .ok (.aload_n 0, 1) := by decide +kernel
theorem dX13_operand_63 : decode cX13_operand 63 = .ok (.bipush 40, 2) := by decide +kernel
theorem dX13_operand_65 : decode cX13_operand 65 = .ok (.iconst 0, 1) := by decide +kernel
theorem dX13_operand_66 : decode cX13_operand 66 = .ok (.invokevirtual 460, 3) := by decide +kernel
theorem dX13_operand_69 : decode cX13_operand 69 = .ok (.iconst 0, 1) := by decide +kernel
theorem dX13_operand_70 : decode cX13_operand 70 = .ok (.ireturn, 1) := by decide +kernel
theorem dX13_operand_71 : decode cX13_operand 71 = .ok (.aload_n 0, 1) := by decide +kernel
theorem dX13_operand_72 : decode cX13_operand 72 = .ok (.getfield 19, 3) := by decide +kernel
theorem dX13_operand_75 : decode cX13_operand 75 = .ok (.aload_n 0, 1) := by decide +kernel
theorem dX13_operand_76 : decode cX13_operand 76 = .ok (.getfield 306, 3) := by decide +kernel
theorem dX13_operand_79 : decode cX13_operand 79 = .ok (.baload, 1) := by decide +kernel
theorem dX13_operand_80 : decode cX13_operand 80 = .ok (.iconst 2, 1) := by decide +kernel
theorem dX13_operand_81 : decode cX13_operand 81 = .ok (.if_icmp .ne 24, 3) := by decide +kernel
theorem dX13_operand_84 : decode cX13_operand 84 = .ok (.aload_n 0, 1) := by decide +kernel
theorem dX13_operand_85 : decode cX13_operand 85 = .ok (.getfield 26, 3) := by decide +kernel
theorem dX13_operand_88 : decode cX13_operand 88 = .ok (.aload_n 0, 1) := by decide +kernel
theorem dX13_operand_89 : decode cX13_operand 89 = .ok (.getfield 306, 3) := by decide +kernel
theorem dX13_operand_92 : decode cX13_operand 92 = .ok (.iaload, 1) := by decide +kernel
theorem dX13_operand_93 : decode cX13_operand 93 = .ok (.istore_n 1, 1) := by decide +kernel
theorem dX13_operand_94 : decode cX13_operand 94 = .ok (.aload_n 0, 1) := by decide +kernel
theorem dX13_operand_95 : decode cX13_operand 95 = .ok (.invokevirtual 319, 3) := by decide +kernel
theorem dX13_operand_98 : decode cX13_operand 98 = .ok (.aload_n 0, 1) := by decide +kernel
theorem dX13_operand_99 : decode cX13_operand 99 = .ok (.iload_n 1, 1) := by decide +kernel
theorem dX13_operand_100 : decode cX13_operand 100 = .ok (.invokevirtual 463, 3) := by decide +kernel
theorem dX13_operand_103 : decode cX13_operand 103 = .ok (.iconst 1, 1) := by decide +kernel
theorem dX13_operand_104 : decode cX13_operand 104 = .ok (.ireturn, 1) := by decide +kernel
theorem dX13_operand_105 : decode cX13_operand 105 = .ok (.aload_n 0, 1) := by decide +kernel
theorem dX13_operand_106 : decode cX13_operand 106 = .ok (.getfield 19, 3) := by decide +kernel
theorem dX13_operand_109 : decode cX13_operand 109 = .ok (.aload_n 0, 1) := by decide +kernel
theorem dX13_operand_110 : decode cX13_operand 110 = .ok (.getfield 306, 3) := by decide +kernel
theorem dX13_operand_113 : decode cX13_operand 113 = .ok (.baload, 1) := by decide +kernel
theorem dX13_operand_114 : decode cX13_operand 114 = .ok (.iconst 1, 1) := by decide +kernel
theorem dX13_operand_115 : decode cX13_operand 115 = .ok (.if_icmp .eq 14, 3) := by decide +kernel
theorem dX13_operand_118 : decode cX13_operand 118 = .ok (.aload_n 0, 1) := by decide +kernel
theorem dX13_operand_119 : decode cX13_operand 119 = .ok (.iconst 2, 1) := by decide +kernel
theorem dX13_operand_120 : decode cX13_operand 120 = .ok (.aload_n 0, 1) := by decide +kernel
theorem dX13_operand_121 : decode cX13_operand 121 = .ok (.getfield 306, 3) := by decide +kernel
theorem dX13_operand_124 : decode cX13_operand 124 = .ok (.invokevirtual 312, 3) := by decide +kernel
theorem dX13_operand_127 : decode cX13_operand 127 = .ok (.iconst 0, 1) := by decide +kernel
theorem dX13_operand_128 : decode cX13_operand 128 = .ok (.ireturn, 1) := by decide +kernel
theorem dX13_operand_129 : decode cX13_operand 129 = .ok (.aload_n 0, 1) := by decide +kernel
theorem dX13_operand_130 : decode cX13_operand 130 = .ok (.invokevirtual 466, 3) := by decide +kernel
theorem dX13_operand_133 : decode cX13_operand 133 = .ok (.ireturn, 1) := by decide +kernel
def w_operand_37 (C : rCx) (Q : Int32 → rS → Prop)  (s1 : Int32) (σ : rS) : Prop :=
  cV C 0 m_hold [.ref (co C), .int s1, .int (0 : Int32)] σ (fun σ1 =>
    cV C 2 m_go [.ref (co C)] σ1 (fun σ3 =>
      Q (0 : Int32) σ3))
theorem t_operand_37 {C : rCx} (hC : cOK C) {Q : Int32 → rS → Prop}   {s1 : Int32} {σ : rS} (F : w_operand_37 C Q  s1 σ) : wG C 5 m_operand 37 [some (.ref (co C)), none] [.int s1, .ref (co C)] σ (qI Q) := by
  unfold w_operand_37 at F
  refine s_ic dX13_operand_37 ki_0 ?_
  refine k_460 dX13_operand_38 rfl (Nat.le_of_ble_eq_true rfl) (Nat.le_of_ble_eq_true rfl) F (fun σ1 F => ?_)
  refine s_aln dX13_operand_41 rfl ?_
  refine k_319 dX13_operand_42 rfl (Nat.le_of_ble_eq_true rfl) (Nat.le_of_ble_eq_true rfl) F (fun σ3 F => ?_)
  refine s_ic dX13_operand_45 ki_0 ?_
  exact s_ri dX13_operand_46 rfl (nb_nar nb_0) F

def w_operand_18 (C : rCx) (Q : Int32 → rS → Prop)   (σ : rS) : Prop :=
  cI C 0 m_isAt [.ref (co C), .int (33 : Int32)] σ (fun r2 σ1 =>
    (r2 = 0 →
      w_operand_37 C Q  (1001 : Int32) σ1) ∧
    (¬ (r2 = 0) →
      w_operand_37 C Q  (1000 : Int32) σ1))
theorem t_operand_18 {C : rCx} (hC : cOK C) {Q : Int32 → rS → Prop}    {σ : rS} (F : w_operand_18 C Q   σ) : wG C 5 m_operand 18 [some (.ref (co C)), none] [] σ (qI Q) := by
  unfold w_operand_18 at F
  refine s_aln dX13_operand_18 rfl ?_
  refine s_aln dX13_operand_19 rfl ?_
  refine s_bi dX13_operand_20 kb_33 ?_
  refine k_316 dX13_operand_22 rfl (Nat.le_of_ble_eq_true rfl) (Nat.le_of_ble_eq_true rfl) F (fun r2 σ1 F => ?_)
  refine s_i (t := 34) (r2 = 0) dX13_operand_25 rfl rfl (fun hc => ?_) (fun hc => ?_)
  · replace F := F.1 hc
    refine s_si dX13_operand_34 ks_1001 ?_
    exact s_k (t_operand_37 hC  F) ⟨rfl, trivial⟩
  · replace F := F.2 hc
    refine s_si dX13_operand_28 ks_1000 ?_
    refine s_goto (t := 37) dX13_operand_31 rfl ?_
    exact s_k (t_operand_37 hC  F) ⟨rfl, trivial⟩

def w_operand_0 (C : rCx) (Q : Int32 → rS → Prop)   (σ : rS) : Prop :=
  cI C 0 m_isAt [.ref (co C), .int (33 : Int32)] σ (fun r2 σ1 =>
    (¬ (r2 = 0) →
      w_operand_18 C Q   σ1) ∧
    (r2 = 0 →
      cI C 0 m_isAt [.ref (co C), .int (45 : Int32)] σ1 (fun r4 σ3 =>
        (r4 = 0 →
          cI C 0 m_isAt [.ref (co C), .int (40 : Int32)] σ3 (fun r6 σ5 =>
            (r6 = 0 →
              inb (σ5.1 10) 131074 ∧
              (¬ ((σ5.2.2.1 5 ((σ5.1 10)).toNatClampNeg) = (2 : Int32)) →
                inb (σ5.1 10) 131074 ∧
                ((σ5.2.2.1 5 ((σ5.1 10)).toNatClampNeg) = (1 : Int32) →
                  cI C 4 m_named [.ref (co C)] σ5 (fun r8 σ7 =>
                    nb r8 ∧ Q r8 σ7)) ∧
                (¬ ((σ5.2.2.1 5 ((σ5.1 10)).toNatClampNeg) = (1 : Int32)) →
                  cV C 0 m_flaw [.ref (co C), .int (2 : Int32), .int (σ5.1 10)] σ5 (fun σ9 =>
                    Q (0 : Int32) σ9))) ∧
              ((σ5.2.2.1 5 ((σ5.1 10)).toNatClampNeg) = (2 : Int32) →
                inb (σ5.1 10) 131074 ∧
                ∀ v1_11 : Int32, v1_11 = (σ5.2.2.1 7 ((σ5.1 10)).toNatClampNeg) →
                cV C 2 m_go [.ref (co C)] σ5 (fun σ12 =>
                  cV C 2 m_push [.ref (co C), .int v1_11] σ12 (fun σ14 =>
                    Q (1 : Int32) σ14)))) ∧
            (¬ (r6 = 0) →
              cV C 3 m_open [.ref (co C), .int (40 : Int32)] σ5 (fun σ16 =>
                cV C 0 m_hold [.ref (co C), .int (40 : Int32), .int (0 : Int32)] σ16 (fun σ18 =>
                  Q (0 : Int32) σ18))))) ∧
        (¬ (r4 = 0) →
          w_operand_18 C Q   σ3))))
theorem t_operand_0 {C : rCx} (hC : cOK C) {Q : Int32 → rS → Prop}    {σ : rS} (F : w_operand_0 C Q   σ) : wG C 5 m_operand 0 [some (.ref (co C)), none] [] σ (qI Q) := by
  unfold w_operand_0 at F
  refine s_aln dX13_operand_0 rfl ?_
  refine s_bi dX13_operand_1 kb_33 ?_
  refine k_316 dX13_operand_3 rfl (Nat.le_of_ble_eq_true rfl) (Nat.le_of_ble_eq_true rfl) F (fun r2 σ1 F => ?_)
  refine s_in (t := 18) (r2 = 0) dX13_operand_6 rfl rfl (fun hc => ?_) (fun hc => ?_)
  · replace F := F.1 hc
    exact s_k (t_operand_18 hC  F) ⟨rfl, trivial⟩
  · replace F := F.2 hc
    refine s_aln dX13_operand_9 rfl ?_
    refine s_bi dX13_operand_10 kb_45 ?_
    refine k_316 dX13_operand_12 rfl (Nat.le_of_ble_eq_true rfl) (Nat.le_of_ble_eq_true rfl) F (fun r4 σ3 F => ?_)
    refine s_i (t := 47) (r4 = 0) dX13_operand_15 rfl rfl (fun hc => ?_) (fun hc => ?_)
    · replace F := F.1 hc
      refine s_aln dX13_operand_47 rfl ?_
      refine s_bi dX13_operand_48 kb_40 ?_
      refine k_316 dX13_operand_50 rfl (Nat.le_of_ble_eq_true rfl) (Nat.le_of_ble_eq_true rfl) F (fun r6 σ5 F => ?_)
      refine s_i (t := 71) (r6 = 0) dX13_operand_53 rfl rfl (fun hc => ?_) (fun hc => ?_)
      · replace F := F.1 hc
        refine s_aln dX13_operand_71 rfl ?_
        refine gf_19 dX13_operand_72 rfl ?_
        refine s_aln dX13_operand_75 rfl ?_
        refine gf_306 dX13_operand_76 rfl ?_
        refine s_bld hC dX13_operand_79 rt_5 F.1 ?_
        replace F := F.2
        refine s_ic dX13_operand_80 ki_2 ?_
        refine s_iin (t := 105) ((σ5.2.2.1 5 ((σ5.1 10)).toNatClampNeg) = (2 : Int32)) dX13_operand_81 rfl rfl (fun hc => ?_) (fun hc => ?_)
        · replace F := F.1 hc
          refine s_aln dX13_operand_105 rfl ?_
          refine gf_19 dX13_operand_106 rfl ?_
          refine s_aln dX13_operand_109 rfl ?_
          refine gf_306 dX13_operand_110 rfl ?_
          refine s_bld hC dX13_operand_113 rt_5 F.1 ?_
          replace F := F.2
          refine s_ic dX13_operand_114 ki_1 ?_
          refine s_ii (t := 129) ((σ5.2.2.1 5 ((σ5.1 10)).toNatClampNeg) = (1 : Int32)) dX13_operand_115 rfl rfl (fun hc => ?_) (fun hc => ?_)
          · replace F := F.1 hc
            refine s_aln dX13_operand_129 rfl ?_
            refine k_466 dX13_operand_130 rfl (Nat.le_of_ble_eq_true rfl) (Nat.le_of_ble_eq_true rfl) F (fun r8 σ7 F => ?_)
            exact s_ri dX13_operand_133 rfl (nb_nar F.1) F.2
          · replace F := F.2 hc
            refine s_aln dX13_operand_118 rfl ?_
            refine s_ic dX13_operand_119 ki_2 ?_
            refine s_aln dX13_operand_120 rfl ?_
            refine gf_306 dX13_operand_121 rfl ?_
            refine k_312 dX13_operand_124 rfl (Nat.le_of_ble_eq_true rfl) (Nat.le_of_ble_eq_true rfl) F (fun σ9 F => ?_)
            refine s_ic dX13_operand_127 ki_0 ?_
            exact s_ri dX13_operand_128 rfl (nb_nar nb_0) F
        · replace F := F.2 hc
          refine s_aln dX13_operand_84 rfl ?_
          refine gf_26 dX13_operand_85 rfl ?_
          refine s_aln dX13_operand_88 rfl ?_
          refine gf_306 dX13_operand_89 rfl ?_
          refine s_ald hC dX13_operand_92 rt_7 F.1 ?_
          replace F := F.2
          refine s_isnb dX13_operand_93 (Nat.le_of_ble_eq_true rfl) (fun v1_11 ev1_11 => ?_)
          replace F := F v1_11 ev1_11
          refine s_aln dX13_operand_94 rfl ?_
          refine k_319 dX13_operand_95 rfl (Nat.le_of_ble_eq_true rfl) (Nat.le_of_ble_eq_true rfl) F (fun σ12 F => ?_)
          refine s_aln dX13_operand_98 rfl ?_
          refine s_iln dX13_operand_99 rfl ?_
          refine k_463 dX13_operand_100 rfl (Nat.le_of_ble_eq_true rfl) (Nat.le_of_ble_eq_true rfl) F (fun σ14 F => ?_)
          refine s_ic dX13_operand_103 ki_1 ?_
          exact s_ri dX13_operand_104 rfl (nb_nar nb_1) F
      · replace F := F.2 hc
        refine s_aln dX13_operand_56 rfl ?_
        refine s_bi dX13_operand_57 kb_40 ?_
        refine k_359 dX13_operand_59 rfl (Nat.le_of_ble_eq_true rfl) (Nat.le_of_ble_eq_true rfl) F (fun σ16 F => ?_)
        refine s_aln dX13_operand_62 rfl ?_
        refine s_bi dX13_operand_63 kb_40 ?_
        refine s_ic dX13_operand_65 ki_0 ?_
        refine k_460 dX13_operand_66 rfl (Nat.le_of_ble_eq_true rfl) (Nat.le_of_ble_eq_true rfl) F (fun σ18 F => ?_)
        refine s_ic dX13_operand_69 ki_0 ?_
        exact s_ri dX13_operand_70 rfl (nb_nar nb_0) F
    · replace F := F.2 hc
      exact s_k (t_operand_18 hC  F) ⟨rfl, trivial⟩

theorem m_operand_run {C : rCx} (hC : cOK C) {Q : Int32 → rS → Prop}  {σ : rS} (F : w_operand_0 C Q  σ) : cI C 5 m_operand [.ref (co C)] σ Q := m_I (m_ent _ 1) (t_operand_0 hC F)

theorem dX13_rank_0 : decode cX13_rank 0 = .ok (.iload_n 0, 1) := by decide +kernel
theorem dX13_rank_1 : decode cX13_rank 1 = .ok (.bipush 124, 2) := by decide +kernel
theorem dX13_rank_3 : decode cX13_rank 3 = .ok (.if_icmp .ne 7, 3) := by decide +kernel
theorem dX13_rank_6 : decode cX13_rank 6 = .ok (.iconst 1, 1) := by decide +kernel
theorem dX13_rank_7 : decode cX13_rank 7 = .ok (.goto 96, 3) := by decide +kernel
theorem dX13_rank_10 : decode cX13_rank 10 = .ok (.iload_n 0, 1) := by decide +kernel
theorem dX13_rank_11 : decode cX13_rank 11 = .ok (.bipush 38, 2) := by decide +kernel
theorem dX13_rank_13 : decode cX13_rank 13 = .ok (.if_icmp .ne 7, 3) := by decide +kernel
theorem dX13_rank_16 : decode cX13_rank 16 = .ok (.iconst 2, 1) := by decide +kernel
theorem dX13_rank_17 : decode cX13_rank 17 = .ok (.goto 86, 3) := by decide +kernel
theorem dX13_rank_20 : decode cX13_rank 20 = .ok (.iload_n 0, 1) := by decide +kernel
theorem dX13_rank_21 : decode cX13_rank 21 = .ok (.sipush 256, 3) := by decide +kernel
theorem dX13_rank_24 : decode cX13_rank 24 = .ok (.if_icmp .eq 36, 3) := by decide +kernel
theorem dX13_rank_27 : decode cX13_rank 27 = .ok (.iload_n 0, 1) := by decide +kernel
theorem dX13_rank_28 : decode cX13_rank 28 = .ok (.sipush 257, 3) := by decide +kernel
theorem dX13_rank_31 : decode cX13_rank 31 = .ok (.if_icmp .eq 29, 3) := by decide +kernel
theorem dX13_rank_34 : decode cX13_rank 34 = .ok (.iload_n 0, 1) := by decide +kernel
theorem dX13_rank_35 : decode cX13_rank 35 = .ok (.bipush 60, 2) := by decide +kernel
theorem dX13_rank_37 : decode cX13_rank 37 = .ok (.if_icmp .eq 23, 3) := by decide +kernel
theorem dX13_rank_40 : decode cX13_rank 40 = .ok (.iload_n 0, 1) := by decide +kernel
theorem dX13_rank_41 : decode cX13_rank 41 = .ok (.bipush 62, 2) := by decide +kernel
theorem dX13_rank_43 : decode cX13_rank 43 = .ok (.if_icmp .eq 17, 3) := by decide +kernel
theorem dX13_rank_46 : decode cX13_rank 46 = .ok (.iload_n 0, 1) := by decide +kernel
theorem dX13_rank_47 : decode cX13_rank 47 = .ok (.sipush 258, 3) := by decide +kernel
theorem dX13_rank_50 : decode cX13_rank 50 = .ok (.if_icmp .eq 10, 3) := by decide +kernel
theorem dX13_rank_53 : decode cX13_rank 53 = .ok (.iload_n 0, 1) := by decide +kernel
theorem dX13_rank_54 : decode cX13_rank 54 = .ok (.sipush 259, 3) := by decide +kernel
theorem dX13_rank_57 : decode cX13_rank 57 = .ok (.if_icmp .ne 7, 3) := by decide +kernel
theorem dX13_rank_60 : decode cX13_rank 60 = .ok (.iconst 3, 1) := by decide +kernel
theorem dX13_rank_61 : decode cX13_rank 61 = .ok (.goto 42, 3) := by decide +kernel
theorem dX13_rank_64 : decode cX13_rank 64 = .ok (.iload_n 0, 1) := by decide +kernel
theorem dX13_rank_65 : decode cX13_rank 65 = .ok (.bipush 43, 2) := by decide +kernel
theorem dX13_rank_67 : decode cX13_rank 67 = .ok (.if_icmp .eq 9, 3) := by decide +kernel
theorem dX13_rank_70 : decode cX13_rank 70 = .ok (.iload_n 0, 1) := by decide +kernel
theorem dX13_rank_71 : decode cX13_rank 71 = .ok (.bipush 45, 2) := by decide +kernel
theorem dX13_rank_73 : decode cX13_rank 73 = .ok (.if_icmp .ne 7, 3) := by decide +kernel
theorem dX13_rank_76 : decode cX13_rank 76 = .ok (.iconst 4, 1) := by decide +kernel
theorem dX13_rank_77 : decode cX13_rank 77 = .ok (.goto 26, 3) := by decide +kernel
theorem dX13_rank_80 : decode cX13_rank 80 = .ok (.iload_n 0, 1) := by decide +kernel
theorem dX13_rank_81 : decode cX13_rank 81 = .ok (.bipush 42, 2) := by decide +kernel
theorem dX13_rank_83 : decode cX13_rank 83 = .ok (.if_icmp .eq 15, 3) := by decide +kernel
theorem dX13_rank_86 : decode cX13_rank 86 = .ok (.iload_n 0, 1) := by decide +kernel
theorem dX13_rank_87 : decode cX13_rank 87 = .ok (.bipush 47, 2) := by decide +kernel
theorem dX13_rank_89 : decode cX13_rank 89 = .ok (.if_icmp .eq 9, 3) := by decide +kernel
theorem dX13_rank_92 : decode cX13_rank 92 = .ok (.iload_n 0, 1) := by decide +kernel
theorem dX13_rank_93 : decode cX13_rank 93 = .ok (.bipush 37, 2) := by decide +kernel
theorem dX13_rank_95 : decode cX13_rank 95 = .ok (.if_icmp .ne 7, 3) := by decide +kernel
theorem dX13_rank_98 : decode cX13_rank 98 = .ok (.iconst 5, 1) := by decide +kernel
theorem dX13_rank_99 : decode cX13_rank 99 = .ok (.goto 4, 3) := by decide +kernel
theorem dX13_rank_102 : decode cX13_rank 102 = .ok (.iconst 0, 1) := by decide +kernel
theorem dX13_rank_103 : decode cX13_rank 103 = .ok (.ireturn, 1) := by decide +kernel
def w_rank_0 (C : rCx) (Q : Int32 → rS → Prop)  (a0 : Int32) (σ : rS) : Prop :=
  (¬ (a0 = (124 : Int32)) →
    (¬ (a0 = (38 : Int32)) →
      (a0 = (256 : Int32) →
        Q (3 : Int32) σ) ∧
      (¬ (a0 = (256 : Int32)) →
        (a0 = (257 : Int32) →
          Q (3 : Int32) σ) ∧
        (¬ (a0 = (257 : Int32)) →
          (a0 = (60 : Int32) →
            Q (3 : Int32) σ) ∧
          (¬ (a0 = (60 : Int32)) →
            (a0 = (62 : Int32) →
              Q (3 : Int32) σ) ∧
            (¬ (a0 = (62 : Int32)) →
              (a0 = (258 : Int32) →
                Q (3 : Int32) σ) ∧
              (¬ (a0 = (258 : Int32)) →
                (¬ (a0 = (259 : Int32)) →
                  (a0 = (43 : Int32) →
                    Q (4 : Int32) σ) ∧
                  (¬ (a0 = (43 : Int32)) →
                    (¬ (a0 = (45 : Int32)) →
                      (a0 = (42 : Int32) →
                        Q (5 : Int32) σ) ∧
                      (¬ (a0 = (42 : Int32)) →
                        (a0 = (47 : Int32) →
                          Q (5 : Int32) σ) ∧
                        (¬ (a0 = (47 : Int32)) →
                          (¬ (a0 = (37 : Int32)) →
                            Q (0 : Int32) σ) ∧
                          (a0 = (37 : Int32) →
                            Q (5 : Int32) σ)))) ∧
                    (a0 = (45 : Int32) →
                      Q (4 : Int32) σ))) ∧
                (a0 = (259 : Int32) →
                  Q (3 : Int32) σ))))))) ∧
    (a0 = (38 : Int32) →
      Q (2 : Int32) σ)) ∧
  (a0 = (124 : Int32) →
    Q (1 : Int32) σ)
theorem t_rank_0 {C : rCx} (hC : cOK C) {Q : Int32 → rS → Prop}   {a0 : Int32} {σ : rS} (F : w_rank_0 C Q  a0 σ) : wG C 0 m_rank 0 [some (.int a0)] [] σ (qI Q) := by
  unfold w_rank_0 at F
  refine s_iln dX13_rank_0 rfl ?_
  refine s_bi dX13_rank_1 kb_124 ?_
  refine s_iin (t := 10) (a0 = (124 : Int32)) dX13_rank_3 rfl rfl (fun hc => ?_) (fun hc => ?_)
  · replace F := F.1 hc
    refine s_iln dX13_rank_10 rfl ?_
    refine s_bi dX13_rank_11 kb_38 ?_
    refine s_iin (t := 20) (a0 = (38 : Int32)) dX13_rank_13 rfl rfl (fun hc => ?_) (fun hc => ?_)
    · replace F := F.1 hc
      refine s_iln dX13_rank_20 rfl ?_
      refine s_si dX13_rank_21 ks_256 ?_
      refine s_ii (t := 60) (a0 = (256 : Int32)) dX13_rank_24 rfl rfl (fun hc => ?_) (fun hc => ?_)
      · replace F := F.1 hc
        refine s_ic dX13_rank_60 ki_3 ?_
        refine s_goto (t := 103) dX13_rank_61 rfl ?_
        exact s_ri dX13_rank_103 rfl in_nar F
      · replace F := F.2 hc
        refine s_iln dX13_rank_27 rfl ?_
        refine s_si dX13_rank_28 ks_257 ?_
        refine s_ii (t := 60) (a0 = (257 : Int32)) dX13_rank_31 rfl rfl (fun hc => ?_) (fun hc => ?_)
        · replace F := F.1 hc
          refine s_ic dX13_rank_60 ki_3 ?_
          refine s_goto (t := 103) dX13_rank_61 rfl ?_
          exact s_ri dX13_rank_103 rfl in_nar F
        · replace F := F.2 hc
          refine s_iln dX13_rank_34 rfl ?_
          refine s_bi dX13_rank_35 kb_60 ?_
          refine s_ii (t := 60) (a0 = (60 : Int32)) dX13_rank_37 rfl rfl (fun hc => ?_) (fun hc => ?_)
          · replace F := F.1 hc
            refine s_ic dX13_rank_60 ki_3 ?_
            refine s_goto (t := 103) dX13_rank_61 rfl ?_
            exact s_ri dX13_rank_103 rfl in_nar F
          · replace F := F.2 hc
            refine s_iln dX13_rank_40 rfl ?_
            refine s_bi dX13_rank_41 kb_62 ?_
            refine s_ii (t := 60) (a0 = (62 : Int32)) dX13_rank_43 rfl rfl (fun hc => ?_) (fun hc => ?_)
            · replace F := F.1 hc
              refine s_ic dX13_rank_60 ki_3 ?_
              refine s_goto (t := 103) dX13_rank_61 rfl ?_
              exact s_ri dX13_rank_103 rfl in_nar F
            · replace F := F.2 hc
              refine s_iln dX13_rank_46 rfl ?_
              refine s_si dX13_rank_47 ks_258 ?_
              refine s_ii (t := 60) (a0 = (258 : Int32)) dX13_rank_50 rfl rfl (fun hc => ?_) (fun hc => ?_)
              · replace F := F.1 hc
                refine s_ic dX13_rank_60 ki_3 ?_
                refine s_goto (t := 103) dX13_rank_61 rfl ?_
                exact s_ri dX13_rank_103 rfl in_nar F
              · replace F := F.2 hc
                refine s_iln dX13_rank_53 rfl ?_
                refine s_si dX13_rank_54 ks_259 ?_
                refine s_iin (t := 64) (a0 = (259 : Int32)) dX13_rank_57 rfl rfl (fun hc => ?_) (fun hc => ?_)
                · replace F := F.1 hc
                  refine s_iln dX13_rank_64 rfl ?_
                  refine s_bi dX13_rank_65 kb_43 ?_
                  refine s_ii (t := 76) (a0 = (43 : Int32)) dX13_rank_67 rfl rfl (fun hc => ?_) (fun hc => ?_)
                  · replace F := F.1 hc
                    refine s_ic dX13_rank_76 ki_4 ?_
                    refine s_goto (t := 103) dX13_rank_77 rfl ?_
                    exact s_ri dX13_rank_103 rfl in_nar F
                  · replace F := F.2 hc
                    refine s_iln dX13_rank_70 rfl ?_
                    refine s_bi dX13_rank_71 kb_45 ?_
                    refine s_iin (t := 80) (a0 = (45 : Int32)) dX13_rank_73 rfl rfl (fun hc => ?_) (fun hc => ?_)
                    · replace F := F.1 hc
                      refine s_iln dX13_rank_80 rfl ?_
                      refine s_bi dX13_rank_81 kb_42 ?_
                      refine s_ii (t := 98) (a0 = (42 : Int32)) dX13_rank_83 rfl rfl (fun hc => ?_) (fun hc => ?_)
                      · replace F := F.1 hc
                        refine s_ic dX13_rank_98 ki_5 ?_
                        refine s_goto (t := 103) dX13_rank_99 rfl ?_
                        exact s_ri dX13_rank_103 rfl in_nar F
                      · replace F := F.2 hc
                        refine s_iln dX13_rank_86 rfl ?_
                        refine s_bi dX13_rank_87 kb_47 ?_
                        refine s_ii (t := 98) (a0 = (47 : Int32)) dX13_rank_89 rfl rfl (fun hc => ?_) (fun hc => ?_)
                        · replace F := F.1 hc
                          refine s_ic dX13_rank_98 ki_5 ?_
                          refine s_goto (t := 103) dX13_rank_99 rfl ?_
                          exact s_ri dX13_rank_103 rfl in_nar F
                        · replace F := F.2 hc
                          refine s_iln dX13_rank_92 rfl ?_
                          refine s_bi dX13_rank_93 kb_37 ?_
                          refine s_iin (t := 102) (a0 = (37 : Int32)) dX13_rank_95 rfl rfl (fun hc => ?_) (fun hc => ?_)
                          · replace F := F.1 hc
                            refine s_ic dX13_rank_102 ki_0 ?_
                            exact s_ri dX13_rank_103 rfl in_nar F
                          · replace F := F.2 hc
                            refine s_ic dX13_rank_98 ki_5 ?_
                            refine s_goto (t := 103) dX13_rank_99 rfl ?_
                            exact s_ri dX13_rank_103 rfl in_nar F
                    · replace F := F.2 hc
                      refine s_ic dX13_rank_76 ki_4 ?_
                      refine s_goto (t := 103) dX13_rank_77 rfl ?_
                      exact s_ri dX13_rank_103 rfl in_nar F
                · replace F := F.2 hc
                  refine s_ic dX13_rank_60 ki_3 ?_
                  refine s_goto (t := 103) dX13_rank_61 rfl ?_
                  exact s_ri dX13_rank_103 rfl in_nar F
    · replace F := F.2 hc
      refine s_ic dX13_rank_16 ki_2 ?_
      refine s_goto (t := 103) dX13_rank_17 rfl ?_
      exact s_ri dX13_rank_103 rfl in_nar F
  · replace F := F.2 hc
    refine s_ic dX13_rank_6 ki_1 ?_
    refine s_goto (t := 103) dX13_rank_7 rfl ?_
    exact s_ri dX13_rank_103 rfl in_nar F

theorem m_rank_run {C : rCx} (hC : cOK C) {Q : Int32 → rS → Prop} {a0 : Int32} {σ : rS} (F : w_rank_0 C Q a0 σ) : cI C 0 m_rank [.int a0] σ Q := m_I (m_ent _ 0) (t_rank_0 hC F)

theorem dX13_compared_0 : decode cX13_compared 0 = .ok (.iload_n 0, 1) := by decide +kernel
theorem dX13_compared_1 : decode cX13_compared 1 = .ok (.sipush 256, 3) := by decide +kernel
theorem dX13_compared_4 : decode cX13_compared 4 = .ok (.if_icmp .ne 16, 3) := by decide +kernel
theorem dX13_compared_7 : decode cX13_compared 7 = .ok (.iload_n 1, 1) := by decide +kernel
theorem dX13_compared_8 : decode cX13_compared 8 = .ok (.iload_n 2, 1) := by decide +kernel
theorem dX13_compared_9 : decode cX13_compared 9 = .ok (.if_icmp .ne 7, 3) := by decide +kernel
theorem dX13_compared_12 : decode cX13_compared 12 = .ok (.iconst 1, 1) := by decide +kernel
theorem dX13_compared_13 : decode cX13_compared 13 = .ok (.goto 95, 3) := by decide +kernel
theorem dX13_compared_16 : decode cX13_compared 16 = .ok (.iconst 0, 1) := by decide +kernel
theorem dX13_compared_17 : decode cX13_compared 17 = .ok (.goto 91, 3) := by decide +kernel
theorem dX13_compared_20 : decode cX13_compared 20 = .ok (.iload_n 0, 1) := by decide +kernel
theorem dX13_compared_21 : decode cX13_compared 21 = .ok (.sipush 257, 3) := by decide +kernel
theorem dX13_compared_24 : decode cX13_compared 24 = .ok (.if_icmp .ne 16, 3) := by decide +kernel
theorem dX13_compared_27 : decode cX13_compared 27 = .ok (.iload_n 1, 1) := by decide +kernel
theorem dX13_compared_28 : decode cX13_compared 28 = .ok (.iload_n 2, 1) := by decide +kernel
theorem dX13_compared_29 : decode cX13_compared 29 = .ok (.if_icmp .eq 7, 3) := by decide +kernel
theorem dX13_compared_32 : decode cX13_compared 32 = .ok (.iconst 1, 1) := by decide +kernel
theorem dX13_compared_33 : decode cX13_compared 33 = .ok (.goto 75, 3) := by decide +kernel
theorem dX13_compared_36 : decode cX13_compared 36 = .ok (.iconst 0, 1) := by decide +kernel
theorem dX13_compared_37 : decode cX13_compared 37 = .ok (.goto 71, 3) := by decide +kernel
theorem dX13_compared_40 : decode cX13_compared 40 = .ok (.iload_n 0, 1) := by decide +kernel
theorem dX13_compared_41 : decode cX13_compared 41 = .ok (.bipush 60, 2) := by decide +kernel
theorem dX13_compared_43 : decode cX13_compared 43 = .ok (.if_icmp .ne 16, 3) := by decide +kernel
theorem dX13_compared_46 : decode cX13_compared 46 = .ok (.iload_n 1, 1) := by decide +kernel
theorem dX13_compared_47 : decode cX13_compared 47 = .ok (.iload_n 2, 1) := by decide +kernel
theorem dX13_compared_48 : decode cX13_compared 48 = .ok (.if_icmp .ge 7, 3) := by decide +kernel
theorem dX13_compared_51 : decode cX13_compared 51 = .ok (.iconst 1, 1) := by decide +kernel
theorem dX13_compared_52 : decode cX13_compared 52 = .ok (.goto 56, 3) := by decide +kernel
theorem dX13_compared_55 : decode cX13_compared 55 = .ok (.iconst 0, 1) := by decide +kernel
theorem dX13_compared_56 : decode cX13_compared 56 = .ok (.goto 52, 3) := by decide +kernel
theorem dX13_compared_59 : decode cX13_compared 59 = .ok (.iload_n 0, 1) := by decide +kernel
theorem dX13_compared_60 : decode cX13_compared 60 = .ok (.bipush 62, 2) := by decide +kernel
theorem dX13_compared_62 : decode cX13_compared 62 = .ok (.if_icmp .ne 16, 3) := by decide +kernel
theorem dX13_compared_65 : decode cX13_compared 65 = .ok (.iload_n 1, 1) := by decide +kernel
theorem dX13_compared_66 : decode cX13_compared 66 = .ok (.iload_n 2, 1) := by decide +kernel
theorem dX13_compared_67 : decode cX13_compared 67 = .ok (.if_icmp .le 7, 3) := by decide +kernel
theorem dX13_compared_70 : decode cX13_compared 70 = .ok (.iconst 1, 1) := by decide +kernel
theorem dX13_compared_71 : decode cX13_compared 71 = .ok (.goto 37, 3) := by decide +kernel
theorem dX13_compared_74 : decode cX13_compared 74 = .ok (.iconst 0, 1) := by decide +kernel
theorem dX13_compared_75 : decode cX13_compared 75 = .ok (.goto 33, 3) := by decide +kernel
theorem dX13_compared_78 : decode cX13_compared 78 = .ok (.iload_n 0, 1) := by decide +kernel
theorem dX13_compared_79 : decode cX13_compared 79 = .ok (.sipush 258, 3) := by decide +kernel
theorem dX13_compared_82 : decode cX13_compared 82 = .ok (.if_icmp .ne 16, 3) := by decide +kernel
theorem dX13_compared_85 : decode cX13_compared 85 = .ok (.iload_n 1, 1) := by decide +kernel
theorem dX13_compared_86 : decode cX13_compared 86 = .ok (.iload_n 2, 1) := by decide +kernel
theorem dX13_compared_87 : decode cX13_compared 87 = .ok (.if_icmp .gt 7, 3) := by decide +kernel
theorem dX13_compared_90 : decode cX13_compared 90 = .ok (.iconst 1, 1) := by decide +kernel
theorem dX13_compared_91 : decode cX13_compared 91 = .ok (.goto 17, 3) := by decide +kernel
theorem dX13_compared_94 : decode cX13_compared 94 = .ok (.iconst 0, 1) := by decide +kernel
theorem dX13_compared_95 : decode cX13_compared 95 = .ok (.goto 13, 3) := by decide +kernel
theorem dX13_compared_98 : decode cX13_compared 98 = .ok (.iload_n 1, 1) := by decide +kernel
theorem dX13_compared_99 : decode cX13_compared 99 = .ok (.iload_n 2, 1) := by decide +kernel
theorem dX13_compared_100 : decode cX13_compared 100 = .ok (.if_icmp .lt 7, 3) := by decide +kernel
theorem dX13_compared_103 : decode cX13_compared 103 = .ok (.iconst 1, 1) := by decide +kernel
theorem dX13_compared_104 : decode cX13_compared 104 = .ok (.goto 4, 3) := by decide +kernel
theorem dX13_compared_107 : decode cX13_compared 107 = .ok (.iconst 0, 1) := by decide +kernel
theorem dX13_compared_108 : decode cX13_compared 108 = .ok (.invokestatic 431, 3) := by decide +kernel
theorem dX13_compared_111 : decode cX13_compared 111 = .ok (.ireturn, 1) := by decide +kernel
def w_compared_0 (C : rCx) (Q : Int32 → rS → Prop)  (a0 : Int32) (a1 : Int32) (a2 : Int32) (σ : rS) : Prop :=
  (¬ (a0 = (256 : Int32)) →
    (¬ (a0 = (257 : Int32)) →
      (¬ (a0 = (60 : Int32)) →
        (¬ (a0 = (62 : Int32)) →
          (¬ (a0 = (258 : Int32)) →
            (a1 < a2 →
              cI C 0 m_truth [.int (0 : Int32)] σ (fun r2 σ1 =>
                Q r2 σ1)) ∧
            (¬ (a1 < a2) →
              cI C 0 m_truth [.int (1 : Int32)] σ (fun r4 σ3 =>
                Q r4 σ3))) ∧
          (a0 = (258 : Int32) →
            (a2 < a1 →
              cI C 0 m_truth [.int (0 : Int32)] σ (fun r6 σ5 =>
                Q r6 σ5)) ∧
            (¬ (a2 < a1) →
              cI C 0 m_truth [.int (1 : Int32)] σ (fun r8 σ7 =>
                Q r8 σ7)))) ∧
        (a0 = (62 : Int32) →
          (a1 ≤ a2 →
            cI C 0 m_truth [.int (0 : Int32)] σ (fun r10 σ9 =>
              Q r10 σ9)) ∧
          (¬ (a1 ≤ a2) →
            cI C 0 m_truth [.int (1 : Int32)] σ (fun r12 σ11 =>
              Q r12 σ11)))) ∧
      (a0 = (60 : Int32) →
        (a2 ≤ a1 →
          cI C 0 m_truth [.int (0 : Int32)] σ (fun r14 σ13 =>
            Q r14 σ13)) ∧
        (¬ (a2 ≤ a1) →
          cI C 0 m_truth [.int (1 : Int32)] σ (fun r16 σ15 =>
            Q r16 σ15)))) ∧
    (a0 = (257 : Int32) →
      (a1 = a2 →
        cI C 0 m_truth [.int (0 : Int32)] σ (fun r18 σ17 =>
          Q r18 σ17)) ∧
      (¬ (a1 = a2) →
        cI C 0 m_truth [.int (1 : Int32)] σ (fun r20 σ19 =>
          Q r20 σ19)))) ∧
  (a0 = (256 : Int32) →
    (¬ (a1 = a2) →
      cI C 0 m_truth [.int (0 : Int32)] σ (fun r22 σ21 =>
        Q r22 σ21)) ∧
    (a1 = a2 →
      cI C 0 m_truth [.int (1 : Int32)] σ (fun r24 σ23 =>
        Q r24 σ23)))
theorem t_compared_0 {C : rCx} (hC : cOK C) {Q : Int32 → rS → Prop}   {a0 : Int32} {a1 : Int32} {a2 : Int32} {σ : rS} (F : w_compared_0 C Q  a0 a1 a2 σ) : wG C 1 m_compared 0 [some (.int a0), some (.int a1), some (.int a2)] [] σ (qI Q) := by
  unfold w_compared_0 at F
  refine s_iln dX13_compared_0 rfl ?_
  refine s_si dX13_compared_1 ks_256 ?_
  refine s_iin (t := 20) (a0 = (256 : Int32)) dX13_compared_4 rfl rfl (fun hc => ?_) (fun hc => ?_)
  · replace F := F.1 hc
    refine s_iln dX13_compared_20 rfl ?_
    refine s_si dX13_compared_21 ks_257 ?_
    refine s_iin (t := 40) (a0 = (257 : Int32)) dX13_compared_24 rfl rfl (fun hc => ?_) (fun hc => ?_)
    · replace F := F.1 hc
      refine s_iln dX13_compared_40 rfl ?_
      refine s_bi dX13_compared_41 kb_60 ?_
      refine s_iin (t := 59) (a0 = (60 : Int32)) dX13_compared_43 rfl rfl (fun hc => ?_) (fun hc => ?_)
      · replace F := F.1 hc
        refine s_iln dX13_compared_59 rfl ?_
        refine s_bi dX13_compared_60 kb_62 ?_
        refine s_iin (t := 78) (a0 = (62 : Int32)) dX13_compared_62 rfl rfl (fun hc => ?_) (fun hc => ?_)
        · replace F := F.1 hc
          refine s_iln dX13_compared_78 rfl ?_
          refine s_si dX13_compared_79 ks_258 ?_
          refine s_iin (t := 98) (a0 = (258 : Int32)) dX13_compared_82 rfl rfl (fun hc => ?_) (fun hc => ?_)
          · replace F := F.1 hc
            refine s_iln dX13_compared_98 rfl ?_
            refine s_iln dX13_compared_99 rfl ?_
            refine s_ii (t := 107) (a1 < a2) dX13_compared_100 rfl rfl (fun hc => ?_) (fun hc => ?_)
            · replace F := F.1 hc
              refine s_ic dX13_compared_107 ki_0 ?_
              refine k_431 dX13_compared_108 rfl (Nat.le_of_ble_eq_true rfl) (Nat.le_of_ble_eq_true rfl) F (fun r2 σ1 F => ?_)
              exact s_ri dX13_compared_111 rfl in_nar F
            · replace F := F.2 hc
              refine s_ic dX13_compared_103 ki_1 ?_
              refine s_goto (t := 108) dX13_compared_104 rfl ?_
              refine k_431 dX13_compared_108 rfl (Nat.le_of_ble_eq_true rfl) (Nat.le_of_ble_eq_true rfl) F (fun r4 σ3 F => ?_)
              exact s_ri dX13_compared_111 rfl in_nar F
          · replace F := F.2 hc
            refine s_iln dX13_compared_85 rfl ?_
            refine s_iln dX13_compared_86 rfl ?_
            refine s_ii (t := 94) (a2 < a1) dX13_compared_87 rfl rfl (fun hc => ?_) (fun hc => ?_)
            · replace F := F.1 hc
              refine s_ic dX13_compared_94 ki_0 ?_
              refine s_goto (t := 108) dX13_compared_95 rfl ?_
              refine k_431 dX13_compared_108 rfl (Nat.le_of_ble_eq_true rfl) (Nat.le_of_ble_eq_true rfl) F (fun r6 σ5 F => ?_)
              exact s_ri dX13_compared_111 rfl in_nar F
            · replace F := F.2 hc
              refine s_ic dX13_compared_90 ki_1 ?_
              refine s_goto (t := 108) dX13_compared_91 rfl ?_
              refine k_431 dX13_compared_108 rfl (Nat.le_of_ble_eq_true rfl) (Nat.le_of_ble_eq_true rfl) F (fun r8 σ7 F => ?_)
              exact s_ri dX13_compared_111 rfl in_nar F
        · replace F := F.2 hc
          refine s_iln dX13_compared_65 rfl ?_
          refine s_iln dX13_compared_66 rfl ?_
          refine s_ii (t := 74) (a1 ≤ a2) dX13_compared_67 rfl rfl (fun hc => ?_) (fun hc => ?_)
          · replace F := F.1 hc
            refine s_ic dX13_compared_74 ki_0 ?_
            refine s_goto (t := 108) dX13_compared_75 rfl ?_
            refine k_431 dX13_compared_108 rfl (Nat.le_of_ble_eq_true rfl) (Nat.le_of_ble_eq_true rfl) F (fun r10 σ9 F => ?_)
            exact s_ri dX13_compared_111 rfl in_nar F
          · replace F := F.2 hc
            refine s_ic dX13_compared_70 ki_1 ?_
            refine s_goto (t := 108) dX13_compared_71 rfl ?_
            refine k_431 dX13_compared_108 rfl (Nat.le_of_ble_eq_true rfl) (Nat.le_of_ble_eq_true rfl) F (fun r12 σ11 F => ?_)
            exact s_ri dX13_compared_111 rfl in_nar F
      · replace F := F.2 hc
        refine s_iln dX13_compared_46 rfl ?_
        refine s_iln dX13_compared_47 rfl ?_
        refine s_ii (t := 55) (a2 ≤ a1) dX13_compared_48 rfl rfl (fun hc => ?_) (fun hc => ?_)
        · replace F := F.1 hc
          refine s_ic dX13_compared_55 ki_0 ?_
          refine s_goto (t := 108) dX13_compared_56 rfl ?_
          refine k_431 dX13_compared_108 rfl (Nat.le_of_ble_eq_true rfl) (Nat.le_of_ble_eq_true rfl) F (fun r14 σ13 F => ?_)
          exact s_ri dX13_compared_111 rfl in_nar F
        · replace F := F.2 hc
          refine s_ic dX13_compared_51 ki_1 ?_
          refine s_goto (t := 108) dX13_compared_52 rfl ?_
          refine k_431 dX13_compared_108 rfl (Nat.le_of_ble_eq_true rfl) (Nat.le_of_ble_eq_true rfl) F (fun r16 σ15 F => ?_)
          exact s_ri dX13_compared_111 rfl in_nar F
    · replace F := F.2 hc
      refine s_iln dX13_compared_27 rfl ?_
      refine s_iln dX13_compared_28 rfl ?_
      refine s_ii (t := 36) (a1 = a2) dX13_compared_29 rfl rfl (fun hc => ?_) (fun hc => ?_)
      · replace F := F.1 hc
        refine s_ic dX13_compared_36 ki_0 ?_
        refine s_goto (t := 108) dX13_compared_37 rfl ?_
        refine k_431 dX13_compared_108 rfl (Nat.le_of_ble_eq_true rfl) (Nat.le_of_ble_eq_true rfl) F (fun r18 σ17 F => ?_)
        exact s_ri dX13_compared_111 rfl in_nar F
      · replace F := F.2 hc
        refine s_ic dX13_compared_32 ki_1 ?_
        refine s_goto (t := 108) dX13_compared_33 rfl ?_
        refine k_431 dX13_compared_108 rfl (Nat.le_of_ble_eq_true rfl) (Nat.le_of_ble_eq_true rfl) F (fun r20 σ19 F => ?_)
        exact s_ri dX13_compared_111 rfl in_nar F
  · replace F := F.2 hc
    refine s_iln dX13_compared_7 rfl ?_
    refine s_iln dX13_compared_8 rfl ?_
    refine s_iin (t := 16) (a1 = a2) dX13_compared_9 rfl rfl (fun hc => ?_) (fun hc => ?_)
    · replace F := F.1 hc
      refine s_ic dX13_compared_16 ki_0 ?_
      refine s_goto (t := 108) dX13_compared_17 rfl ?_
      refine k_431 dX13_compared_108 rfl (Nat.le_of_ble_eq_true rfl) (Nat.le_of_ble_eq_true rfl) F (fun r22 σ21 F => ?_)
      exact s_ri dX13_compared_111 rfl in_nar F
    · replace F := F.2 hc
      refine s_ic dX13_compared_12 ki_1 ?_
      refine s_goto (t := 108) dX13_compared_13 rfl ?_
      refine k_431 dX13_compared_108 rfl (Nat.le_of_ble_eq_true rfl) (Nat.le_of_ble_eq_true rfl) F (fun r24 σ23 F => ?_)
      exact s_ri dX13_compared_111 rfl in_nar F

theorem m_compared_run {C : rCx} (hC : cOK C) {Q : Int32 → rS → Prop} {a0 : Int32} {a1 : Int32} {a2 : Int32} {σ : rS} (F : w_compared_0 C Q a0 a1 a2 σ) : cI C 1 m_compared [.int a0, .int a1, .int a2] σ Q := m_I (m_ent _ 0) (t_compared_0 hC F)

