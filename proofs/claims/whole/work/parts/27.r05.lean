/-! methods of the reference: tellNamed, tellLocal, tellStatement, endBlock, tellStatements, tellFunc -/
theorem dX13_tellNamed_0 : decode cX13_tellNamed 0 = .ok (.aload_n 0, 1) := by decide +kernel
theorem dX13_tellNamed_1 : decode cX13_tellNamed 1 = .ok (.iconst 2, 1) := by decide +kernel
theorem dX13_tellNamed_2 : decode cX13_tellNamed 2 = .ok (.invokevirtual 400, 3) := by decide +kernel
theorem dX13_tellNamed_5 : decode cX13_tellNamed 5 = .ok (.istore_n 1, 1) := by decide +kernel
theorem dX13_tellNamed_6 : decode cX13_tellNamed 6 = .ok (.aload_n 0, 1) := by decide +kernel
theorem dX13_tellNamed_7 : decode cX13_tellNamed 7 = .ok (.getfield 306, 3) := by decide +kernel
theorem dX13_tellNamed_10 : decode cX13_tellNamed 10 = .ok (.istore_n 2, 1) := by decide +kernel
theorem dX13_tellNamed_11 : decode cX13_tellNamed 11 = .ok (.aload_n 0, 1) := by decide +kernel
theorem dX13_tellNamed_12 : decode cX13_tellNamed 12 = .ok (.invokevirtual 319, 3) := by decide +kernel
theorem dX13_tellNamed_15 : decode cX13_tellNamed 15 = .ok (.aload_n 0, 1) := by decide +kernel
theorem dX13_tellNamed_16 : decode cX13_tellNamed 16 = .ok (.invokevirtual 325, 3) := by decide +kernel
theorem dX13_tellNamed_19 : decode cX13_tellNamed 19 = .ok (.ifCond .ne 4, 3) := by decide +kernel
theorem dX13_tellNamed_22 : decode cX13_tellNamed 22 = .ok (.return_, 1) := by decide +kernel
theorem dX13_tellNamed_23 : decode cX13_tellNamed 23 = .ok (.aload_n 0, 1) := by decide +kernel
theorem dX13_tellNamed_24 : decode cX13_tellNamed 24 = .ok (.bipush 40, 2) := by decide +kernel
theorem dX13_tellNamed_26 : decode cX13_tellNamed 26 = .ok (.invokevirtual 316, 3) := by decide +kernel
theorem dX13_tellNamed_29 : decode cX13_tellNamed 29 = .ok (.ifCond .eq 22, 3) := by decide +kernel
theorem dX13_tellNamed_32 : decode cX13_tellNamed 32 = .ok (.aload_n 0, 1) := by decide +kernel
theorem dX13_tellNamed_33 : decode cX13_tellNamed 33 = .ok (.getfield 66, 3) := by decide +kernel
theorem dX13_tellNamed_36 : decode cX13_tellNamed 36 = .ok (.iload_n 1, 1) := by decide +kernel
theorem dX13_tellNamed_37 : decode cX13_tellNamed 37 = .ok (.iconst 5, 1) := by decide +kernel
theorem dX13_tellNamed_38 : decode cX13_tellNamed 38 = .ok (.iastore, 1) := by decide +kernel
theorem dX13_tellNamed_39 : decode cX13_tellNamed 39 = .ok (.aload_n 0, 1) := by decide +kernel
theorem dX13_tellNamed_40 : decode cX13_tellNamed 40 = .ok (.getfield 72, 3) := by decide +kernel
theorem dX13_tellNamed_43 : decode cX13_tellNamed 43 = .ok (.iload_n 1, 1) := by decide +kernel
theorem dX13_tellNamed_44 : decode cX13_tellNamed 44 = .ok (.iload_n 2, 1) := by decide +kernel
theorem dX13_tellNamed_45 : decode cX13_tellNamed 45 = .ok (.iastore, 1) := by decide +kernel
theorem dX13_tellNamed_46 : decode cX13_tellNamed 46 = .ok (.aload_n 0, 1) := by decide +kernel
theorem dX13_tellNamed_47 : decode cX13_tellNamed 47 = .ok (.invokevirtual 407, 3) := by decide +kernel
theorem dX13_tellNamed_50 : decode cX13_tellNamed 50 = .ok (.return_, 1) := by decide +kernel
theorem dX13_tellNamed_51 : decode cX13_tellNamed 51 = .ok (.aload_n 0, 1) := by decide +kernel
theorem dX13_tellNamed_52 : decode cX13_tellNamed 52 = .ok (.bipush 91, 2) := by decide +kernel
theorem dX13_tellNamed_54 : decode cX13_tellNamed 54 = .ok (.invokevirtual 316, 3) := by decide +kernel
theorem dX13_tellNamed_57 : decode cX13_tellNamed 57 = .ok (.istore_n 3, 1) := by decide +kernel
theorem dX13_tellNamed_58 : decode cX13_tellNamed 58 = .ok (.iload_n 3, 1) := by decide +kernel
theorem dX13_tellNamed_59 : decode cX13_tellNamed 59 = .ok (.ifCond .ne 31, 3) := by decide +kernel
theorem dX13_tellNamed_62 : decode cX13_tellNamed 62 = .ok (.aload_n 0, 1) := by decide +kernel
theorem dX13_tellNamed_63 : decode cX13_tellNamed 63 = .ok (.bipush 61, 2) := by decide +kernel
theorem dX13_tellNamed_65 : decode cX13_tellNamed 65 = .ok (.invokevirtual 316, 3) := by decide +kernel
theorem dX13_tellNamed_68 : decode cX13_tellNamed 68 = .ok (.ifCond .ne 22, 3) := by decide +kernel
theorem dX13_tellNamed_71 : decode cX13_tellNamed 71 = .ok (.aload_n 0, 1) := by decide +kernel
theorem dX13_tellNamed_72 : decode cX13_tellNamed 72 = .ok (.bipush 126, 2) := by decide +kernel
theorem dX13_tellNamed_74 : decode cX13_tellNamed 74 = .ok (.invokevirtual 316, 3) := by decide +kernel
theorem dX13_tellNamed_77 : decode cX13_tellNamed 77 = .ok (.ifCond .ne 13, 3) := by decide +kernel
theorem dX13_tellNamed_80 : decode cX13_tellNamed 80 = .ok (.aload_n 0, 1) := by decide +kernel
theorem dX13_tellNamed_81 : decode cX13_tellNamed 81 = .ok (.iconst 2, 1) := by decide +kernel
theorem dX13_tellNamed_82 : decode cX13_tellNamed 82 = .ok (.aload_n 0, 1) := by decide +kernel
theorem dX13_tellNamed_83 : decode cX13_tellNamed 83 = .ok (.getfield 306, 3) := by decide +kernel
theorem dX13_tellNamed_86 : decode cX13_tellNamed 86 = .ok (.invokevirtual 312, 3) := by decide +kernel
theorem dX13_tellNamed_89 : decode cX13_tellNamed 89 = .ok (.return_, 1) := by decide +kernel
theorem dX13_tellNamed_90 : decode cX13_tellNamed 90 = .ok (.aload_n 0, 1) := by decide +kernel
theorem dX13_tellNamed_91 : decode cX13_tellNamed 91 = .ok (.iload_n 2, 1) := by decide +kernel
theorem dX13_tellNamed_92 : decode cX13_tellNamed 92 = .ok (.iload_n 3, 1) := by decide +kernel
theorem dX13_tellNamed_93 : decode cX13_tellNamed 93 = .ok (.ifCond .eq 11, 3) := by decide +kernel
theorem dX13_tellNamed_96 : decode cX13_tellNamed 96 = .ok (.aload_n 0, 1) := by decide +kernel
theorem dX13_tellNamed_97 : decode cX13_tellNamed 97 = .ok (.iload_n 2, 1) := by decide +kernel
theorem dX13_tellNamed_98 : decode cX13_tellNamed 98 = .ok (.invokevirtual 410, 3) := by decide +kernel
theorem dX13_tellNamed_101 : decode cX13_tellNamed 101 = .ok (.goto 8, 3) := by decide +kernel
theorem dX13_tellNamed_104 : decode cX13_tellNamed 104 = .ok (.aload_n 0, 1) := by decide +kernel
theorem dX13_tellNamed_105 : decode cX13_tellNamed 105 = .ok (.iload_n 2, 1) := by decide +kernel
theorem dX13_tellNamed_106 : decode cX13_tellNamed 106 = .ok (.invokevirtual 413, 3) := by decide +kernel
theorem dX13_tellNamed_109 : decode cX13_tellNamed 109 = .ok (.invokevirtual 416, 3) := by decide +kernel
theorem dX13_tellNamed_112 : decode cX13_tellNamed 112 = .ok (.iload_n 3, 1) := by decide +kernel
theorem dX13_tellNamed_113 : decode cX13_tellNamed 113 = .ok (.ifCond .eq 20, 3) := by decide +kernel
theorem dX13_tellNamed_116 : decode cX13_tellNamed 116 = .ok (.aload_n 0, 1) := by decide +kernel
theorem dX13_tellNamed_117 : decode cX13_tellNamed 117 = .ok (.bipush 91, 2) := by decide +kernel
theorem dX13_tellNamed_119 : decode cX13_tellNamed 119 = .ok (.invokevirtual 359, 3) := by decide +kernel
theorem dX13_tellNamed_122 : decode cX13_tellNamed 122 = .ok (.aload_n 0, 1) := by decide +kernel
theorem dX13_tellNamed_123 : decode cX13_tellNamed 123 = .ok (.invokevirtual 403, 3) := by decide +kernel
theorem dX13_tellNamed_126 : decode cX13_tellNamed 126 = .ok (.pop, 1) := by decide +kernel
theorem dX13_tellNamed_127 : decode cX13_tellNamed 127 = .ok (.aload_n 0, 1) := by decide +kernel
theorem dX13_tellNamed_128 : decode cX13_tellNamed 128 = .ok (.bipush 93, 2) := by decide +kernel
theorem dX13_tellNamed_130 : decode cX13_tellNamed 130 = .ok (.invokevirtual 366, 3) := by decide +kernel
theorem dX13_tellNamed_133 : decode cX13_tellNamed 133 = .ok (.aload_n 0, 1) := by decide +kernel
theorem dX13_tellNamed_134 : decode cX13_tellNamed 134 = .ok (.invokevirtual 325, 3) := by decide +kernel
theorem dX13_tellNamed_137 : decode cX13_tellNamed 137 = .ok (.ifCond .eq 38, 3) := by decide +kernel
theorem dX13_tellNamed_140 : decode cX13_tellNamed 140 = .ok (.aload_n 0, 1) := by decide +kernel
theorem dX13_tellNamed_141 : decode cX13_tellNamed 141 = .ok (.bipush 126, 2) := by decide +kernel
theorem dX13_tellNamed_143 : decode cX13_tellNamed 143 = .ok (.invokevirtual 316, 3) := by decide +kernel
theorem dX13_tellNamed_146 : decode cX13_tellNamed 146 = .ok (.ifCond .eq 29, 3) := by decide +kernel
theorem dX13_tellNamed_149 : decode cX13_tellNamed 149 = .ok (.aload_n 0, 1) := by decide +kernel
theorem dX13_tellNamed_150 : decode cX13_tellNamed 150 = .ok (.invokevirtual 319, 3) := by decide +kernel
theorem dX13_tellNamed_153 : decode cX13_tellNamed 153 = .ok (.aload_n 0, 1) := by decide +kernel
theorem dX13_tellNamed_154 : decode cX13_tellNamed 154 = .ok (.getfield 66, 3) := by decide +kernel
theorem dX13_tellNamed_157 : decode cX13_tellNamed 157 = .ok (.iload_n 1, 1) := by decide +kernel
theorem dX13_tellNamed_158 : decode cX13_tellNamed 158 = .ok (.iconst 3, 1) := by decide +kernel
theorem dX13_tellNamed_159 : decode cX13_tellNamed 159 = .ok (.iastore, 1) := by decide +kernel
theorem dX13_tellNamed_160 : decode cX13_tellNamed 160 = .ok (.aload_n 0, 1) := by decide +kernel
theorem dX13_tellNamed_161 : decode cX13_tellNamed 161 = .ok (.getfield 72, 3) := by decide +kernel
theorem dX13_tellNamed_164 : decode cX13_tellNamed 164 = .ok (.iload_n 1, 1) := by decide +kernel
theorem dX13_tellNamed_165 : decode cX13_tellNamed 165 = .ok (.aload_n 0, 1) := by decide +kernel
theorem dX13_tellNamed_166 : decode cX13_tellNamed 166 = .ok (.getfield 306, 3) := by decide +kernel
theorem dX13_tellNamed_169 : decode cX13_tellNamed 169 = .ok (.iastore, 1) := by decide +kernel
theorem dX13_tellNamed_170 : decode cX13_tellNamed 170 = .ok (.aload_n 0, 1) := by decide +kernel
theorem dX13_tellNamed_171 : decode cX13_tellNamed 171 = .ok (.invokevirtual 419, 3) := by decide +kernel
theorem dX13_tellNamed_174 : decode cX13_tellNamed 174 = .ok (.return_, 1) := by decide +kernel
theorem dX13_tellNamed_175 : decode cX13_tellNamed 175 = .ok (.aload_n 0, 1) := by decide +kernel
theorem dX13_tellNamed_176 : decode cX13_tellNamed 176 = .ok (.bipush 61, 2) := by decide +kernel
theorem dX13_tellNamed_178 : decode cX13_tellNamed 178 = .ok (.invokevirtual 329, 3) := by decide +kernel
theorem dX13_tellNamed_181 : decode cX13_tellNamed 181 = .ok (.aload_n 0, 1) := by decide +kernel
theorem dX13_tellNamed_182 : decode cX13_tellNamed 182 = .ok (.getfield 72, 3) := by decide +kernel
theorem dX13_tellNamed_185 : decode cX13_tellNamed 185 = .ok (.iload_n 1, 1) := by decide +kernel
theorem dX13_tellNamed_186 : decode cX13_tellNamed 186 = .ok (.aload_n 0, 1) := by decide +kernel
theorem dX13_tellNamed_187 : decode cX13_tellNamed 187 = .ok (.getfield 306, 3) := by decide +kernel
theorem dX13_tellNamed_190 : decode cX13_tellNamed 190 = .ok (.iastore, 1) := by decide +kernel
theorem dX13_tellNamed_191 : decode cX13_tellNamed 191 = .ok (.aload_n 0, 1) := by decide +kernel
theorem dX13_tellNamed_192 : decode cX13_tellNamed 192 = .ok (.invokevirtual 325, 3) := by decide +kernel
theorem dX13_tellNamed_195 : decode cX13_tellNamed 195 = .ok (.ifCond .eq 49, 3) := by decide +kernel
theorem dX13_tellNamed_198 : decode cX13_tellNamed 198 = .ok (.aload_n 0, 1) := by decide +kernel
theorem dX13_tellNamed_199 : decode cX13_tellNamed 199 = .ok (.bipush 13, 2) := by decide +kernel
theorem dX13_tellNamed_201 : decode cX13_tellNamed 201 = .ok (.invokevirtual 391, 3) := by decide +kernel
theorem dX13_tellNamed_204 : decode cX13_tellNamed 204 = .ok (.ifCond .eq 40, 3) := by decide +kernel
theorem dX13_tellNamed_207 : decode cX13_tellNamed 207 = .ok (.aload_n 0, 1) := by decide +kernel
theorem dX13_tellNamed_208 : decode cX13_tellNamed 208 = .ok (.getfield 66, 3) := by decide +kernel
theorem dX13_tellNamed_211 : decode cX13_tellNamed 211 = .ok (.iload_n 1, 1) := by decide +kernel
theorem dX13_tellNamed_212 : decode cX13_tellNamed 212 = .ok (.iconst 4, 1) := by decide +kernel
theorem dX13_tellNamed_213 : decode cX13_tellNamed 213 = .ok (.iastore, 1) := by decide +kernel
theorem dX13_tellNamed_214 : decode cX13_tellNamed 214 = .ok (.aload_n 0, 1) := by decide +kernel
theorem dX13_tellNamed_215 : decode cX13_tellNamed 215 = .ok (.invokevirtual 319, 3) := by decide +kernel
theorem dX13_tellNamed_218 : decode cX13_tellNamed 218 = .ok (.aload_n 0, 1) := by decide +kernel
theorem dX13_tellNamed_219 : decode cX13_tellNamed 219 = .ok (.bipush 40, 2) := by decide +kernel
theorem dX13_tellNamed_221 : decode cX13_tellNamed 221 = .ok (.invokevirtual 359, 3) := by decide +kernel
theorem dX13_tellNamed_224 : decode cX13_tellNamed 224 = .ok (.aload_n 0, 1) := by decide +kernel
theorem dX13_tellNamed_225 : decode cX13_tellNamed 225 = .ok (.invokevirtual 403, 3) := by decide +kernel
theorem dX13_tellNamed_228 : decode cX13_tellNamed 228 = .ok (.pop, 1) := by decide +kernel
theorem dX13_tellNamed_229 : decode cX13_tellNamed 229 = .ok (.aload_n 0, 1) := by decide +kernel
theorem dX13_tellNamed_230 : decode cX13_tellNamed 230 = .ok (.bipush 41, 2) := by decide +kernel
theorem dX13_tellNamed_232 : decode cX13_tellNamed 232 = .ok (.invokevirtual 366, 3) := by decide +kernel
theorem dX13_tellNamed_235 : decode cX13_tellNamed 235 = .ok (.aload_n 0, 1) := by decide +kernel
theorem dX13_tellNamed_236 : decode cX13_tellNamed 236 = .ok (.bipush 59, 2) := by decide +kernel
theorem dX13_tellNamed_238 : decode cX13_tellNamed 238 = .ok (.invokevirtual 329, 3) := by decide +kernel
theorem dX13_tellNamed_241 : decode cX13_tellNamed 241 = .ok (.goto 65, 3) := by decide +kernel
theorem dX13_tellNamed_244 : decode cX13_tellNamed 244 = .ok (.aload_n 0, 1) := by decide +kernel
theorem dX13_tellNamed_245 : decode cX13_tellNamed 245 = .ok (.invokevirtual 325, 3) := by decide +kernel
theorem dX13_tellNamed_248 : decode cX13_tellNamed 248 = .ok (.ifCond .eq 47, 3) := by decide +kernel
theorem dX13_tellNamed_251 : decode cX13_tellNamed 251 = .ok (.iload_n 3, 1) := by decide +kernel
theorem dX13_tellNamed_252 : decode cX13_tellNamed 252 = .ok (.ifCond .ne 43, 3) := by decide +kernel
theorem dX13_tellNamed_255 : decode cX13_tellNamed 255 = .ok (.aload_n 0, 1) := by decide +kernel
theorem dX13_tellNamed_256 : decode cX13_tellNamed 256 = .ok (.getfield 19, 3) := by decide +kernel
theorem dX13_tellNamed_259 : decode cX13_tellNamed 259 = .ok (.aload_n 0, 1) := by decide +kernel
theorem dX13_tellNamed_260 : decode cX13_tellNamed 260 = .ok (.getfield 306, 3) := by decide +kernel
theorem dX13_tellNamed_263 : decode cX13_tellNamed 263 = .ok (.baload, 1) := by decide +kernel
theorem dX13_tellNamed_264 : decode cX13_tellNamed 264 = .ok (.iconst 1, 1) := by decide +kernel
theorem dX13_tellNamed_265 : decode cX13_tellNamed 265 = .ok (.if_icmp .ne 30, 3) := by decide +kernel
theorem dX13_tellNamed_268 : decode cX13_tellNamed 268 = .ok (.aload_n 0, 1) := by decide +kernel
theorem dX13_tellNamed_269 : decode cX13_tellNamed 269 = .ok (.bipush 40, 2) := by decide +kernel
theorem dX13_tellNamed_271 : decode cX13_tellNamed 271 = .ok (.invokevirtual 422, 3) := by decide +kernel
theorem dX13_tellNamed_274 : decode cX13_tellNamed 274 = .ok (.ifCond .eq 21, 3) := by decide +kernel
theorem dX13_tellNamed_277 : decode cX13_tellNamed 277 = .ok (.aload_n 0, 1) := by decide +kernel
theorem dX13_tellNamed_278 : decode cX13_tellNamed 278 = .ok (.getfield 66, 3) := by decide +kernel
theorem dX13_tellNamed_281 : decode cX13_tellNamed 281 = .ok (.iload_n 1, 1) := by decide +kernel
theorem dX13_tellNamed_282 : decode cX13_tellNamed 282 = .ok (.iconst 5, 1) := by decide +kernel
theorem dX13_tellNamed_283 : decode cX13_tellNamed 283 = .ok (.iastore, 1) := by decide +kernel
theorem dX13_tellNamed_284 : decode cX13_tellNamed 284 = .ok (.aload_n 0, 1) := by decide +kernel
theorem dX13_tellNamed_285 : decode cX13_tellNamed 285 = .ok (.invokevirtual 319, 3) := by decide +kernel
theorem dX13_tellNamed_288 : decode cX13_tellNamed 288 = .ok (.aload_n 0, 1) := by decide +kernel
theorem dX13_tellNamed_289 : decode cX13_tellNamed 289 = .ok (.invokevirtual 407, 3) := by decide +kernel
theorem dX13_tellNamed_292 : decode cX13_tellNamed 292 = .ok (.goto 14, 3) := by decide +kernel
theorem dX13_tellNamed_295 : decode cX13_tellNamed 295 = .ok (.aload_n 0, 1) := by decide +kernel
theorem dX13_tellNamed_296 : decode cX13_tellNamed 296 = .ok (.invokevirtual 403, 3) := by decide +kernel
theorem dX13_tellNamed_299 : decode cX13_tellNamed 299 = .ok (.pop, 1) := by decide +kernel
theorem dX13_tellNamed_300 : decode cX13_tellNamed 300 = .ok (.aload_n 0, 1) := by decide +kernel
theorem dX13_tellNamed_301 : decode cX13_tellNamed 301 = .ok (.bipush 59, 2) := by decide +kernel
theorem dX13_tellNamed_303 : decode cX13_tellNamed 303 = .ok (.invokevirtual 329, 3) := by decide +kernel
theorem dX13_tellNamed_306 : decode cX13_tellNamed 306 = .ok (.return_, 1) := by decide +kernel
def w_tellNamed_295 (C : rCx) (Q : rS → Prop)   (σ : rS) : Prop :=
  cI C 6 m_expression [.ref (co C)] σ (fun r2 σ1 =>
    cV C 3 m_sign [.ref (co C), .int (59 : Int32)] σ1 (fun σ3 =>
      Q σ3))
theorem t_tellNamed_295 {C : rCx} (hC : cOK C) {Q : rS → Prop}    {σ : rS} (F : w_tellNamed_295 C Q   σ) : wG C 8 m_tellNamed 295 [some (.ref (co C)), none, none, none] [] σ (qV Q) := by
  unfold w_tellNamed_295 at F
  refine s_aln dX13_tellNamed_295 rfl ?_
  refine k_403 dX13_tellNamed_296 rfl (Nat.le_of_ble_eq_true rfl) (Nat.le_of_ble_eq_true rfl) F (fun r2 σ1 F => ?_)
  refine s_pop dX13_tellNamed_299 rfl ?_
  refine s_aln dX13_tellNamed_300 rfl ?_
  refine s_bi dX13_tellNamed_301 kb_59 ?_
  refine k_329 dX13_tellNamed_303 rfl (Nat.le_of_ble_eq_true rfl) (Nat.le_of_ble_eq_true rfl) F (fun σ3 F => ?_)
  exact s_rv dX13_tellNamed_306 rfl F

def w_tellNamed_244 (C : rCx) (Q : rS → Prop)  (a1 : Int32) (a3 : Int32) (σ : rS) : Prop :=
  cI C 0 m_isRight [.ref (co C)] σ (fun r2 σ1 =>
    (r2 = 0 →
      w_tellNamed_295 C Q   σ1) ∧
    (¬ (r2 = 0) →
      (¬ (a3 = 0) →
        w_tellNamed_295 C Q   σ1) ∧
      (a3 = 0 →
        inb (σ1.1 10) 131074 ∧
        (¬ ((σ1.2.2.1 5 ((σ1.1 10)).toNatClampNeg) = (1 : Int32)) →
          w_tellNamed_295 C Q   σ1) ∧
        ((σ1.2.2.1 5 ((σ1.1 10)).toNatClampNeg) = (1 : Int32) →
          cI C 0 m_isNext [.ref (co C), .int (40 : Int32)] σ1 (fun r4 σ3 =>
            (r4 = 0 →
              w_tellNamed_295 C Q   σ3) ∧
            (¬ (r4 = 0) →
              inb a1 150 ∧
              ∀ σ5, σ5 = riU σ3 30 (a1).toNatClampNeg (5 : Int32) →
              cV C 2 m_go [.ref (co C)] σ5 (fun σ6 =>
                cV C 7 m_arguments [.ref (co C)] σ6 (fun σ8 =>
                  Q σ8))))))))
theorem t_tellNamed_244 {C : rCx} (hC : cOK C) {Q : rS → Prop}   {a1 : Int32} {a3 : Int32} {σ : rS} (F : w_tellNamed_244 C Q  a1 a3 σ) : wG C 8 m_tellNamed 244 [some (.ref (co C)), some (.int a1), none, some (.int a3)] [] σ (qV Q) := by
  unfold w_tellNamed_244 at F
  refine s_aln dX13_tellNamed_244 rfl ?_
  refine k_325 dX13_tellNamed_245 rfl (Nat.le_of_ble_eq_true rfl) (Nat.le_of_ble_eq_true rfl) F (fun r2 σ1 F => ?_)
  refine s_i (t := 295) (r2 = 0) dX13_tellNamed_248 rfl rfl (fun hc => ?_) (fun hc => ?_)
  · replace F := F.1 hc
    exact s_k (t_tellNamed_295 hC  F) ⟨rfl, trivial⟩
  · replace F := F.2 hc
    refine s_iln dX13_tellNamed_251 rfl ?_
    refine s_in (t := 295) (a3 = 0) dX13_tellNamed_252 rfl rfl (fun hc => ?_) (fun hc => ?_)
    · replace F := F.1 hc
      exact s_k (t_tellNamed_295 hC  F) ⟨rfl, trivial⟩
    · replace F := F.2 hc
      refine s_aln dX13_tellNamed_255 rfl ?_
      refine gf_19 dX13_tellNamed_256 rfl ?_
      refine s_aln dX13_tellNamed_259 rfl ?_
      refine gf_306 dX13_tellNamed_260 rfl ?_
      refine s_bld hC dX13_tellNamed_263 rt_5 F.1 ?_
      replace F := F.2
      refine s_ic dX13_tellNamed_264 ki_1 ?_
      refine s_iin (t := 295) ((σ1.2.2.1 5 ((σ1.1 10)).toNatClampNeg) = (1 : Int32)) dX13_tellNamed_265 rfl rfl (fun hc => ?_) (fun hc => ?_)
      · replace F := F.1 hc
        exact s_k (t_tellNamed_295 hC  F) ⟨rfl, trivial⟩
      · replace F := F.2 hc
        refine s_aln dX13_tellNamed_268 rfl ?_
        refine s_bi dX13_tellNamed_269 kb_40 ?_
        refine k_422 dX13_tellNamed_271 rfl (Nat.le_of_ble_eq_true rfl) (Nat.le_of_ble_eq_true rfl) F (fun r4 σ3 F => ?_)
        refine s_i (t := 295) (r4 = 0) dX13_tellNamed_274 rfl rfl (fun hc => ?_) (fun hc => ?_)
        · replace F := F.1 hc
          exact s_k (t_tellNamed_295 hC  F) ⟨rfl, trivial⟩
        · replace F := F.2 hc
          refine s_aln dX13_tellNamed_277 rfl ?_
          refine gf_66 dX13_tellNamed_278 rfl ?_
          refine s_iln dX13_tellNamed_281 rfl ?_
          refine s_ic dX13_tellNamed_282 ki_5 ?_
          refine s_astb hC dX13_tellNamed_283 rt_30 F.1 (fun σ5 eσ5 => ?_)
          replace F := F.2 σ5 eσ5
          refine s_aln dX13_tellNamed_284 rfl ?_
          refine k_319 dX13_tellNamed_285 rfl (Nat.le_of_ble_eq_true rfl) (Nat.le_of_ble_eq_true rfl) F (fun σ6 F => ?_)
          refine s_aln dX13_tellNamed_288 rfl ?_
          refine k_407 dX13_tellNamed_289 rfl (Nat.le_of_ble_eq_true rfl) (Nat.le_of_ble_eq_true rfl) F (fun σ8 F => ?_)
          refine s_goto (t := 306) dX13_tellNamed_292 rfl ?_
          exact s_rv dX13_tellNamed_306 rfl F

def w_tellNamed_175 (C : rCx) (Q : rS → Prop)  (a1 : Int32) (a3 : Int32) (σ : rS) : Prop :=
  cV C 3 m_sign [.ref (co C), .int (61 : Int32)] σ (fun σ1 =>
    inb a1 150 ∧
    ∀ σ3, σ3 = riU σ1 32 (a1).toNatClampNeg (σ1.1 10) →
    cI C 0 m_isRight [.ref (co C)] σ3 (fun r5 σ4 =>
      (r5 = 0 →
        w_tellNamed_244 C Q  a1 a3 σ4) ∧
      (¬ (r5 = 0) →
        cI C 0 m_isWord [.ref (co C), .int (13 : Int32)] σ4 (fun r7 σ6 =>
          (r7 = 0 →
            w_tellNamed_244 C Q  a1 a3 σ6) ∧
          (¬ (r7 = 0) →
            inb a1 150 ∧
            ∀ σ8, σ8 = riU σ6 30 (a1).toNatClampNeg (4 : Int32) →
            cV C 2 m_go [.ref (co C)] σ8 (fun σ9 =>
              cV C 3 m_open [.ref (co C), .int (40 : Int32)] σ9 (fun σ11 =>
                cI C 6 m_expression [.ref (co C)] σ11 (fun r14 σ13 =>
                  cV C 4 m_close [.ref (co C), .int (41 : Int32)] σ13 (fun σ15 =>
                    cV C 3 m_sign [.ref (co C), .int (59 : Int32)] σ15 (fun σ17 =>
                      Q σ17))))))))))
theorem t_tellNamed_175 {C : rCx} (hC : cOK C) {Q : rS → Prop}   {a1 : Int32} {a3 : Int32} {σ : rS} (F : w_tellNamed_175 C Q  a1 a3 σ) : wG C 8 m_tellNamed 175 [some (.ref (co C)), some (.int a1), none, some (.int a3)] [] σ (qV Q) := by
  unfold w_tellNamed_175 at F
  refine s_aln dX13_tellNamed_175 rfl ?_
  refine s_bi dX13_tellNamed_176 kb_61 ?_
  refine k_329 dX13_tellNamed_178 rfl (Nat.le_of_ble_eq_true rfl) (Nat.le_of_ble_eq_true rfl) F (fun σ1 F => ?_)
  refine s_aln dX13_tellNamed_181 rfl ?_
  refine gf_72 dX13_tellNamed_182 rfl ?_
  refine s_iln dX13_tellNamed_185 rfl ?_
  refine s_aln dX13_tellNamed_186 rfl ?_
  refine gf_306 dX13_tellNamed_187 rfl ?_
  refine s_astb hC dX13_tellNamed_190 rt_32 F.1 (fun σ3 eσ3 => ?_)
  replace F := F.2 σ3 eσ3
  refine s_aln dX13_tellNamed_191 rfl ?_
  refine k_325 dX13_tellNamed_192 rfl (Nat.le_of_ble_eq_true rfl) (Nat.le_of_ble_eq_true rfl) F (fun r5 σ4 F => ?_)
  refine s_i (t := 244) (r5 = 0) dX13_tellNamed_195 rfl rfl (fun hc => ?_) (fun hc => ?_)
  · replace F := F.1 hc
    exact s_k (t_tellNamed_244 hC  F) ⟨rfl, rfl, rfl, trivial⟩
  · replace F := F.2 hc
    refine s_aln dX13_tellNamed_198 rfl ?_
    refine s_bi dX13_tellNamed_199 kb_13 ?_
    refine k_391 dX13_tellNamed_201 rfl (Nat.le_of_ble_eq_true rfl) (Nat.le_of_ble_eq_true rfl) F (fun r7 σ6 F => ?_)
    refine s_i (t := 244) (r7 = 0) dX13_tellNamed_204 rfl rfl (fun hc => ?_) (fun hc => ?_)
    · replace F := F.1 hc
      exact s_k (t_tellNamed_244 hC  F) ⟨rfl, rfl, rfl, trivial⟩
    · replace F := F.2 hc
      refine s_aln dX13_tellNamed_207 rfl ?_
      refine gf_66 dX13_tellNamed_208 rfl ?_
      refine s_iln dX13_tellNamed_211 rfl ?_
      refine s_ic dX13_tellNamed_212 ki_4 ?_
      refine s_astb hC dX13_tellNamed_213 rt_30 F.1 (fun σ8 eσ8 => ?_)
      replace F := F.2 σ8 eσ8
      refine s_aln dX13_tellNamed_214 rfl ?_
      refine k_319 dX13_tellNamed_215 rfl (Nat.le_of_ble_eq_true rfl) (Nat.le_of_ble_eq_true rfl) F (fun σ9 F => ?_)
      refine s_aln dX13_tellNamed_218 rfl ?_
      refine s_bi dX13_tellNamed_219 kb_40 ?_
      refine k_359 dX13_tellNamed_221 rfl (Nat.le_of_ble_eq_true rfl) (Nat.le_of_ble_eq_true rfl) F (fun σ11 F => ?_)
      refine s_aln dX13_tellNamed_224 rfl ?_
      refine k_403 dX13_tellNamed_225 rfl (Nat.le_of_ble_eq_true rfl) (Nat.le_of_ble_eq_true rfl) F (fun r14 σ13 F => ?_)
      refine s_pop dX13_tellNamed_228 rfl ?_
      refine s_aln dX13_tellNamed_229 rfl ?_
      refine s_bi dX13_tellNamed_230 kb_41 ?_
      refine k_366 dX13_tellNamed_232 rfl (Nat.le_of_ble_eq_true rfl) (Nat.le_of_ble_eq_true rfl) F (fun σ15 F => ?_)
      refine s_aln dX13_tellNamed_235 rfl ?_
      refine s_bi dX13_tellNamed_236 kb_59 ?_
      refine k_329 dX13_tellNamed_238 rfl (Nat.le_of_ble_eq_true rfl) (Nat.le_of_ble_eq_true rfl) F (fun σ17 F => ?_)
      refine s_goto (t := 306) dX13_tellNamed_241 rfl ?_
      exact s_rv dX13_tellNamed_306 rfl F

def w_tellNamed_133 (C : rCx) (Q : rS → Prop)  (a1 : Int32) (a3 : Int32) (σ : rS) : Prop :=
  cI C 0 m_isRight [.ref (co C)] σ (fun r2 σ1 =>
    (r2 = 0 →
      w_tellNamed_175 C Q  a1 a3 σ1) ∧
    (¬ (r2 = 0) →
      cI C 0 m_isAt [.ref (co C), .int (126 : Int32)] σ1 (fun r4 σ3 =>
        (r4 = 0 →
          w_tellNamed_175 C Q  a1 a3 σ3) ∧
        (¬ (r4 = 0) →
          cV C 2 m_go [.ref (co C)] σ3 (fun σ5 =>
            inb a1 150 ∧
            ∀ σ7, σ7 = riU σ5 30 (a1).toNatClampNeg (3 : Int32) →
            inb a1 150 ∧
            ∀ σ8, σ8 = riU σ7 32 (a1).toNatClampNeg (σ7.1 10) →
            cV C 7 m_tellDraw [.ref (co C)] σ8 (fun σ9 =>
              Q σ9))))))
theorem t_tellNamed_133 {C : rCx} (hC : cOK C) {Q : rS → Prop}   {a1 : Int32} {a3 : Int32} {σ : rS} (F : w_tellNamed_133 C Q  a1 a3 σ) : wG C 8 m_tellNamed 133 [some (.ref (co C)), some (.int a1), none, some (.int a3)] [] σ (qV Q) := by
  unfold w_tellNamed_133 at F
  refine s_aln dX13_tellNamed_133 rfl ?_
  refine k_325 dX13_tellNamed_134 rfl (Nat.le_of_ble_eq_true rfl) (Nat.le_of_ble_eq_true rfl) F (fun r2 σ1 F => ?_)
  refine s_i (t := 175) (r2 = 0) dX13_tellNamed_137 rfl rfl (fun hc => ?_) (fun hc => ?_)
  · replace F := F.1 hc
    exact s_k (t_tellNamed_175 hC  F) ⟨rfl, rfl, rfl, trivial⟩
  · replace F := F.2 hc
    refine s_aln dX13_tellNamed_140 rfl ?_
    refine s_bi dX13_tellNamed_141 kb_126 ?_
    refine k_316 dX13_tellNamed_143 rfl (Nat.le_of_ble_eq_true rfl) (Nat.le_of_ble_eq_true rfl) F (fun r4 σ3 F => ?_)
    refine s_i (t := 175) (r4 = 0) dX13_tellNamed_146 rfl rfl (fun hc => ?_) (fun hc => ?_)
    · replace F := F.1 hc
      exact s_k (t_tellNamed_175 hC  F) ⟨rfl, rfl, rfl, trivial⟩
    · replace F := F.2 hc
      refine s_aln dX13_tellNamed_149 rfl ?_
      refine k_319 dX13_tellNamed_150 rfl (Nat.le_of_ble_eq_true rfl) (Nat.le_of_ble_eq_true rfl) F (fun σ5 F => ?_)
      refine s_aln dX13_tellNamed_153 rfl ?_
      refine gf_66 dX13_tellNamed_154 rfl ?_
      refine s_iln dX13_tellNamed_157 rfl ?_
      refine s_ic dX13_tellNamed_158 ki_3 ?_
      refine s_astb hC dX13_tellNamed_159 rt_30 F.1 (fun σ7 eσ7 => ?_)
      replace F := F.2 σ7 eσ7
      refine s_aln dX13_tellNamed_160 rfl ?_
      refine gf_72 dX13_tellNamed_161 rfl ?_
      refine s_iln dX13_tellNamed_164 rfl ?_
      refine s_aln dX13_tellNamed_165 rfl ?_
      refine gf_306 dX13_tellNamed_166 rfl ?_
      refine s_astb hC dX13_tellNamed_169 rt_32 F.1 (fun σ8 eσ8 => ?_)
      replace F := F.2 σ8 eσ8
      refine s_aln dX13_tellNamed_170 rfl ?_
      refine k_419 dX13_tellNamed_171 rfl (Nat.le_of_ble_eq_true rfl) (Nat.le_of_ble_eq_true rfl) F (fun σ9 F => ?_)
      exact s_rv dX13_tellNamed_174 rfl F

def w_tellNamed_109 (C : rCx) (Q : rS → Prop)  (a1 : Int32) (a3 : Int32) (s1 : Int32) (s2 : Int32) (σ : rS) : Prop :=
  cV C 0 m_look [.ref (co C), .int s1, .int s2] σ (fun σ1 =>
    (a3 = 0 →
      w_tellNamed_133 C Q  a1 a3 σ1) ∧
    (¬ (a3 = 0) →
      cV C 3 m_open [.ref (co C), .int (91 : Int32)] σ1 (fun σ3 =>
        cI C 6 m_expression [.ref (co C)] σ3 (fun r6 σ5 =>
          cV C 4 m_close [.ref (co C), .int (93 : Int32)] σ5 (fun σ7 =>
            w_tellNamed_133 C Q  a1 a3 σ7)))))
theorem t_tellNamed_109 {C : rCx} (hC : cOK C) {Q : rS → Prop}   {a1 : Int32} {a3 : Int32} {s1 : Int32} {s2 : Int32} {σ : rS} (F : w_tellNamed_109 C Q  a1 a3 s1 s2 σ) : wG C 8 m_tellNamed 109 [some (.ref (co C)), some (.int a1), none, some (.int a3)] [.int s2, .int s1, .ref (co C)] σ (qV Q) := by
  unfold w_tellNamed_109 at F
  refine k_416 dX13_tellNamed_109 rfl (Nat.le_of_ble_eq_true rfl) (Nat.le_of_ble_eq_true rfl) F (fun σ1 F => ?_)
  refine s_iln dX13_tellNamed_112 rfl ?_
  refine s_i (t := 133) (a3 = 0) dX13_tellNamed_113 rfl rfl (fun hc => ?_) (fun hc => ?_)
  · replace F := F.1 hc
    exact s_k (t_tellNamed_133 hC  F) ⟨rfl, rfl, rfl, trivial⟩
  · replace F := F.2 hc
    refine s_aln dX13_tellNamed_116 rfl ?_
    refine s_bi dX13_tellNamed_117 kb_91 ?_
    refine k_359 dX13_tellNamed_119 rfl (Nat.le_of_ble_eq_true rfl) (Nat.le_of_ble_eq_true rfl) F (fun σ3 F => ?_)
    refine s_aln dX13_tellNamed_122 rfl ?_
    refine k_403 dX13_tellNamed_123 rfl (Nat.le_of_ble_eq_true rfl) (Nat.le_of_ble_eq_true rfl) F (fun r6 σ5 F => ?_)
    refine s_pop dX13_tellNamed_126 rfl ?_
    refine s_aln dX13_tellNamed_127 rfl ?_
    refine s_bi dX13_tellNamed_128 kb_93 ?_
    refine k_366 dX13_tellNamed_130 rfl (Nat.le_of_ble_eq_true rfl) (Nat.le_of_ble_eq_true rfl) F (fun σ7 F => ?_)
    exact s_k (t_tellNamed_133 hC  F) ⟨rfl, rfl, rfl, trivial⟩

def w_tellNamed_90 (C : rCx) (Q : rS → Prop)  (a1 : Int32) (a2 : Int32) (a3 : Int32) (σ : rS) : Prop :=
  (a3 = 0 →
    cI C 1 m_variableOf [.ref (co C), .int a2] σ (fun r2 σ1 =>
      w_tellNamed_109 C Q  a1 a3 a2 r2 σ1)) ∧
  (¬ (a3 = 0) →
    cI C 1 m_arrayOf [.ref (co C), .int a2] σ (fun r4 σ3 =>
      w_tellNamed_109 C Q  a1 a3 a2 r4 σ3))
theorem t_tellNamed_90 {C : rCx} (hC : cOK C) {Q : rS → Prop}   {a1 : Int32} {a2 : Int32} {a3 : Int32} {σ : rS} (F : w_tellNamed_90 C Q  a1 a2 a3 σ) : wG C 8 m_tellNamed 90 [some (.ref (co C)), some (.int a1), some (.int a2), some (.int a3)] [] σ (qV Q) := by
  unfold w_tellNamed_90 at F
  refine s_aln dX13_tellNamed_90 rfl ?_
  refine s_iln dX13_tellNamed_91 rfl ?_
  refine s_iln dX13_tellNamed_92 rfl ?_
  refine s_i (t := 104) (a3 = 0) dX13_tellNamed_93 rfl rfl (fun hc => ?_) (fun hc => ?_)
  · replace F := F.1 hc
    refine s_aln dX13_tellNamed_104 rfl ?_
    refine s_iln dX13_tellNamed_105 rfl ?_
    refine k_413 dX13_tellNamed_106 rfl (Nat.le_of_ble_eq_true rfl) (Nat.le_of_ble_eq_true rfl) F (fun r2 σ1 F => ?_)
    exact s_k (t_tellNamed_109 hC  F) ⟨rfl, rfl, rfl, trivial⟩
  · replace F := F.2 hc
    refine s_aln dX13_tellNamed_96 rfl ?_
    refine s_iln dX13_tellNamed_97 rfl ?_
    refine k_410 dX13_tellNamed_98 rfl (Nat.le_of_ble_eq_true rfl) (Nat.le_of_ble_eq_true rfl) F (fun r4 σ3 F => ?_)
    refine s_goto (t := 109) dX13_tellNamed_101 rfl ?_
    exact s_k (t_tellNamed_109 hC  F) ⟨rfl, rfl, rfl, trivial⟩

def w_tellNamed_0 (C : rCx) (Q : rS → Prop)   (σ : rS) : Prop :=
  cI C 1 m_newStatement [.ref (co C), .int (2 : Int32)] σ (fun r2 σ1 =>
    ∀ v2_3 : Int32, v2_3 = (σ1.1 10) →
    cV C 2 m_go [.ref (co C)] σ1 (fun σ4 =>
      cI C 0 m_isRight [.ref (co C)] σ4 (fun r7 σ6 =>
        (¬ (r7 = 0) →
          cI C 0 m_isAt [.ref (co C), .int (40 : Int32)] σ6 (fun r9 σ8 =>
            (r9 = 0 →
              cI C 0 m_isAt [.ref (co C), .int (91 : Int32)] σ8 (fun r11 σ10 =>
                (¬ (r11 = 0) →
                  w_tellNamed_90 C Q  r2 v2_3 r11 σ10) ∧
                (r11 = 0 →
                  cI C 0 m_isAt [.ref (co C), .int (61 : Int32)] σ10 (fun r13 σ12 =>
                    (¬ (r13 = 0) →
                      w_tellNamed_90 C Q  r2 v2_3 r11 σ12) ∧
                    (r13 = 0 →
                      cI C 0 m_isAt [.ref (co C), .int (126 : Int32)] σ12 (fun r15 σ14 =>
                        (¬ (r15 = 0) →
                          w_tellNamed_90 C Q  r2 v2_3 r11 σ14) ∧
                        (r15 = 0 →
                          cV C 0 m_flaw [.ref (co C), .int (2 : Int32), .int (σ14.1 10)] σ14 (fun σ16 =>
                            Q σ16)))))))) ∧
            (¬ (r9 = 0) →
              inb r2 150 ∧
              ∀ σ18, σ18 = riU σ8 30 (r2).toNatClampNeg (5 : Int32) →
              inb r2 150 ∧
              ∀ σ19, σ19 = riU σ18 32 (r2).toNatClampNeg v2_3 →
              cV C 7 m_arguments [.ref (co C)] σ19 (fun σ20 =>
                Q σ20)))) ∧
        (r7 = 0 →
          Q σ6))))
theorem t_tellNamed_0 {C : rCx} (hC : cOK C) {Q : rS → Prop}    {σ : rS} (F : w_tellNamed_0 C Q   σ) : wG C 8 m_tellNamed 0 [some (.ref (co C)), none, none, none] [] σ (qV Q) := by
  unfold w_tellNamed_0 at F
  refine s_aln dX13_tellNamed_0 rfl ?_
  refine s_ic dX13_tellNamed_1 ki_2 ?_
  refine k_400 dX13_tellNamed_2 rfl (Nat.le_of_ble_eq_true rfl) (Nat.le_of_ble_eq_true rfl) F (fun r2 σ1 F => ?_)
  refine s_isn dX13_tellNamed_5 (Nat.le_of_ble_eq_true rfl) rfl ?_
  refine s_aln dX13_tellNamed_6 rfl ?_
  refine gf_306 dX13_tellNamed_7 rfl ?_
  refine s_isnb dX13_tellNamed_10 (Nat.le_of_ble_eq_true rfl) (fun v2_3 ev2_3 => ?_)
  replace F := F v2_3 ev2_3
  refine s_aln dX13_tellNamed_11 rfl ?_
  refine k_319 dX13_tellNamed_12 rfl (Nat.le_of_ble_eq_true rfl) (Nat.le_of_ble_eq_true rfl) F (fun σ4 F => ?_)
  refine s_aln dX13_tellNamed_15 rfl ?_
  refine k_325 dX13_tellNamed_16 rfl (Nat.le_of_ble_eq_true rfl) (Nat.le_of_ble_eq_true rfl) F (fun r7 σ6 F => ?_)
  refine s_in (t := 23) (r7 = 0) dX13_tellNamed_19 rfl rfl (fun hc => ?_) (fun hc => ?_)
  · replace F := F.1 hc
    refine s_aln dX13_tellNamed_23 rfl ?_
    refine s_bi dX13_tellNamed_24 kb_40 ?_
    refine k_316 dX13_tellNamed_26 rfl (Nat.le_of_ble_eq_true rfl) (Nat.le_of_ble_eq_true rfl) F (fun r9 σ8 F => ?_)
    refine s_i (t := 51) (r9 = 0) dX13_tellNamed_29 rfl rfl (fun hc => ?_) (fun hc => ?_)
    · replace F := F.1 hc
      refine s_aln dX13_tellNamed_51 rfl ?_
      refine s_bi dX13_tellNamed_52 kb_91 ?_
      refine k_316 dX13_tellNamed_54 rfl (Nat.le_of_ble_eq_true rfl) (Nat.le_of_ble_eq_true rfl) F (fun r11 σ10 F => ?_)
      refine s_isn dX13_tellNamed_57 (Nat.le_of_ble_eq_true rfl) rfl ?_
      refine s_iln dX13_tellNamed_58 rfl ?_
      refine s_in (t := 90) (r11 = 0) dX13_tellNamed_59 rfl rfl (fun hc => ?_) (fun hc => ?_)
      · replace F := F.1 hc
        exact s_k (t_tellNamed_90 hC  F) ⟨rfl, rfl, rfl, rfl, trivial⟩
      · replace F := F.2 hc
        refine s_aln dX13_tellNamed_62 rfl ?_
        refine s_bi dX13_tellNamed_63 kb_61 ?_
        refine k_316 dX13_tellNamed_65 rfl (Nat.le_of_ble_eq_true rfl) (Nat.le_of_ble_eq_true rfl) F (fun r13 σ12 F => ?_)
        refine s_in (t := 90) (r13 = 0) dX13_tellNamed_68 rfl rfl (fun hc => ?_) (fun hc => ?_)
        · replace F := F.1 hc
          exact s_k (t_tellNamed_90 hC  F) ⟨rfl, rfl, rfl, rfl, trivial⟩
        · replace F := F.2 hc
          refine s_aln dX13_tellNamed_71 rfl ?_
          refine s_bi dX13_tellNamed_72 kb_126 ?_
          refine k_316 dX13_tellNamed_74 rfl (Nat.le_of_ble_eq_true rfl) (Nat.le_of_ble_eq_true rfl) F (fun r15 σ14 F => ?_)
          refine s_in (t := 90) (r15 = 0) dX13_tellNamed_77 rfl rfl (fun hc => ?_) (fun hc => ?_)
          · replace F := F.1 hc
            exact s_k (t_tellNamed_90 hC  F) ⟨rfl, rfl, rfl, rfl, trivial⟩
          · replace F := F.2 hc
            refine s_aln dX13_tellNamed_80 rfl ?_
            refine s_ic dX13_tellNamed_81 ki_2 ?_
            refine s_aln dX13_tellNamed_82 rfl ?_
            refine gf_306 dX13_tellNamed_83 rfl ?_
            refine k_312 dX13_tellNamed_86 rfl (Nat.le_of_ble_eq_true rfl) (Nat.le_of_ble_eq_true rfl) F (fun σ16 F => ?_)
            exact s_rv dX13_tellNamed_89 rfl F
    · replace F := F.2 hc
      refine s_aln dX13_tellNamed_32 rfl ?_
      refine gf_66 dX13_tellNamed_33 rfl ?_
      refine s_iln dX13_tellNamed_36 rfl ?_
      refine s_ic dX13_tellNamed_37 ki_5 ?_
      refine s_astb hC dX13_tellNamed_38 rt_30 F.1 (fun σ18 eσ18 => ?_)
      replace F := F.2 σ18 eσ18
      refine s_aln dX13_tellNamed_39 rfl ?_
      refine gf_72 dX13_tellNamed_40 rfl ?_
      refine s_iln dX13_tellNamed_43 rfl ?_
      refine s_iln dX13_tellNamed_44 rfl ?_
      refine s_astb hC dX13_tellNamed_45 rt_32 F.1 (fun σ19 eσ19 => ?_)
      replace F := F.2 σ19 eσ19
      refine s_aln dX13_tellNamed_46 rfl ?_
      refine k_407 dX13_tellNamed_47 rfl (Nat.le_of_ble_eq_true rfl) (Nat.le_of_ble_eq_true rfl) F (fun σ20 F => ?_)
      exact s_rv dX13_tellNamed_50 rfl F
  · replace F := F.2 hc
    exact s_rv dX13_tellNamed_22 rfl F

theorem m_tellNamed_run {C : rCx} (hC : cOK C) {Q : rS → Prop}  {σ : rS} (F : w_tellNamed_0 C Q  σ) : cV C 8 m_tellNamed [.ref (co C)] σ Q := m_V (m_ent _ 3) (t_tellNamed_0 hC F)

theorem dX13_tellLocal_0 : decode cX13_tellLocal 0 = .ok (.aload_n 0, 1) := by decide +kernel
theorem dX13_tellLocal_1 : decode cX13_tellLocal 1 = .ok (.iconst 1, 1) := by decide +kernel
theorem dX13_tellLocal_2 : decode cX13_tellLocal 2 = .ok (.invokevirtual 400, 3) := by decide +kernel
theorem dX13_tellLocal_5 : decode cX13_tellLocal 5 = .ok (.istore_n 1, 1) := by decide +kernel
theorem dX13_tellLocal_6 : decode cX13_tellLocal 6 = .ok (.aload_n 0, 1) := by decide +kernel
theorem dX13_tellLocal_7 : decode cX13_tellLocal 7 = .ok (.invokevirtual 319, 3) := by decide +kernel
theorem dX13_tellLocal_10 : decode cX13_tellLocal 10 = .ok (.aload_n 0, 1) := by decide +kernel
theorem dX13_tellLocal_11 : decode cX13_tellLocal 11 = .ok (.iconst 1, 1) := by decide +kernel
theorem dX13_tellLocal_12 : decode cX13_tellLocal 12 = .ok (.aload_n 0, 1) := by decide +kernel
theorem dX13_tellLocal_13 : decode cX13_tellLocal 13 = .ok (.getfield 57, 3) := by decide +kernel
theorem dX13_tellLocal_16 : decode cX13_tellLocal 16 = .ok (.aload_n 0, 1) := by decide +kernel
theorem dX13_tellLocal_17 : decode cX13_tellLocal 17 = .ok (.getfield 346, 3) := by decide +kernel
theorem dX13_tellLocal_20 : decode cX13_tellLocal 20 = .ok (.iaload, 1) := by decide +kernel
theorem dX13_tellLocal_21 : decode cX13_tellLocal 21 = .ok (.bipush 8, 2) := by decide +kernel
theorem dX13_tellLocal_23 : decode cX13_tellLocal 23 = .ok (.invokevirtual 355, 3) := by decide +kernel
theorem dX13_tellLocal_26 : decode cX13_tellLocal 26 = .ok (.istore_n 2, 1) := by decide +kernel
theorem dX13_tellLocal_27 : decode cX13_tellLocal 27 = .ok (.aload_n 0, 1) := by decide +kernel
theorem dX13_tellLocal_28 : decode cX13_tellLocal 28 = .ok (.bipush 61, 2) := by decide +kernel
theorem dX13_tellLocal_30 : decode cX13_tellLocal 30 = .ok (.invokevirtual 329, 3) := by decide +kernel
theorem dX13_tellLocal_33 : decode cX13_tellLocal 33 = .ok (.aload_n 0, 1) := by decide +kernel
theorem dX13_tellLocal_34 : decode cX13_tellLocal 34 = .ok (.getfield 72, 3) := by decide +kernel
theorem dX13_tellLocal_37 : decode cX13_tellLocal 37 = .ok (.iload_n 1, 1) := by decide +kernel
theorem dX13_tellLocal_38 : decode cX13_tellLocal 38 = .ok (.aload_n 0, 1) := by decide +kernel
theorem dX13_tellLocal_39 : decode cX13_tellLocal 39 = .ok (.getfield 306, 3) := by decide +kernel
theorem dX13_tellLocal_42 : decode cX13_tellLocal 42 = .ok (.iastore, 1) := by decide +kernel
theorem dX13_tellLocal_43 : decode cX13_tellLocal 43 = .ok (.aload_n 0, 1) := by decide +kernel
theorem dX13_tellLocal_44 : decode cX13_tellLocal 44 = .ok (.invokevirtual 403, 3) := by decide +kernel
theorem dX13_tellLocal_47 : decode cX13_tellLocal 47 = .ok (.pop, 1) := by decide +kernel
theorem dX13_tellLocal_48 : decode cX13_tellLocal 48 = .ok (.aload_n 0, 1) := by decide +kernel
theorem dX13_tellLocal_49 : decode cX13_tellLocal 49 = .ok (.bipush 59, 2) := by decide +kernel
theorem dX13_tellLocal_51 : decode cX13_tellLocal 51 = .ok (.invokevirtual 329, 3) := by decide +kernel
theorem dX13_tellLocal_54 : decode cX13_tellLocal 54 = .ok (.aload_n 0, 1) := by decide +kernel
theorem dX13_tellLocal_55 : decode cX13_tellLocal 55 = .ok (.invokevirtual 325, 3) := by decide +kernel
theorem dX13_tellLocal_58 : decode cX13_tellLocal 58 = .ok (.ifCond .eq 57, 3) := by decide +kernel
theorem dX13_tellLocal_61 : decode cX13_tellLocal 61 = .ok (.aload_n 0, 1) := by decide +kernel
theorem dX13_tellLocal_62 : decode cX13_tellLocal 62 = .ok (.getfield 93, 3) := by decide +kernel
theorem dX13_tellLocal_65 : decode cX13_tellLocal 65 = .ok (.iload_n 2, 1) := by decide +kernel
theorem dX13_tellLocal_66 : decode cX13_tellLocal 66 = .ok (.bipush 100, 2) := by decide +kernel
theorem dX13_tellLocal_68 : decode cX13_tellLocal 68 = .ok (.aload_n 0, 1) := by decide +kernel
theorem dX13_tellLocal_69 : decode cX13_tellLocal 69 = .ok (.getfield 57, 3) := by decide +kernel
theorem dX13_tellLocal_72 : decode cX13_tellLocal 72 = .ok (.aload_n 0, 1) := by decide +kernel
theorem dX13_tellLocal_73 : decode cX13_tellLocal 73 = .ok (.getfield 346, 3) := by decide +kernel
theorem dX13_tellLocal_76 : decode cX13_tellLocal 76 = .ok (.iaload, 1) := by decide +kernel
theorem dX13_tellLocal_77 : decode cX13_tellLocal 77 = .ok (.iadd, 1) := by decide +kernel
theorem dX13_tellLocal_78 : decode cX13_tellLocal 78 = .ok (.iastore, 1) := by decide +kernel
theorem dX13_tellLocal_79 : decode cX13_tellLocal 79 = .ok (.aload_n 0, 1) := by decide +kernel
theorem dX13_tellLocal_80 : decode cX13_tellLocal 80 = .ok (.getfield 60, 3) := by decide +kernel
theorem dX13_tellLocal_83 : decode cX13_tellLocal 83 = .ok (.bipush 8, 2) := by decide +kernel
theorem dX13_tellLocal_85 : decode cX13_tellLocal 85 = .ok (.aload_n 0, 1) := by decide +kernel
theorem dX13_tellLocal_86 : decode cX13_tellLocal 86 = .ok (.getfield 346, 3) := by decide +kernel
theorem dX13_tellLocal_89 : decode cX13_tellLocal 89 = .ok (.imul, 1) := by decide +kernel
theorem dX13_tellLocal_90 : decode cX13_tellLocal 90 = .ok (.aload_n 0, 1) := by decide +kernel
theorem dX13_tellLocal_91 : decode cX13_tellLocal 91 = .ok (.getfield 57, 3) := by decide +kernel
theorem dX13_tellLocal_94 : decode cX13_tellLocal 94 = .ok (.aload_n 0, 1) := by decide +kernel
theorem dX13_tellLocal_95 : decode cX13_tellLocal 95 = .ok (.getfield 346, 3) := by decide +kernel
theorem dX13_tellLocal_98 : decode cX13_tellLocal 98 = .ok (.iaload, 1) := by decide +kernel
theorem dX13_tellLocal_99 : decode cX13_tellLocal 99 = .ok (.iadd, 1) := by decide +kernel
theorem dX13_tellLocal_100 : decode cX13_tellLocal 100 = .ok (.iload_n 2, 1) := by decide +kernel
theorem dX13_tellLocal_101 : decode cX13_tellLocal 101 = .ok (.iastore, 1) := by decide +kernel
theorem dX13_tellLocal_102 : decode cX13_tellLocal 102 = .ok (.aload_n 0, 1) := by decide +kernel
theorem dX13_tellLocal_103 : decode cX13_tellLocal 103 = .ok (.getfield 57, 3) := by decide +kernel
theorem dX13_tellLocal_106 : decode cX13_tellLocal 106 = .ok (.aload_n 0, 1) := by decide +kernel
theorem dX13_tellLocal_107 : decode cX13_tellLocal 107 = .ok (.getfield 346, 3) := by decide +kernel
theorem dX13_tellLocal_110 : decode cX13_tellLocal 110 = .ok (.dup2, 1) := by decide +kernel
theorem dX13_tellLocal_111 : decode cX13_tellLocal 111 = .ok (.iaload, 1) := by decide +kernel
theorem dX13_tellLocal_112 : decode cX13_tellLocal 112 = .ok (.iconst 1, 1) := by decide +kernel
theorem dX13_tellLocal_113 : decode cX13_tellLocal 113 = .ok (.iadd, 1) := by decide +kernel
theorem dX13_tellLocal_114 : decode cX13_tellLocal 114 = .ok (.iastore, 1) := by decide +kernel
theorem dX13_tellLocal_115 : decode cX13_tellLocal 115 = .ok (.return_, 1) := by decide +kernel
def w_tellLocal_0 (C : rCx) (Q : rS → Prop)   (σ : rS) : Prop :=
  cI C 1 m_newStatement [.ref (co C), .int (1 : Int32)] σ (fun r2 σ1 =>
    cV C 2 m_go [.ref (co C)] σ1 (fun σ3 =>
      inb (σ3.1 41) 10 ∧
      cI C 3 m_fresh [.ref (co C), .int (1 : Int32), .int (σ3.2.2.1 27 ((σ3.1 41)).toNatClampNeg), .int (8 : Int32)] σ3 (fun r6 σ5 =>
        cV C 3 m_sign [.ref (co C), .int (61 : Int32)] σ5 (fun σ7 =>
          inb r2 150 ∧
          ∀ σ9, σ9 = riU σ7 32 (r2).toNatClampNeg (σ7.1 10) →
          cI C 6 m_expression [.ref (co C)] σ9 (fun r11 σ10 =>
            cV C 3 m_sign [.ref (co C), .int (59 : Int32)] σ10 (fun σ12 =>
              cI C 0 m_isRight [.ref (co C)] σ12 (fun r15 σ14 =>
                (r15 = 0 →
                  Q σ14) ∧
                (¬ (r15 = 0) →
                  inb (σ14.1 41) 10 ∧
                  inb r6 131074 ∧
                  ∀ σ16, σ16 = riU σ14 39 (r6).toNatClampNeg ((100 : Int32) + (σ14.2.2.1 27 ((σ14.1 41)).toNatClampNeg)) →
                  inb (σ16.1 41) 10 ∧
                  inb (((8 : Int32) * (σ16.1 41)) + (σ16.2.2.1 27 ((σ16.1 41)).toNatClampNeg)) 80 ∧
                  ∀ σ17, σ17 = riU σ16 28 ((((8 : Int32) * (σ16.1 41)) + (σ16.2.2.1 27 ((σ16.1 41)).toNatClampNeg))).toNatClampNeg r6 →
                  inb (σ17.1 41) 10 ∧
                  inb (σ17.1 41) 10 ∧
                  ∀ σ18, σ18 = riU σ17 27 ((σ17.1 41)).toNatClampNeg ((σ17.2.2.1 27 ((σ17.1 41)).toNatClampNeg) + (1 : Int32)) →
                  Q σ18))))))))
theorem t_tellLocal_0 {C : rCx} (hC : cOK C) {Q : rS → Prop}    {σ : rS} (F : w_tellLocal_0 C Q   σ) : wG C 7 m_tellLocal 0 [some (.ref (co C)), none, none] [] σ (qV Q) := by
  unfold w_tellLocal_0 at F
  refine s_aln dX13_tellLocal_0 rfl ?_
  refine s_ic dX13_tellLocal_1 ki_1 ?_
  refine k_400 dX13_tellLocal_2 rfl (Nat.le_of_ble_eq_true rfl) (Nat.le_of_ble_eq_true rfl) F (fun r2 σ1 F => ?_)
  refine s_isn dX13_tellLocal_5 (Nat.le_of_ble_eq_true rfl) rfl ?_
  refine s_aln dX13_tellLocal_6 rfl ?_
  refine k_319 dX13_tellLocal_7 rfl (Nat.le_of_ble_eq_true rfl) (Nat.le_of_ble_eq_true rfl) F (fun σ3 F => ?_)
  refine s_aln dX13_tellLocal_10 rfl ?_
  refine s_ic dX13_tellLocal_11 ki_1 ?_
  refine s_aln dX13_tellLocal_12 rfl ?_
  refine gf_57 dX13_tellLocal_13 rfl ?_
  refine s_aln dX13_tellLocal_16 rfl ?_
  refine gf_346 dX13_tellLocal_17 rfl ?_
  refine s_ald hC dX13_tellLocal_20 rt_27 F.1 ?_
  replace F := F.2
  refine s_bi dX13_tellLocal_21 kb_8 ?_
  refine k_355 dX13_tellLocal_23 rfl (Nat.le_of_ble_eq_true rfl) (Nat.le_of_ble_eq_true rfl) F (fun r6 σ5 F => ?_)
  refine s_isn dX13_tellLocal_26 (Nat.le_of_ble_eq_true rfl) rfl ?_
  refine s_aln dX13_tellLocal_27 rfl ?_
  refine s_bi dX13_tellLocal_28 kb_61 ?_
  refine k_329 dX13_tellLocal_30 rfl (Nat.le_of_ble_eq_true rfl) (Nat.le_of_ble_eq_true rfl) F (fun σ7 F => ?_)
  refine s_aln dX13_tellLocal_33 rfl ?_
  refine gf_72 dX13_tellLocal_34 rfl ?_
  refine s_iln dX13_tellLocal_37 rfl ?_
  refine s_aln dX13_tellLocal_38 rfl ?_
  refine gf_306 dX13_tellLocal_39 rfl ?_
  refine s_astb hC dX13_tellLocal_42 rt_32 F.1 (fun σ9 eσ9 => ?_)
  replace F := F.2 σ9 eσ9
  refine s_aln dX13_tellLocal_43 rfl ?_
  refine k_403 dX13_tellLocal_44 rfl (Nat.le_of_ble_eq_true rfl) (Nat.le_of_ble_eq_true rfl) F (fun r11 σ10 F => ?_)
  refine s_pop dX13_tellLocal_47 rfl ?_
  refine s_aln dX13_tellLocal_48 rfl ?_
  refine s_bi dX13_tellLocal_49 kb_59 ?_
  refine k_329 dX13_tellLocal_51 rfl (Nat.le_of_ble_eq_true rfl) (Nat.le_of_ble_eq_true rfl) F (fun σ12 F => ?_)
  refine s_aln dX13_tellLocal_54 rfl ?_
  refine k_325 dX13_tellLocal_55 rfl (Nat.le_of_ble_eq_true rfl) (Nat.le_of_ble_eq_true rfl) F (fun r15 σ14 F => ?_)
  refine s_i (t := 115) (r15 = 0) dX13_tellLocal_58 rfl rfl (fun hc => ?_) (fun hc => ?_)
  · replace F := F.1 hc
    exact s_rv dX13_tellLocal_115 rfl F
  · replace F := F.2 hc
    refine s_aln dX13_tellLocal_61 rfl ?_
    refine gf_93 dX13_tellLocal_62 rfl ?_
    refine s_iln dX13_tellLocal_65 rfl ?_
    refine s_bi dX13_tellLocal_66 kb_100 ?_
    refine s_aln dX13_tellLocal_68 rfl ?_
    refine gf_57 dX13_tellLocal_69 rfl ?_
    refine s_aln dX13_tellLocal_72 rfl ?_
    refine gf_346 dX13_tellLocal_73 rfl ?_
    refine s_ald hC dX13_tellLocal_76 rt_27 F.1 ?_
    replace F := F.2
    refine s_iadd dX13_tellLocal_77 ?_
    refine s_astb hC dX13_tellLocal_78 rt_39 F.1 (fun σ16 eσ16 => ?_)
    replace F := F.2 σ16 eσ16
    refine s_aln dX13_tellLocal_79 rfl ?_
    refine gf_60 dX13_tellLocal_80 rfl ?_
    refine s_bi dX13_tellLocal_83 kb_8 ?_
    refine s_aln dX13_tellLocal_85 rfl ?_
    refine gf_346 dX13_tellLocal_86 rfl ?_
    refine s_imul dX13_tellLocal_89 ?_
    refine s_aln dX13_tellLocal_90 rfl ?_
    refine gf_57 dX13_tellLocal_91 rfl ?_
    refine s_aln dX13_tellLocal_94 rfl ?_
    refine gf_346 dX13_tellLocal_95 rfl ?_
    refine s_ald hC dX13_tellLocal_98 rt_27 F.1 ?_
    replace F := F.2
    refine s_iadd dX13_tellLocal_99 ?_
    refine s_iln dX13_tellLocal_100 rfl ?_
    refine s_astb hC dX13_tellLocal_101 rt_28 F.1 (fun σ17 eσ17 => ?_)
    replace F := F.2 σ17 eσ17
    refine s_aln dX13_tellLocal_102 rfl ?_
    refine gf_57 dX13_tellLocal_103 rfl ?_
    refine s_aln dX13_tellLocal_106 rfl ?_
    refine gf_346 dX13_tellLocal_107 rfl ?_
    refine s_dup2 dX13_tellLocal_110 rfl rfl ?_
    refine s_ald hC dX13_tellLocal_111 rt_27 F.1 ?_
    replace F := F.2
    refine s_ic dX13_tellLocal_112 ki_1 ?_
    refine s_iadd dX13_tellLocal_113 ?_
    refine s_astb hC dX13_tellLocal_114 rt_27 F.1 (fun σ18 eσ18 => ?_)
    replace F := F.2 σ18 eσ18
    exact s_rv dX13_tellLocal_115 rfl F

theorem m_tellLocal_run {C : rCx} (hC : cOK C) {Q : rS → Prop}  {σ : rS} (F : w_tellLocal_0 C Q  σ) : cV C 7 m_tellLocal [.ref (co C)] σ Q := m_V (m_ent _ 2) (t_tellLocal_0 hC F)

theorem dX13_tellStatement_0 : decode cX13_tellStatement 0 = .ok (.aload_n 0, 1) := by decide +kernel
theorem dX13_tellStatement_1 : decode cX13_tellStatement 1 = .ok (.getfield 19, 3) := by decide +kernel
theorem dX13_tellStatement_4 : decode cX13_tellStatement 4 = .ok (.aload_n 0, 1) := by decide +kernel
theorem dX13_tellStatement_5 : decode cX13_tellStatement 5 = .ok (.getfield 306, 3) := by decide +kernel
theorem dX13_tellStatement_8 : decode cX13_tellStatement 8 = .ok (.baload, 1) := by decide +kernel
theorem dX13_tellStatement_9 : decode cX13_tellStatement 9 = .ok (.iconst 1, 1) := by decide +kernel
theorem dX13_tellStatement_10 : decode cX13_tellStatement 10 = .ok (.if_icmp .ne 10, 3) := by decide +kernel
theorem dX13_tellStatement_13 : decode cX13_tellStatement 13 = .ok (.aload_n 0, 1) := by decide +kernel
theorem dX13_tellStatement_14 : decode cX13_tellStatement 14 = .ok (.invokevirtual 394, 3) := by decide +kernel
theorem dX13_tellStatement_17 : decode cX13_tellStatement 17 = .ok (.goto 188, 3) := by decide +kernel
theorem dX13_tellStatement_20 : decode cX13_tellStatement 20 = .ok (.aload_n 0, 1) := by decide +kernel
theorem dX13_tellStatement_21 : decode cX13_tellStatement 21 = .ok (.iconst 4, 1) := by decide +kernel
theorem dX13_tellStatement_22 : decode cX13_tellStatement 22 = .ok (.invokevirtual 391, 3) := by decide +kernel
theorem dX13_tellStatement_25 : decode cX13_tellStatement 25 = .ok (.ifCond .eq 10, 3) := by decide +kernel
theorem dX13_tellStatement_28 : decode cX13_tellStatement 28 = .ok (.aload_n 0, 1) := by decide +kernel
theorem dX13_tellStatement_29 : decode cX13_tellStatement 29 = .ok (.invokevirtual 397, 3) := by decide +kernel
theorem dX13_tellStatement_32 : decode cX13_tellStatement 32 = .ok (.goto 173, 3) := by decide +kernel
theorem dX13_tellStatement_35 : decode cX13_tellStatement 35 = .ok (.aload_n 0, 1) := by decide +kernel
theorem dX13_tellStatement_36 : decode cX13_tellStatement 36 = .ok (.iconst 5, 1) := by decide +kernel
theorem dX13_tellStatement_37 : decode cX13_tellStatement 37 = .ok (.invokevirtual 391, 3) := by decide +kernel
theorem dX13_tellStatement_40 : decode cX13_tellStatement 40 = .ok (.ifCond .ne 12, 3) := by decide +kernel
theorem dX13_tellStatement_43 : decode cX13_tellStatement 43 = .ok (.aload_n 0, 1) := by decide +kernel
theorem dX13_tellStatement_44 : decode cX13_tellStatement 44 = .ok (.bipush 7, 2) := by decide +kernel
theorem dX13_tellStatement_46 : decode cX13_tellStatement 46 = .ok (.invokevirtual 391, 3) := by decide +kernel
theorem dX13_tellStatement_49 : decode cX13_tellStatement 49 = .ok (.ifCond .eq 57, 3) := by decide +kernel
theorem dX13_tellStatement_52 : decode cX13_tellStatement 52 = .ok (.aload_n 0, 1) := by decide +kernel
theorem dX13_tellStatement_53 : decode cX13_tellStatement 53 = .ok (.aload_n 0, 1) := by decide +kernel
theorem dX13_tellStatement_54 : decode cX13_tellStatement 54 = .ok (.iconst 5, 1) := by decide +kernel
theorem dX13_tellStatement_55 : decode cX13_tellStatement 55 = .ok (.invokevirtual 391, 3) := by decide +kernel
theorem dX13_tellStatement_58 : decode cX13_tellStatement 58 = .ok (.ifCond .eq 8, 3) := by decide +kernel
theorem dX13_tellStatement_61 : decode cX13_tellStatement 61 = .ok (.bipush 6, 2) := by decide +kernel
theorem dX13_tellStatement_63 : decode cX13_tellStatement 63 = .ok (.goto 5, 3) := by decide +kernel
theorem dX13_tellStatement_66 : decode cX13_tellStatement 66 = .ok (.bipush 7, 2) := by decide +kernel
theorem dX13_tellStatement_68 : decode cX13_tellStatement 68 = .ok (.invokevirtual 400, 3) := by decide +kernel
theorem dX13_tellStatement_71 : decode cX13_tellStatement 71 = .ok (.istore_n 1, 1) := by decide +kernel
theorem dX13_tellStatement_72 : decode cX13_tellStatement 72 = .ok (.aload_n 0, 1) := by decide +kernel
theorem dX13_tellStatement_73 : decode cX13_tellStatement 73 = .ok (.invokevirtual 319, 3) := by decide +kernel
theorem dX13_tellStatement_76 : decode cX13_tellStatement 76 = .ok (.aload_n 0, 1) := by decide +kernel
theorem dX13_tellStatement_77 : decode cX13_tellStatement 77 = .ok (.getfield 72, 3) := by decide +kernel
theorem dX13_tellStatement_80 : decode cX13_tellStatement 80 = .ok (.iload_n 1, 1) := by decide +kernel
theorem dX13_tellStatement_81 : decode cX13_tellStatement 81 = .ok (.aload_n 0, 1) := by decide +kernel
theorem dX13_tellStatement_82 : decode cX13_tellStatement 82 = .ok (.getfield 306, 3) := by decide +kernel
theorem dX13_tellStatement_85 : decode cX13_tellStatement 85 = .ok (.iastore, 1) := by decide +kernel
theorem dX13_tellStatement_86 : decode cX13_tellStatement 86 = .ok (.aload_n 0, 1) := by decide +kernel
theorem dX13_tellStatement_87 : decode cX13_tellStatement 87 = .ok (.invokevirtual 403, 3) := by decide +kernel
theorem dX13_tellStatement_90 : decode cX13_tellStatement 90 = .ok (.pop, 1) := by decide +kernel
theorem dX13_tellStatement_91 : decode cX13_tellStatement 91 = .ok (.aload_n 0, 1) := by decide +kernel
theorem dX13_tellStatement_92 : decode cX13_tellStatement 92 = .ok (.bipush 123, 2) := by decide +kernel
theorem dX13_tellStatement_94 : decode cX13_tellStatement 94 = .ok (.invokevirtual 359, 3) := by decide +kernel
theorem dX13_tellStatement_97 : decode cX13_tellStatement 97 = .ok (.aload_n 0, 1) := by decide +kernel
theorem dX13_tellStatement_98 : decode cX13_tellStatement 98 = .ok (.iload_n 1, 1) := by decide +kernel
theorem dX13_tellStatement_99 : decode cX13_tellStatement 99 = .ok (.iconst 0, 1) := by decide +kernel
theorem dX13_tellStatement_100 : decode cX13_tellStatement 100 = .ok (.invokevirtual 381, 3) := by decide +kernel
theorem dX13_tellStatement_103 : decode cX13_tellStatement 103 = .ok (.goto 102, 3) := by decide +kernel
theorem dX13_tellStatement_106 : decode cX13_tellStatement 106 = .ok (.aload_n 0, 1) := by decide +kernel
theorem dX13_tellStatement_107 : decode cX13_tellStatement 107 = .ok (.bipush 8, 2) := by decide +kernel
theorem dX13_tellStatement_109 : decode cX13_tellStatement 109 = .ok (.invokevirtual 391, 3) := by decide +kernel
theorem dX13_tellStatement_112 : decode cX13_tellStatement 112 = .ok (.ifCond .ne 21, 3) := by decide +kernel
theorem dX13_tellStatement_115 : decode cX13_tellStatement 115 = .ok (.aload_n 0, 1) := by decide +kernel
theorem dX13_tellStatement_116 : decode cX13_tellStatement 116 = .ok (.bipush 9, 2) := by decide +kernel
theorem dX13_tellStatement_118 : decode cX13_tellStatement 118 = .ok (.invokevirtual 391, 3) := by decide +kernel
theorem dX13_tellStatement_121 : decode cX13_tellStatement 121 = .ok (.ifCond .ne 12, 3) := by decide +kernel
theorem dX13_tellStatement_124 : decode cX13_tellStatement 124 = .ok (.aload_n 0, 1) := by decide +kernel
theorem dX13_tellStatement_125 : decode cX13_tellStatement 125 = .ok (.bipush 10, 2) := by decide +kernel
theorem dX13_tellStatement_127 : decode cX13_tellStatement 127 = .ok (.invokevirtual 391, 3) := by decide +kernel
theorem dX13_tellStatement_130 : decode cX13_tellStatement 130 = .ok (.ifCond .eq 66, 3) := by decide +kernel
theorem dX13_tellStatement_133 : decode cX13_tellStatement 133 = .ok (.aload_n 0, 1) := by decide +kernel
theorem dX13_tellStatement_134 : decode cX13_tellStatement 134 = .ok (.aload_n 0, 1) := by decide +kernel
theorem dX13_tellStatement_135 : decode cX13_tellStatement 135 = .ok (.bipush 8, 2) := by decide +kernel
theorem dX13_tellStatement_137 : decode cX13_tellStatement 137 = .ok (.invokevirtual 391, 3) := by decide +kernel
theorem dX13_tellStatement_140 : decode cX13_tellStatement 140 = .ok (.ifCond .eq 8, 3) := by decide +kernel
theorem dX13_tellStatement_143 : decode cX13_tellStatement 143 = .ok (.bipush 8, 2) := by decide +kernel
theorem dX13_tellStatement_145 : decode cX13_tellStatement 145 = .ok (.goto 19, 3) := by decide +kernel
theorem dX13_tellStatement_148 : decode cX13_tellStatement 148 = .ok (.aload_n 0, 1) := by decide +kernel
theorem dX13_tellStatement_149 : decode cX13_tellStatement 149 = .ok (.bipush 9, 2) := by decide +kernel
theorem dX13_tellStatement_151 : decode cX13_tellStatement 151 = .ok (.invokevirtual 391, 3) := by decide +kernel
theorem dX13_tellStatement_154 : decode cX13_tellStatement 154 = .ok (.ifCond .eq 8, 3) := by decide +kernel
theorem dX13_tellStatement_157 : decode cX13_tellStatement 157 = .ok (.bipush 9, 2) := by decide +kernel
theorem dX13_tellStatement_159 : decode cX13_tellStatement 159 = .ok (.goto 5, 3) := by decide +kernel
theorem dX13_tellStatement_162 : decode cX13_tellStatement 162 = .ok (.bipush 10, 2) := by decide +kernel
theorem dX13_tellStatement_164 : decode cX13_tellStatement 164 = .ok (.invokevirtual 400, 3) := by decide +kernel
theorem dX13_tellStatement_167 : decode cX13_tellStatement 167 = .ok (.istore_n 1, 1) := by decide +kernel
theorem dX13_tellStatement_168 : decode cX13_tellStatement 168 = .ok (.aload_n 0, 1) := by decide +kernel
theorem dX13_tellStatement_169 : decode cX13_tellStatement 169 = .ok (.invokevirtual 319, 3) := by decide +kernel
theorem dX13_tellStatement_172 : decode cX13_tellStatement 172 = .ok (.aload_n 0, 1) := by decide +kernel
theorem dX13_tellStatement_173 : decode cX13_tellStatement 173 = .ok (.getfield 72, 3) := by decide +kernel
theorem dX13_tellStatement_176 : decode cX13_tellStatement 176 = .ok (.iload_n 1, 1) := by decide +kernel
theorem dX13_tellStatement_177 : decode cX13_tellStatement 177 = .ok (.aload_n 0, 1) := by decide +kernel
theorem dX13_tellStatement_178 : decode cX13_tellStatement 178 = .ok (.getfield 306, 3) := by decide +kernel
theorem dX13_tellStatement_181 : decode cX13_tellStatement 181 = .ok (.iastore, 1) := by decide +kernel
theorem dX13_tellStatement_182 : decode cX13_tellStatement 182 = .ok (.aload_n 0, 1) := by decide +kernel
theorem dX13_tellStatement_183 : decode cX13_tellStatement 183 = .ok (.invokevirtual 403, 3) := by decide +kernel
theorem dX13_tellStatement_186 : decode cX13_tellStatement 186 = .ok (.pop, 1) := by decide +kernel
theorem dX13_tellStatement_187 : decode cX13_tellStatement 187 = .ok (.aload_n 0, 1) := by decide +kernel
theorem dX13_tellStatement_188 : decode cX13_tellStatement 188 = .ok (.bipush 59, 2) := by decide +kernel
theorem dX13_tellStatement_190 : decode cX13_tellStatement 190 = .ok (.invokevirtual 329, 3) := by decide +kernel
theorem dX13_tellStatement_193 : decode cX13_tellStatement 193 = .ok (.goto 12, 3) := by decide +kernel
theorem dX13_tellStatement_196 : decode cX13_tellStatement 196 = .ok (.aload_n 0, 1) := by decide +kernel
theorem dX13_tellStatement_197 : decode cX13_tellStatement 197 = .ok (.iconst 2, 1) := by decide +kernel
theorem dX13_tellStatement_198 : decode cX13_tellStatement 198 = .ok (.aload_n 0, 1) := by decide +kernel
theorem dX13_tellStatement_199 : decode cX13_tellStatement 199 = .ok (.getfield 306, 3) := by decide +kernel
theorem dX13_tellStatement_202 : decode cX13_tellStatement 202 = .ok (.invokevirtual 312, 3) := by decide +kernel
theorem dX13_tellStatement_205 : decode cX13_tellStatement 205 = .ok (.return_, 1) := by decide +kernel
def w_tellStatement_68 (C : rCx) (Q : rS → Prop)  (s1 : Int32) (σ : rS) : Prop :=
  cI C 1 m_newStatement [.ref (co C), .int s1] σ (fun r2 σ1 =>
    cV C 2 m_go [.ref (co C)] σ1 (fun σ3 =>
      inb r2 150 ∧
      ∀ σ5, σ5 = riU σ3 32 (r2).toNatClampNeg (σ3.1 10) →
      cI C 6 m_expression [.ref (co C)] σ5 (fun r7 σ6 =>
        cV C 3 m_open [.ref (co C), .int (123 : Int32)] σ6 (fun σ8 =>
          cV C 0 m_openBlock [.ref (co C), .int r2, .int (0 : Int32)] σ8 (fun σ10 =>
            Q σ10)))))
theorem t_tellStatement_68 {C : rCx} (hC : cOK C) {Q : rS → Prop}   {s1 : Int32} {σ : rS} (F : w_tellStatement_68 C Q  s1 σ) : wG C 9 m_tellStatement 68 [some (.ref (co C)), none] [.int s1, .ref (co C)] σ (qV Q) := by
  unfold w_tellStatement_68 at F
  refine k_400 dX13_tellStatement_68 rfl (Nat.le_of_ble_eq_true rfl) (Nat.le_of_ble_eq_true rfl) F (fun r2 σ1 F => ?_)
  refine s_isn dX13_tellStatement_71 (Nat.le_of_ble_eq_true rfl) rfl ?_
  refine s_aln dX13_tellStatement_72 rfl ?_
  refine k_319 dX13_tellStatement_73 rfl (Nat.le_of_ble_eq_true rfl) (Nat.le_of_ble_eq_true rfl) F (fun σ3 F => ?_)
  refine s_aln dX13_tellStatement_76 rfl ?_
  refine gf_72 dX13_tellStatement_77 rfl ?_
  refine s_iln dX13_tellStatement_80 rfl ?_
  refine s_aln dX13_tellStatement_81 rfl ?_
  refine gf_306 dX13_tellStatement_82 rfl ?_
  refine s_astb hC dX13_tellStatement_85 rt_32 F.1 (fun σ5 eσ5 => ?_)
  replace F := F.2 σ5 eσ5
  refine s_aln dX13_tellStatement_86 rfl ?_
  refine k_403 dX13_tellStatement_87 rfl (Nat.le_of_ble_eq_true rfl) (Nat.le_of_ble_eq_true rfl) F (fun r7 σ6 F => ?_)
  refine s_pop dX13_tellStatement_90 rfl ?_
  refine s_aln dX13_tellStatement_91 rfl ?_
  refine s_bi dX13_tellStatement_92 kb_123 ?_
  refine k_359 dX13_tellStatement_94 rfl (Nat.le_of_ble_eq_true rfl) (Nat.le_of_ble_eq_true rfl) F (fun σ8 F => ?_)
  refine s_aln dX13_tellStatement_97 rfl ?_
  refine s_iln dX13_tellStatement_98 rfl ?_
  refine s_ic dX13_tellStatement_99 ki_0 ?_
  refine k_381 dX13_tellStatement_100 rfl (Nat.le_of_ble_eq_true rfl) (Nat.le_of_ble_eq_true rfl) F (fun σ10 F => ?_)
  refine s_goto (t := 205) dX13_tellStatement_103 rfl ?_
  exact s_rv dX13_tellStatement_205 rfl F

def w_tellStatement_52 (C : rCx) (Q : rS → Prop)   (σ : rS) : Prop :=
  cI C 0 m_isWord [.ref (co C), .int (5 : Int32)] σ (fun r2 σ1 =>
    (r2 = 0 →
      w_tellStatement_68 C Q  (7 : Int32) σ1) ∧
    (¬ (r2 = 0) →
      w_tellStatement_68 C Q  (6 : Int32) σ1))
theorem t_tellStatement_52 {C : rCx} (hC : cOK C) {Q : rS → Prop}    {σ : rS} (F : w_tellStatement_52 C Q   σ) : wG C 9 m_tellStatement 52 [some (.ref (co C)), none] [] σ (qV Q) := by
  unfold w_tellStatement_52 at F
  refine s_aln dX13_tellStatement_52 rfl ?_
  refine s_aln dX13_tellStatement_53 rfl ?_
  refine s_ic dX13_tellStatement_54 ki_5 ?_
  refine k_391 dX13_tellStatement_55 rfl (Nat.le_of_ble_eq_true rfl) (Nat.le_of_ble_eq_true rfl) F (fun r2 σ1 F => ?_)
  refine s_i (t := 66) (r2 = 0) dX13_tellStatement_58 rfl rfl (fun hc => ?_) (fun hc => ?_)
  · replace F := F.1 hc
    refine s_bi dX13_tellStatement_66 kb_7 ?_
    exact s_k (t_tellStatement_68 hC  F) ⟨rfl, trivial⟩
  · replace F := F.2 hc
    refine s_bi dX13_tellStatement_61 kb_6 ?_
    refine s_goto (t := 68) dX13_tellStatement_63 rfl ?_
    exact s_k (t_tellStatement_68 hC  F) ⟨rfl, trivial⟩

def w_tellStatement_164 (C : rCx) (Q : rS → Prop)  (s1 : Int32) (σ : rS) : Prop :=
  cI C 1 m_newStatement [.ref (co C), .int s1] σ (fun r2 σ1 =>
    cV C 2 m_go [.ref (co C)] σ1 (fun σ3 =>
      inb r2 150 ∧
      ∀ σ5, σ5 = riU σ3 32 (r2).toNatClampNeg (σ3.1 10) →
      cI C 6 m_expression [.ref (co C)] σ5 (fun r7 σ6 =>
        cV C 3 m_sign [.ref (co C), .int (59 : Int32)] σ6 (fun σ8 =>
          Q σ8))))
theorem t_tellStatement_164 {C : rCx} (hC : cOK C) {Q : rS → Prop}   {s1 : Int32} {σ : rS} (F : w_tellStatement_164 C Q  s1 σ) : wG C 9 m_tellStatement 164 [some (.ref (co C)), none] [.int s1, .ref (co C)] σ (qV Q) := by
  unfold w_tellStatement_164 at F
  refine k_400 dX13_tellStatement_164 rfl (Nat.le_of_ble_eq_true rfl) (Nat.le_of_ble_eq_true rfl) F (fun r2 σ1 F => ?_)
  refine s_isn dX13_tellStatement_167 (Nat.le_of_ble_eq_true rfl) rfl ?_
  refine s_aln dX13_tellStatement_168 rfl ?_
  refine k_319 dX13_tellStatement_169 rfl (Nat.le_of_ble_eq_true rfl) (Nat.le_of_ble_eq_true rfl) F (fun σ3 F => ?_)
  refine s_aln dX13_tellStatement_172 rfl ?_
  refine gf_72 dX13_tellStatement_173 rfl ?_
  refine s_iln dX13_tellStatement_176 rfl ?_
  refine s_aln dX13_tellStatement_177 rfl ?_
  refine gf_306 dX13_tellStatement_178 rfl ?_
  refine s_astb hC dX13_tellStatement_181 rt_32 F.1 (fun σ5 eσ5 => ?_)
  replace F := F.2 σ5 eσ5
  refine s_aln dX13_tellStatement_182 rfl ?_
  refine k_403 dX13_tellStatement_183 rfl (Nat.le_of_ble_eq_true rfl) (Nat.le_of_ble_eq_true rfl) F (fun r7 σ6 F => ?_)
  refine s_pop dX13_tellStatement_186 rfl ?_
  refine s_aln dX13_tellStatement_187 rfl ?_
  refine s_bi dX13_tellStatement_188 kb_59 ?_
  refine k_329 dX13_tellStatement_190 rfl (Nat.le_of_ble_eq_true rfl) (Nat.le_of_ble_eq_true rfl) F (fun σ8 F => ?_)
  refine s_goto (t := 205) dX13_tellStatement_193 rfl ?_
  exact s_rv dX13_tellStatement_205 rfl F

def w_tellStatement_133 (C : rCx) (Q : rS → Prop)   (σ : rS) : Prop :=
  cI C 0 m_isWord [.ref (co C), .int (8 : Int32)] σ (fun r2 σ1 =>
    (r2 = 0 →
      cI C 0 m_isWord [.ref (co C), .int (9 : Int32)] σ1 (fun r4 σ3 =>
        (r4 = 0 →
          w_tellStatement_164 C Q  (10 : Int32) σ3) ∧
        (¬ (r4 = 0) →
          w_tellStatement_164 C Q  (9 : Int32) σ3))) ∧
    (¬ (r2 = 0) →
      w_tellStatement_164 C Q  (8 : Int32) σ1))
theorem t_tellStatement_133 {C : rCx} (hC : cOK C) {Q : rS → Prop}    {σ : rS} (F : w_tellStatement_133 C Q   σ) : wG C 9 m_tellStatement 133 [some (.ref (co C)), none] [] σ (qV Q) := by
  unfold w_tellStatement_133 at F
  refine s_aln dX13_tellStatement_133 rfl ?_
  refine s_aln dX13_tellStatement_134 rfl ?_
  refine s_bi dX13_tellStatement_135 kb_8 ?_
  refine k_391 dX13_tellStatement_137 rfl (Nat.le_of_ble_eq_true rfl) (Nat.le_of_ble_eq_true rfl) F (fun r2 σ1 F => ?_)
  refine s_i (t := 148) (r2 = 0) dX13_tellStatement_140 rfl rfl (fun hc => ?_) (fun hc => ?_)
  · replace F := F.1 hc
    refine s_aln dX13_tellStatement_148 rfl ?_
    refine s_bi dX13_tellStatement_149 kb_9 ?_
    refine k_391 dX13_tellStatement_151 rfl (Nat.le_of_ble_eq_true rfl) (Nat.le_of_ble_eq_true rfl) F (fun r4 σ3 F => ?_)
    refine s_i (t := 162) (r4 = 0) dX13_tellStatement_154 rfl rfl (fun hc => ?_) (fun hc => ?_)
    · replace F := F.1 hc
      refine s_bi dX13_tellStatement_162 kb_10 ?_
      exact s_k (t_tellStatement_164 hC  F) ⟨rfl, trivial⟩
    · replace F := F.2 hc
      refine s_bi dX13_tellStatement_157 kb_9 ?_
      refine s_goto (t := 164) dX13_tellStatement_159 rfl ?_
      exact s_k (t_tellStatement_164 hC  F) ⟨rfl, trivial⟩
  · replace F := F.2 hc
    refine s_bi dX13_tellStatement_143 kb_8 ?_
    refine s_goto (t := 164) dX13_tellStatement_145 rfl ?_
    exact s_k (t_tellStatement_164 hC  F) ⟨rfl, trivial⟩

def w_tellStatement_0 (C : rCx) (Q : rS → Prop)   (σ : rS) : Prop :=
  inb (σ.1 10) 131074 ∧
  (¬ ((σ.2.2.1 5 ((σ.1 10)).toNatClampNeg) = (1 : Int32)) →
    cI C 0 m_isWord [.ref (co C), .int (4 : Int32)] σ (fun r2 σ1 =>
      (r2 = 0 →
        cI C 0 m_isWord [.ref (co C), .int (5 : Int32)] σ1 (fun r4 σ3 =>
          (¬ (r4 = 0) →
            w_tellStatement_52 C Q   σ3) ∧
          (r4 = 0 →
            cI C 0 m_isWord [.ref (co C), .int (7 : Int32)] σ3 (fun r6 σ5 =>
              (r6 = 0 →
                cI C 0 m_isWord [.ref (co C), .int (8 : Int32)] σ5 (fun r8 σ7 =>
                  (¬ (r8 = 0) →
                    w_tellStatement_133 C Q   σ7) ∧
                  (r8 = 0 →
                    cI C 0 m_isWord [.ref (co C), .int (9 : Int32)] σ7 (fun r10 σ9 =>
                      (¬ (r10 = 0) →
                        w_tellStatement_133 C Q   σ9) ∧
                      (r10 = 0 →
                        cI C 0 m_isWord [.ref (co C), .int (10 : Int32)] σ9 (fun r12 σ11 =>
                          (r12 = 0 →
                            cV C 0 m_flaw [.ref (co C), .int (2 : Int32), .int (σ11.1 10)] σ11 (fun σ13 =>
                              Q σ13)) ∧
                          (¬ (r12 = 0) →
                            w_tellStatement_133 C Q   σ11))))))) ∧
              (¬ (r6 = 0) →
                w_tellStatement_52 C Q   σ5))))) ∧
      (¬ (r2 = 0) →
        cV C 7 m_tellLocal [.ref (co C)] σ1 (fun σ15 =>
          Q σ15)))) ∧
  ((σ.2.2.1 5 ((σ.1 10)).toNatClampNeg) = (1 : Int32) →
    cV C 8 m_tellNamed [.ref (co C)] σ (fun σ17 =>
      Q σ17))
theorem t_tellStatement_0 {C : rCx} (hC : cOK C) {Q : rS → Prop}    {σ : rS} (F : w_tellStatement_0 C Q   σ) : wG C 9 m_tellStatement 0 [some (.ref (co C)), none] [] σ (qV Q) := by
  unfold w_tellStatement_0 at F
  refine s_aln dX13_tellStatement_0 rfl ?_
  refine gf_19 dX13_tellStatement_1 rfl ?_
  refine s_aln dX13_tellStatement_4 rfl ?_
  refine gf_306 dX13_tellStatement_5 rfl ?_
  refine s_bld hC dX13_tellStatement_8 rt_5 F.1 ?_
  replace F := F.2
  refine s_ic dX13_tellStatement_9 ki_1 ?_
  refine s_iin (t := 20) ((σ.2.2.1 5 ((σ.1 10)).toNatClampNeg) = (1 : Int32)) dX13_tellStatement_10 rfl rfl (fun hc => ?_) (fun hc => ?_)
  · replace F := F.1 hc
    refine s_aln dX13_tellStatement_20 rfl ?_
    refine s_ic dX13_tellStatement_21 ki_4 ?_
    refine k_391 dX13_tellStatement_22 rfl (Nat.le_of_ble_eq_true rfl) (Nat.le_of_ble_eq_true rfl) F (fun r2 σ1 F => ?_)
    refine s_i (t := 35) (r2 = 0) dX13_tellStatement_25 rfl rfl (fun hc => ?_) (fun hc => ?_)
    · replace F := F.1 hc
      refine s_aln dX13_tellStatement_35 rfl ?_
      refine s_ic dX13_tellStatement_36 ki_5 ?_
      refine k_391 dX13_tellStatement_37 rfl (Nat.le_of_ble_eq_true rfl) (Nat.le_of_ble_eq_true rfl) F (fun r4 σ3 F => ?_)
      refine s_in (t := 52) (r4 = 0) dX13_tellStatement_40 rfl rfl (fun hc => ?_) (fun hc => ?_)
      · replace F := F.1 hc
        exact s_k (t_tellStatement_52 hC  F) ⟨rfl, trivial⟩
      · replace F := F.2 hc
        refine s_aln dX13_tellStatement_43 rfl ?_
        refine s_bi dX13_tellStatement_44 kb_7 ?_
        refine k_391 dX13_tellStatement_46 rfl (Nat.le_of_ble_eq_true rfl) (Nat.le_of_ble_eq_true rfl) F (fun r6 σ5 F => ?_)
        refine s_i (t := 106) (r6 = 0) dX13_tellStatement_49 rfl rfl (fun hc => ?_) (fun hc => ?_)
        · replace F := F.1 hc
          refine s_aln dX13_tellStatement_106 rfl ?_
          refine s_bi dX13_tellStatement_107 kb_8 ?_
          refine k_391 dX13_tellStatement_109 rfl (Nat.le_of_ble_eq_true rfl) (Nat.le_of_ble_eq_true rfl) F (fun r8 σ7 F => ?_)
          refine s_in (t := 133) (r8 = 0) dX13_tellStatement_112 rfl rfl (fun hc => ?_) (fun hc => ?_)
          · replace F := F.1 hc
            exact s_k (t_tellStatement_133 hC  F) ⟨rfl, trivial⟩
          · replace F := F.2 hc
            refine s_aln dX13_tellStatement_115 rfl ?_
            refine s_bi dX13_tellStatement_116 kb_9 ?_
            refine k_391 dX13_tellStatement_118 rfl (Nat.le_of_ble_eq_true rfl) (Nat.le_of_ble_eq_true rfl) F (fun r10 σ9 F => ?_)
            refine s_in (t := 133) (r10 = 0) dX13_tellStatement_121 rfl rfl (fun hc => ?_) (fun hc => ?_)
            · replace F := F.1 hc
              exact s_k (t_tellStatement_133 hC  F) ⟨rfl, trivial⟩
            · replace F := F.2 hc
              refine s_aln dX13_tellStatement_124 rfl ?_
              refine s_bi dX13_tellStatement_125 kb_10 ?_
              refine k_391 dX13_tellStatement_127 rfl (Nat.le_of_ble_eq_true rfl) (Nat.le_of_ble_eq_true rfl) F (fun r12 σ11 F => ?_)
              refine s_i (t := 196) (r12 = 0) dX13_tellStatement_130 rfl rfl (fun hc => ?_) (fun hc => ?_)
              · replace F := F.1 hc
                refine s_aln dX13_tellStatement_196 rfl ?_
                refine s_ic dX13_tellStatement_197 ki_2 ?_
                refine s_aln dX13_tellStatement_198 rfl ?_
                refine gf_306 dX13_tellStatement_199 rfl ?_
                refine k_312 dX13_tellStatement_202 rfl (Nat.le_of_ble_eq_true rfl) (Nat.le_of_ble_eq_true rfl) F (fun σ13 F => ?_)
                exact s_rv dX13_tellStatement_205 rfl F
              · replace F := F.2 hc
                exact s_k (t_tellStatement_133 hC  F) ⟨rfl, trivial⟩
        · replace F := F.2 hc
          exact s_k (t_tellStatement_52 hC  F) ⟨rfl, trivial⟩
    · replace F := F.2 hc
      refine s_aln dX13_tellStatement_28 rfl ?_
      refine k_397 dX13_tellStatement_29 rfl (Nat.le_of_ble_eq_true rfl) (Nat.le_of_ble_eq_true rfl) F (fun σ15 F => ?_)
      refine s_goto (t := 205) dX13_tellStatement_32 rfl ?_
      exact s_rv dX13_tellStatement_205 rfl F
  · replace F := F.2 hc
    refine s_aln dX13_tellStatement_13 rfl ?_
    refine k_394 dX13_tellStatement_14 rfl (Nat.le_of_ble_eq_true rfl) (Nat.le_of_ble_eq_true rfl) F (fun σ17 F => ?_)
    refine s_goto (t := 205) dX13_tellStatement_17 rfl ?_
    exact s_rv dX13_tellStatement_205 rfl F

theorem m_tellStatement_run {C : rCx} (hC : cOK C) {Q : rS → Prop}  {σ : rS} (F : w_tellStatement_0 C Q  σ) : cV C 9 m_tellStatement [.ref (co C)] σ Q := m_V (m_ent _ 1) (t_tellStatement_0 hC F)

theorem dX13_endBlock_0 : decode cX13_endBlock 0 = .ok (.aload_n 0, 1) := by decide +kernel
theorem dX13_endBlock_1 : decode cX13_endBlock 1 = .ok (.getfield 96, 3) := by decide +kernel
theorem dX13_endBlock_4 : decode cX13_endBlock 4 = .ok (.aload_n 0, 1) := by decide +kernel
theorem dX13_endBlock_5 : decode cX13_endBlock 5 = .ok (.getfield 375, 3) := by decide +kernel
theorem dX13_endBlock_8 : decode cX13_endBlock 8 = .ok (.iconst 1, 1) := by decide +kernel
theorem dX13_endBlock_9 : decode cX13_endBlock 9 = .ok (.isub, 1) := by decide +kernel
theorem dX13_endBlock_10 : decode cX13_endBlock 10 = .ok (.iaload, 1) := by decide +kernel
theorem dX13_endBlock_11 : decode cX13_endBlock 11 = .ok (.istore_n 1, 1) := by decide +kernel
theorem dX13_endBlock_12 : decode cX13_endBlock 12 = .ok (.aload_n 0, 1) := by decide +kernel
theorem dX13_endBlock_13 : decode cX13_endBlock 13 = .ok (.getfield 102, 3) := by decide +kernel
theorem dX13_endBlock_16 : decode cX13_endBlock 16 = .ok (.aload_n 0, 1) := by decide +kernel
theorem dX13_endBlock_17 : decode cX13_endBlock 17 = .ok (.getfield 375, 3) := by decide +kernel
theorem dX13_endBlock_20 : decode cX13_endBlock 20 = .ok (.iconst 1, 1) := by decide +kernel
theorem dX13_endBlock_21 : decode cX13_endBlock 21 = .ok (.isub, 1) := by decide +kernel
theorem dX13_endBlock_22 : decode cX13_endBlock 22 = .ok (.baload, 1) := by decide +kernel
theorem dX13_endBlock_23 : decode cX13_endBlock 23 = .ok (.istore_n 2, 1) := by decide +kernel
theorem dX13_endBlock_24 : decode cX13_endBlock 24 = .ok (.aload_n 0, 1) := by decide +kernel
theorem dX13_endBlock_25 : decode cX13_endBlock 25 = .ok (.dup, 1) := by decide +kernel
theorem dX13_endBlock_26 : decode cX13_endBlock 26 = .ok (.getfield 375, 3) := by decide +kernel
theorem dX13_endBlock_29 : decode cX13_endBlock 29 = .ok (.iconst 1, 1) := by decide +kernel
theorem dX13_endBlock_30 : decode cX13_endBlock 30 = .ok (.isub, 1) := by decide +kernel
theorem dX13_endBlock_31 : decode cX13_endBlock 31 = .ok (.putfield 375, 3) := by decide +kernel
theorem dX13_endBlock_34 : decode cX13_endBlock 34 = .ok (.aload_n 0, 1) := by decide +kernel
theorem dX13_endBlock_35 : decode cX13_endBlock 35 = .ok (.bipush 125, 2) := by decide +kernel
theorem dX13_endBlock_37 : decode cX13_endBlock 37 = .ok (.invokevirtual 366, 3) := by decide +kernel
theorem dX13_endBlock_40 : decode cX13_endBlock 40 = .ok (.aload_n 0, 1) := by decide +kernel
theorem dX13_endBlock_41 : decode cX13_endBlock 41 = .ok (.invokevirtual 325, 3) := by decide +kernel
theorem dX13_endBlock_44 : decode cX13_endBlock 44 = .ok (.ifCond .eq 43, 3) := by decide +kernel
theorem dX13_endBlock_47 : decode cX13_endBlock 47 = .ok (.iload_n 2, 1) := by decide +kernel
theorem dX13_endBlock_48 : decode cX13_endBlock 48 = .ok (.ifCond .ne 39, 3) := by decide +kernel
theorem dX13_endBlock_51 : decode cX13_endBlock 51 = .ok (.aload_n 0, 1) := by decide +kernel
theorem dX13_endBlock_52 : decode cX13_endBlock 52 = .ok (.getfield 66, 3) := by decide +kernel
theorem dX13_endBlock_55 : decode cX13_endBlock 55 = .ok (.iload_n 1, 1) := by decide +kernel
theorem dX13_endBlock_56 : decode cX13_endBlock 56 = .ok (.iaload, 1) := by decide +kernel
theorem dX13_endBlock_57 : decode cX13_endBlock 57 = .ok (.bipush 6, 2) := by decide +kernel
theorem dX13_endBlock_59 : decode cX13_endBlock 59 = .ok (.if_icmp .ne 28, 3) := by decide +kernel
theorem dX13_endBlock_62 : decode cX13_endBlock 62 = .ok (.aload_n 0, 1) := by decide +kernel
theorem dX13_endBlock_63 : decode cX13_endBlock 63 = .ok (.bipush 6, 2) := by decide +kernel
theorem dX13_endBlock_65 : decode cX13_endBlock 65 = .ok (.invokevirtual 391, 3) := by decide +kernel
theorem dX13_endBlock_68 : decode cX13_endBlock 68 = .ok (.ifCond .eq 19, 3) := by decide +kernel
theorem dX13_endBlock_71 : decode cX13_endBlock 71 = .ok (.aload_n 0, 1) := by decide +kernel
theorem dX13_endBlock_72 : decode cX13_endBlock 72 = .ok (.invokevirtual 319, 3) := by decide +kernel
theorem dX13_endBlock_75 : decode cX13_endBlock 75 = .ok (.aload_n 0, 1) := by decide +kernel
theorem dX13_endBlock_76 : decode cX13_endBlock 76 = .ok (.bipush 123, 2) := by decide +kernel
theorem dX13_endBlock_78 : decode cX13_endBlock 78 = .ok (.invokevirtual 359, 3) := by decide +kernel
theorem dX13_endBlock_81 : decode cX13_endBlock 81 = .ok (.aload_n 0, 1) := by decide +kernel
theorem dX13_endBlock_82 : decode cX13_endBlock 82 = .ok (.iload_n 1, 1) := by decide +kernel
theorem dX13_endBlock_83 : decode cX13_endBlock 83 = .ok (.iconst 1, 1) := by decide +kernel
theorem dX13_endBlock_84 : decode cX13_endBlock 84 = .ok (.invokevirtual 381, 3) := by decide +kernel
theorem dX13_endBlock_87 : decode cX13_endBlock 87 = .ok (.return_, 1) := by decide +kernel
def w_endBlock_0 (C : rCx) (Q : rS → Prop)   (σ : rS) : Prop :=
  inb ((σ.1 42) - (1 : Int32)) 64 ∧
  ∀ v1_1 : Int32, v1_1 = (σ.2.2.1 43 (((σ.1 42) - (1 : Int32))).toNatClampNeg) →
  inb ((σ.1 42) - (1 : Int32)) 64 ∧
  ∀ v2_2 : Int32, v2_2 = (σ.2.2.1 45 (((σ.1 42) - (1 : Int32))).toNatClampNeg) →
  ∀ σ3, σ3 = siU σ 42 ((σ.1 42) - (1 : Int32)) →
  cV C 4 m_close [.ref (co C), .int (125 : Int32)] σ3 (fun σ4 =>
    cI C 0 m_isRight [.ref (co C)] σ4 (fun r7 σ6 =>
      (r7 = 0 →
        Q σ6) ∧
      (¬ (r7 = 0) →
        (¬ (v2_2 = 0) →
          Q σ6) ∧
        (v2_2 = 0 →
          inb v1_1 150 ∧
          (¬ ((σ6.2.2.1 30 (v1_1).toNatClampNeg) = (6 : Int32)) →
            Q σ6) ∧
          ((σ6.2.2.1 30 (v1_1).toNatClampNeg) = (6 : Int32) →
            cI C 0 m_isWord [.ref (co C), .int (6 : Int32)] σ6 (fun r9 σ8 =>
              (r9 = 0 →
                Q σ8) ∧
              (¬ (r9 = 0) →
                cV C 2 m_go [.ref (co C)] σ8 (fun σ10 =>
                  cV C 3 m_open [.ref (co C), .int (123 : Int32)] σ10 (fun σ12 =>
                    cV C 0 m_openBlock [.ref (co C), .int v1_1, .int (1 : Int32)] σ12 (fun σ14 =>
                      Q σ14))))))))))
theorem t_endBlock_0 {C : rCx} (hC : cOK C) {Q : rS → Prop}    {σ : rS} (F : w_endBlock_0 C Q   σ) : wG C 5 m_endBlock 0 [some (.ref (co C)), none, none] [] σ (qV Q) := by
  unfold w_endBlock_0 at F
  refine s_aln dX13_endBlock_0 rfl ?_
  refine gf_96 dX13_endBlock_1 rfl ?_
  refine s_aln dX13_endBlock_4 rfl ?_
  refine gf_375 dX13_endBlock_5 rfl ?_
  refine s_ic dX13_endBlock_8 ki_1 ?_
  refine s_isub dX13_endBlock_9 ?_
  refine s_ald hC dX13_endBlock_10 rt_43 F.1 ?_
  replace F := F.2
  refine s_isnb dX13_endBlock_11 (Nat.le_of_ble_eq_true rfl) (fun v1_1 ev1_1 => ?_)
  replace F := F v1_1 ev1_1
  refine s_aln dX13_endBlock_12 rfl ?_
  refine gf_102 dX13_endBlock_13 rfl ?_
  refine s_aln dX13_endBlock_16 rfl ?_
  refine gf_375 dX13_endBlock_17 rfl ?_
  refine s_ic dX13_endBlock_20 ki_1 ?_
  refine s_isub dX13_endBlock_21 ?_
  refine s_zld hC dX13_endBlock_22 rt_45 F.1 ?_
  replace F := F.2
  refine s_isnb dX13_endBlock_23 (Nat.le_of_ble_eq_true rfl) (fun v2_2 ev2_2 => ?_)
  replace F := F v2_2 ev2_2
  refine s_aln dX13_endBlock_24 rfl ?_
  refine s_dup dX13_endBlock_25 rfl ?_
  refine gf_375 dX13_endBlock_26 rfl ?_
  refine s_ic dX13_endBlock_29 ki_1 ?_
  refine s_isub dX13_endBlock_30 ?_
  refine pf_375 hC dX13_endBlock_31 rfl (fun σ3 eσ3 => ?_)
  replace F := F σ3 eσ3
  refine s_aln dX13_endBlock_34 rfl ?_
  refine s_bi dX13_endBlock_35 kb_125 ?_
  refine k_366 dX13_endBlock_37 rfl (Nat.le_of_ble_eq_true rfl) (Nat.le_of_ble_eq_true rfl) F (fun σ4 F => ?_)
  refine s_aln dX13_endBlock_40 rfl ?_
  refine k_325 dX13_endBlock_41 rfl (Nat.le_of_ble_eq_true rfl) (Nat.le_of_ble_eq_true rfl) F (fun r7 σ6 F => ?_)
  refine s_i (t := 87) (r7 = 0) dX13_endBlock_44 rfl rfl (fun hc => ?_) (fun hc => ?_)
  · replace F := F.1 hc
    exact s_rv dX13_endBlock_87 rfl F
  · replace F := F.2 hc
    refine s_iln dX13_endBlock_47 rfl ?_
    refine s_in (t := 87) (v2_2 = 0) dX13_endBlock_48 rfl rfl (fun hc => ?_) (fun hc => ?_)
    · replace F := F.1 hc
      exact s_rv dX13_endBlock_87 rfl F
    · replace F := F.2 hc
      refine s_aln dX13_endBlock_51 rfl ?_
      refine gf_66 dX13_endBlock_52 rfl ?_
      refine s_iln dX13_endBlock_55 rfl ?_
      refine s_ald hC dX13_endBlock_56 rt_30 F.1 ?_
      replace F := F.2
      refine s_bi dX13_endBlock_57 kb_6 ?_
      refine s_iin (t := 87) ((σ6.2.2.1 30 (v1_1).toNatClampNeg) = (6 : Int32)) dX13_endBlock_59 rfl rfl (fun hc => ?_) (fun hc => ?_)
      · replace F := F.1 hc
        exact s_rv dX13_endBlock_87 rfl F
      · replace F := F.2 hc
        refine s_aln dX13_endBlock_62 rfl ?_
        refine s_bi dX13_endBlock_63 kb_6 ?_
        refine k_391 dX13_endBlock_65 rfl (Nat.le_of_ble_eq_true rfl) (Nat.le_of_ble_eq_true rfl) F (fun r9 σ8 F => ?_)
        refine s_i (t := 87) (r9 = 0) dX13_endBlock_68 rfl rfl (fun hc => ?_) (fun hc => ?_)
        · replace F := F.1 hc
          exact s_rv dX13_endBlock_87 rfl F
        · replace F := F.2 hc
          refine s_aln dX13_endBlock_71 rfl ?_
          refine k_319 dX13_endBlock_72 rfl (Nat.le_of_ble_eq_true rfl) (Nat.le_of_ble_eq_true rfl) F (fun σ10 F => ?_)
          refine s_aln dX13_endBlock_75 rfl ?_
          refine s_bi dX13_endBlock_76 kb_123 ?_
          refine k_359 dX13_endBlock_78 rfl (Nat.le_of_ble_eq_true rfl) (Nat.le_of_ble_eq_true rfl) F (fun σ12 F => ?_)
          refine s_aln dX13_endBlock_81 rfl ?_
          refine s_iln dX13_endBlock_82 rfl ?_
          refine s_ic dX13_endBlock_83 ki_1 ?_
          refine k_381 dX13_endBlock_84 rfl (Nat.le_of_ble_eq_true rfl) (Nat.le_of_ble_eq_true rfl) F (fun σ14 F => ?_)
          exact s_rv dX13_endBlock_87 rfl F

theorem m_endBlock_run {C : rCx} (hC : cOK C) {Q : rS → Prop}  {σ : rS} (F : w_endBlock_0 C Q  σ) : cV C 5 m_endBlock [.ref (co C)] σ Q := m_V (m_ent _ 2) (t_endBlock_0 hC F)

theorem dX13_tellStatements_0 : decode cX13_tellStatements 0 = .ok (.aload_n 0, 1) := by decide +kernel
theorem dX13_tellStatements_1 : decode cX13_tellStatements 1 = .ok (.iconst 0, 1) := by decide +kernel
theorem dX13_tellStatements_2 : decode cX13_tellStatements 2 = .ok (.putfield 375, 3) := by decide +kernel
theorem dX13_tellStatements_5 : decode cX13_tellStatements 5 = .ok (.aload_n 0, 1) := by decide +kernel
theorem dX13_tellStatements_6 : decode cX13_tellStatements 6 = .ok (.iconst (-1), 1) := by decide +kernel
theorem dX13_tellStatements_7 : decode cX13_tellStatements 7 = .ok (.iconst 0, 1) := by decide +kernel
theorem dX13_tellStatements_8 : decode cX13_tellStatements 8 = .ok (.invokevirtual 381, 3) := by decide +kernel
theorem dX13_tellStatements_11 : decode cX13_tellStatements 11 = .ok (.aload_n 0, 1) := by decide +kernel
theorem dX13_tellStatements_12 : decode cX13_tellStatements 12 = .ok (.invokevirtual 325, 3) := by decide +kernel
theorem dX13_tellStatements_15 : decode cX13_tellStatements 15 = .ok (.ifCond .eq 49, 3) := by decide +kernel
theorem dX13_tellStatements_18 : decode cX13_tellStatements 18 = .ok (.aload_n 0, 1) := by decide +kernel
theorem dX13_tellStatements_19 : decode cX13_tellStatements 19 = .ok (.getfield 375, 3) := by decide +kernel
theorem dX13_tellStatements_22 : decode cX13_tellStatements 22 = .ok (.ifCond .le 42, 3) := by decide +kernel
theorem dX13_tellStatements_25 : decode cX13_tellStatements 25 = .ok (.aload_n 0, 1) := by decide +kernel
theorem dX13_tellStatements_26 : decode cX13_tellStatements 26 = .ok (.bipush 125, 2) := by decide +kernel
theorem dX13_tellStatements_28 : decode cX13_tellStatements 28 = .ok (.invokevirtual 316, 3) := by decide +kernel
theorem dX13_tellStatements_31 : decode cX13_tellStatements 31 = .ok (.ifCond .ne 10, 3) := by decide +kernel
theorem dX13_tellStatements_34 : decode cX13_tellStatements 34 = .ok (.aload_n 0, 1) := by decide +kernel
theorem dX13_tellStatements_35 : decode cX13_tellStatements 35 = .ok (.invokevirtual 385, 3) := by decide +kernel
theorem dX13_tellStatements_38 : decode cX13_tellStatements 38 = .ok (.goto (-27), 3) := by decide +kernel
theorem dX13_tellStatements_41 : decode cX13_tellStatements 41 = .ok (.aload_n 0, 1) := by decide +kernel
theorem dX13_tellStatements_42 : decode cX13_tellStatements 42 = .ok (.getfield 375, 3) := by decide +kernel
theorem dX13_tellStatements_45 : decode cX13_tellStatements 45 = .ok (.iconst 1, 1) := by decide +kernel
theorem dX13_tellStatements_46 : decode cX13_tellStatements 46 = .ok (.if_icmp .ne 11, 3) := by decide +kernel
theorem dX13_tellStatements_49 : decode cX13_tellStatements 49 = .ok (.aload_n 0, 1) := by decide +kernel
theorem dX13_tellStatements_50 : decode cX13_tellStatements 50 = .ok (.iconst 0, 1) := by decide +kernel
theorem dX13_tellStatements_51 : decode cX13_tellStatements 51 = .ok (.putfield 375, 3) := by decide +kernel
theorem dX13_tellStatements_54 : decode cX13_tellStatements 54 = .ok (.goto (-43), 3) := by decide +kernel
theorem dX13_tellStatements_57 : decode cX13_tellStatements 57 = .ok (.aload_n 0, 1) := by decide +kernel
theorem dX13_tellStatements_58 : decode cX13_tellStatements 58 = .ok (.invokevirtual 388, 3) := by decide +kernel
theorem dX13_tellStatements_61 : decode cX13_tellStatements 61 = .ok (.goto (-50), 3) := by decide +kernel
theorem dX13_tellStatements_64 : decode cX13_tellStatements 64 = .ok (.return_, 1) := by decide +kernel
def w_tellStatements_11 (C : rCx) (Q : rS → Prop)   (σ : rS) : Prop :=
  ∃ I : Nat → rS → Prop, (∃ n, I n  σ) ∧ ∀ n  σ, I n  σ →
    cI C 0 m_isRight [.ref (co C)] σ (fun r2 σ1 =>
      (r2 = 0 →
        Q σ1) ∧
      (¬ (r2 = 0) →
        ((σ1.1 42) ≤ 0 →
          Q σ1) ∧
        (¬ ((σ1.1 42) ≤ 0) →
          cI C 0 m_isAt [.ref (co C), .int (125 : Int32)] σ1 (fun r4 σ3 =>
            (¬ (r4 = 0) →
              (¬ ((σ3.1 42) = (1 : Int32)) →
                cV C 5 m_endBlock [.ref (co C)] σ3 (fun σ5 =>
                  ∃ k < n, I k  σ5)) ∧
              ((σ3.1 42) = (1 : Int32) →
                ∀ σ7, σ7 = siU σ3 42 (0 : Int32) →
                ∃ k < n, I k  σ7)) ∧
            (r4 = 0 →
              cV C 9 m_tellStatement [.ref (co C)] σ3 (fun σ8 =>
                ∃ k < n, I k  σ8))))))
theorem t_tellStatements_11 {C : rCx} (hC : cOK C) {Q : rS → Prop}    {σ : rS} (F : w_tellStatements_11 C Q   σ) : wG C 10 m_tellStatements 11 [some (.ref (co C))] [] σ (qV Q) := by
  obtain ⟨I, ⟨n0, hI0⟩, F0⟩ := F
  have key : ∀ n  σ, I n  σ → wG C 10 m_tellStatements 11 [some (.ref (co C))] [] σ (qV Q) := by
    intro n
    induction n using Nat.strongRecOn with
    | _ n ih =>
      intro  σ hI
      have F := F0 n  σ hI
      clear hI hI0
      refine s_aln dX13_tellStatements_11 rfl ?_
      refine k_325 dX13_tellStatements_12 rfl (Nat.le_of_ble_eq_true rfl) (Nat.le_of_ble_eq_true rfl) F (fun r2 σ1 F => ?_)
      refine s_i (t := 64) (r2 = 0) dX13_tellStatements_15 rfl rfl (fun hc => ?_) (fun hc => ?_)
      · replace F := F.1 hc
        exact s_rv dX13_tellStatements_64 rfl F
      · replace F := F.2 hc
        refine s_aln dX13_tellStatements_18 rfl ?_
        refine gf_375 dX13_tellStatements_19 rfl ?_
        refine s_i (t := 64) ((σ1.1 42) ≤ 0) dX13_tellStatements_22 rfl rfl (fun hc => ?_) (fun hc => ?_)
        · replace F := F.1 hc
          exact s_rv dX13_tellStatements_64 rfl F
        · replace F := F.2 hc
          refine s_aln dX13_tellStatements_25 rfl ?_
          refine s_bi dX13_tellStatements_26 kb_125 ?_
          refine k_316 dX13_tellStatements_28 rfl (Nat.le_of_ble_eq_true rfl) (Nat.le_of_ble_eq_true rfl) F (fun r4 σ3 F => ?_)
          refine s_in (t := 41) (r4 = 0) dX13_tellStatements_31 rfl rfl (fun hc => ?_) (fun hc => ?_)
          · replace F := F.1 hc
            refine s_aln dX13_tellStatements_41 rfl ?_
            refine gf_375 dX13_tellStatements_42 rfl ?_
            refine s_ic dX13_tellStatements_45 ki_1 ?_
            refine s_iin (t := 57) ((σ3.1 42) = (1 : Int32)) dX13_tellStatements_46 rfl rfl (fun hc => ?_) (fun hc => ?_)
            · replace F := F.1 hc
              refine s_aln dX13_tellStatements_57 rfl ?_
              refine k_388 dX13_tellStatements_58 rfl (Nat.le_of_ble_eq_true rfl) (Nat.le_of_ble_eq_true rfl) F (fun σ5 F => ?_)
              refine s_goto (t := 11) dX13_tellStatements_61 rfl ?_
              obtain ⟨k, hk, hI⟩ := F
              exact s_k (ih k hk  _ hI) ⟨rfl, trivial⟩
            · replace F := F.2 hc
              refine s_aln dX13_tellStatements_49 rfl ?_
              refine s_ic dX13_tellStatements_50 ki_0 ?_
              refine pf_375 hC dX13_tellStatements_51 rfl (fun σ7 eσ7 => ?_)
              replace F := F σ7 eσ7
              refine s_goto (t := 11) dX13_tellStatements_54 rfl ?_
              obtain ⟨k, hk, hI⟩ := F
              exact s_k (ih k hk  _ hI) ⟨rfl, trivial⟩
          · replace F := F.2 hc
            refine s_aln dX13_tellStatements_34 rfl ?_
            refine k_385 dX13_tellStatements_35 rfl (Nat.le_of_ble_eq_true rfl) (Nat.le_of_ble_eq_true rfl) F (fun σ8 F => ?_)
            refine s_goto (t := 11) dX13_tellStatements_38 rfl ?_
            obtain ⟨k, hk, hI⟩ := F
            exact s_k (ih k hk  _ hI) ⟨rfl, trivial⟩
  exact key n0  σ hI0

def w_tellStatements_0 (C : rCx) (Q : rS → Prop)   (σ : rS) : Prop :=
  ∀ σ1, σ1 = siU σ 42 (0 : Int32) →
  cV C 0 m_openBlock [.ref (co C), .int (-1 : Int32), .int (0 : Int32)] σ1 (fun σ2 =>
    w_tellStatements_11 C Q   σ2)
theorem t_tellStatements_0 {C : rCx} (hC : cOK C) {Q : rS → Prop}    {σ : rS} (F : w_tellStatements_0 C Q   σ) : wG C 10 m_tellStatements 0 [some (.ref (co C))] [] σ (qV Q) := by
  unfold w_tellStatements_0 at F
  refine s_aln dX13_tellStatements_0 rfl ?_
  refine s_ic dX13_tellStatements_1 ki_0 ?_
  refine pf_375 hC dX13_tellStatements_2 rfl (fun σ1 eσ1 => ?_)
  replace F := F σ1 eσ1
  refine s_aln dX13_tellStatements_5 rfl ?_
  refine s_ic dX13_tellStatements_6 ki_m1 ?_
  refine s_ic dX13_tellStatements_7 ki_0 ?_
  refine k_381 dX13_tellStatements_8 rfl (Nat.le_of_ble_eq_true rfl) (Nat.le_of_ble_eq_true rfl) F (fun σ2 F => ?_)
  exact s_k (t_tellStatements_11 hC  F) ⟨rfl, trivial⟩

theorem m_tellStatements_run {C : rCx} (hC : cOK C) {Q : rS → Prop}  {σ : rS} (F : w_tellStatements_0 C Q  σ) : cV C 10 m_tellStatements [.ref (co C)] σ Q := m_V (m_ent _ 0) (t_tellStatements_0 hC F)

theorem dX13_tellFunc_0 : decode cX13_tellFunc 0 = .ok (.aload_n 0, 1) := by decide +kernel
theorem dX13_tellFunc_1 : decode cX13_tellFunc 1 = .ok (.invokevirtual 319, 3) := by decide +kernel
theorem dX13_tellFunc_4 : decode cX13_tellFunc 4 = .ok (.aload_n 0, 1) := by decide +kernel
theorem dX13_tellFunc_5 : decode cX13_tellFunc 5 = .ok (.iconst 0, 1) := by decide +kernel
theorem dX13_tellFunc_6 : decode cX13_tellFunc 6 = .ok (.aload_n 0, 1) := by decide +kernel
theorem dX13_tellFunc_7 : decode cX13_tellFunc 7 = .ok (.getfield 343, 3) := by decide +kernel
theorem dX13_tellFunc_10 : decode cX13_tellFunc 10 = .ok (.bipush 10, 2) := by decide +kernel
theorem dX13_tellFunc_12 : decode cX13_tellFunc 12 = .ok (.invokevirtual 355, 3) := by decide +kernel
theorem dX13_tellFunc_15 : decode cX13_tellFunc 15 = .ok (.istore_n 1, 1) := by decide +kernel
theorem dX13_tellFunc_16 : decode cX13_tellFunc 16 = .ok (.aload_n 0, 1) := by decide +kernel
theorem dX13_tellFunc_17 : decode cX13_tellFunc 17 = .ok (.aload_n 0, 1) := by decide +kernel
theorem dX13_tellFunc_18 : decode cX13_tellFunc 18 = .ok (.getfield 343, 3) := by decide +kernel
theorem dX13_tellFunc_21 : decode cX13_tellFunc 21 = .ok (.bipush 10, 2) := by decide +kernel
theorem dX13_tellFunc_23 : decode cX13_tellFunc 23 = .ok (.if_icmp .ge 10, 3) := by decide +kernel
theorem dX13_tellFunc_26 : decode cX13_tellFunc 26 = .ok (.aload_n 0, 1) := by decide +kernel
theorem dX13_tellFunc_27 : decode cX13_tellFunc 27 = .ok (.getfield 343, 3) := by decide +kernel
theorem dX13_tellFunc_30 : decode cX13_tellFunc 30 = .ok (.goto 4, 3) := by decide +kernel
theorem dX13_tellFunc_33 : decode cX13_tellFunc 33 = .ok (.iconst 0, 1) := by decide +kernel
theorem dX13_tellFunc_34 : decode cX13_tellFunc 34 = .ok (.putfield 346, 3) := by decide +kernel
theorem dX13_tellFunc_37 : decode cX13_tellFunc 37 = .ok (.aload_n 0, 1) := by decide +kernel
theorem dX13_tellFunc_38 : decode cX13_tellFunc 38 = .ok (.invokevirtual 325, 3) := by decide +kernel
theorem dX13_tellFunc_41 : decode cX13_tellFunc 41 = .ok (.ifCond .eq 33, 3) := by decide +kernel
theorem dX13_tellFunc_44 : decode cX13_tellFunc 44 = .ok (.aload_n 0, 1) := by decide +kernel
theorem dX13_tellFunc_45 : decode cX13_tellFunc 45 = .ok (.getfield 57, 3) := by decide +kernel
theorem dX13_tellFunc_48 : decode cX13_tellFunc 48 = .ok (.aload_n 0, 1) := by decide +kernel
theorem dX13_tellFunc_49 : decode cX13_tellFunc 49 = .ok (.getfield 346, 3) := by decide +kernel
theorem dX13_tellFunc_52 : decode cX13_tellFunc 52 = .ok (.iconst 0, 1) := by decide +kernel
theorem dX13_tellFunc_53 : decode cX13_tellFunc 53 = .ok (.iastore, 1) := by decide +kernel
theorem dX13_tellFunc_54 : decode cX13_tellFunc 54 = .ok (.aload_n 0, 1) := by decide +kernel
theorem dX13_tellFunc_55 : decode cX13_tellFunc 55 = .ok (.getfield 54, 3) := by decide +kernel
theorem dX13_tellFunc_58 : decode cX13_tellFunc 58 = .ok (.aload_n 0, 1) := by decide +kernel
theorem dX13_tellFunc_59 : decode cX13_tellFunc 59 = .ok (.getfield 346, 3) := by decide +kernel
theorem dX13_tellFunc_62 : decode cX13_tellFunc 62 = .ok (.iconst 0, 1) := by decide +kernel
theorem dX13_tellFunc_63 : decode cX13_tellFunc 63 = .ok (.iastore, 1) := by decide +kernel
theorem dX13_tellFunc_64 : decode cX13_tellFunc 64 = .ok (.aload_n 0, 1) := by decide +kernel
theorem dX13_tellFunc_65 : decode cX13_tellFunc 65 = .ok (.getfield 63, 3) := by decide +kernel
theorem dX13_tellFunc_68 : decode cX13_tellFunc 68 = .ok (.aload_n 0, 1) := by decide +kernel
theorem dX13_tellFunc_69 : decode cX13_tellFunc 69 = .ok (.getfield 346, 3) := by decide +kernel
theorem dX13_tellFunc_72 : decode cX13_tellFunc 72 = .ok (.iconst (-1), 1) := by decide +kernel
theorem dX13_tellFunc_73 : decode cX13_tellFunc 73 = .ok (.iastore, 1) := by decide +kernel
theorem dX13_tellFunc_74 : decode cX13_tellFunc 74 = .ok (.aload_n 0, 1) := by decide +kernel
theorem dX13_tellFunc_75 : decode cX13_tellFunc 75 = .ok (.bipush 40, 2) := by decide +kernel
theorem dX13_tellFunc_77 : decode cX13_tellFunc 77 = .ok (.invokevirtual 359, 3) := by decide +kernel
theorem dX13_tellFunc_80 : decode cX13_tellFunc 80 = .ok (.aload_n 0, 1) := by decide +kernel
theorem dX13_tellFunc_81 : decode cX13_tellFunc 81 = .ok (.invokevirtual 325, 3) := by decide +kernel
theorem dX13_tellFunc_84 : decode cX13_tellFunc 84 = .ok (.ifCond .eq 16, 3) := by decide +kernel
theorem dX13_tellFunc_87 : decode cX13_tellFunc 87 = .ok (.aload_n 0, 1) := by decide +kernel
theorem dX13_tellFunc_88 : decode cX13_tellFunc 88 = .ok (.bipush 41, 2) := by decide +kernel
theorem dX13_tellFunc_90 : decode cX13_tellFunc 90 = .ok (.invokevirtual 316, 3) := by decide +kernel
theorem dX13_tellFunc_93 : decode cX13_tellFunc 93 = .ok (.ifCond .ne 7, 3) := by decide +kernel
theorem dX13_tellFunc_96 : decode cX13_tellFunc 96 = .ok (.iconst 1, 1) := by decide +kernel
theorem dX13_tellFunc_97 : decode cX13_tellFunc 97 = .ok (.goto 4, 3) := by decide +kernel
theorem dX13_tellFunc_100 : decode cX13_tellFunc 100 = .ok (.iconst 0, 1) := by decide +kernel
theorem dX13_tellFunc_101 : decode cX13_tellFunc 101 = .ok (.istore_n 2, 1) := by decide +kernel
theorem dX13_tellFunc_102 : decode cX13_tellFunc 102 = .ok (.aload_n 0, 1) := by decide +kernel
theorem dX13_tellFunc_103 : decode cX13_tellFunc 103 = .ok (.invokevirtual 325, 3) := by decide +kernel
theorem dX13_tellFunc_106 : decode cX13_tellFunc 106 = .ok (.ifCond .eq 112, 3) := by decide +kernel
theorem dX13_tellFunc_109 : decode cX13_tellFunc 109 = .ok (.iload_n 2, 1) := by decide +kernel
theorem dX13_tellFunc_110 : decode cX13_tellFunc 110 = .ok (.ifCond .eq 108, 3) := by decide +kernel
theorem dX13_tellFunc_113 : decode cX13_tellFunc 113 = .ok (.aload_n 0, 1) := by decide +kernel
theorem dX13_tellFunc_114 : decode cX13_tellFunc 114 = .ok (.iconst 1, 1) := by decide +kernel
theorem dX13_tellFunc_115 : decode cX13_tellFunc 115 = .ok (.aload_n 0, 1) := by decide +kernel
theorem dX13_tellFunc_116 : decode cX13_tellFunc 116 = .ok (.getfield 57, 3) := by decide +kernel
theorem dX13_tellFunc_119 : decode cX13_tellFunc 119 = .ok (.aload_n 0, 1) := by decide +kernel
theorem dX13_tellFunc_120 : decode cX13_tellFunc 120 = .ok (.getfield 346, 3) := by decide +kernel
theorem dX13_tellFunc_123 : decode cX13_tellFunc 123 = .ok (.iaload, 1) := by decide +kernel
theorem dX13_tellFunc_124 : decode cX13_tellFunc 124 = .ok (.iconst 4, 1) := by decide +kernel
theorem dX13_tellFunc_125 : decode cX13_tellFunc 125 = .ok (.invokevirtual 355, 3) := by decide +kernel
theorem dX13_tellFunc_128 : decode cX13_tellFunc 128 = .ok (.istore_n 3, 1) := by decide +kernel
theorem dX13_tellFunc_129 : decode cX13_tellFunc 129 = .ok (.aload_n 0, 1) := by decide +kernel
theorem dX13_tellFunc_130 : decode cX13_tellFunc 130 = .ok (.invokevirtual 325, 3) := by decide +kernel
theorem dX13_tellFunc_133 : decode cX13_tellFunc 133 = .ok (.ifCond .eq 52, 3) := by decide +kernel
theorem dX13_tellFunc_136 : decode cX13_tellFunc 136 = .ok (.aload_n 0, 1) := by decide +kernel
theorem dX13_tellFunc_137 : decode cX13_tellFunc 137 = .ok (.getfield 60, 3) := by decide +kernel
theorem dX13_tellFunc_140 : decode cX13_tellFunc 140 = .ok (.bipush 8, 2) := by decide +kernel
theorem dX13_tellFunc_142 : decode cX13_tellFunc 142 = .ok (.aload_n 0, 1) := by decide +kernel
theorem dX13_tellFunc_143 : decode cX13_tellFunc 143 = .ok (.getfield 346, 3) := by decide +kernel
theorem dX13_tellFunc_146 : decode cX13_tellFunc 146 = .ok (.imul, 1) := by decide +kernel
theorem dX13_tellFunc_147 : decode cX13_tellFunc 147 = .ok (.aload_n 0, 1) := by decide +kernel
theorem dX13_tellFunc_148 : decode cX13_tellFunc 148 = .ok (.getfield 57, 3) := by decide +kernel
theorem dX13_tellFunc_151 : decode cX13_tellFunc 151 = .ok (.aload_n 0, 1) := by decide +kernel
theorem dX13_tellFunc_152 : decode cX13_tellFunc 152 = .ok (.getfield 346, 3) := by decide +kernel
theorem dX13_tellFunc_155 : decode cX13_tellFunc 155 = .ok (.iaload, 1) := by decide +kernel
theorem dX13_tellFunc_156 : decode cX13_tellFunc 156 = .ok (.iadd, 1) := by decide +kernel
theorem dX13_tellFunc_157 : decode cX13_tellFunc 157 = .ok (.iload_n 3, 1) := by decide +kernel
theorem dX13_tellFunc_158 : decode cX13_tellFunc 158 = .ok (.iastore, 1) := by decide +kernel
theorem dX13_tellFunc_159 : decode cX13_tellFunc 159 = .ok (.aload_n 0, 1) := by decide +kernel
theorem dX13_tellFunc_160 : decode cX13_tellFunc 160 = .ok (.getfield 57, 3) := by decide +kernel
theorem dX13_tellFunc_163 : decode cX13_tellFunc 163 = .ok (.aload_n 0, 1) := by decide +kernel
theorem dX13_tellFunc_164 : decode cX13_tellFunc 164 = .ok (.getfield 346, 3) := by decide +kernel
theorem dX13_tellFunc_167 : decode cX13_tellFunc 167 = .ok (.dup2, 1) := by decide +kernel
theorem dX13_tellFunc_168 : decode cX13_tellFunc 168 = .ok (.iaload, 1) := by decide +kernel
theorem dX13_tellFunc_169 : decode cX13_tellFunc 169 = .ok (.iconst 1, 1) := by decide +kernel
theorem dX13_tellFunc_170 : decode cX13_tellFunc 170 = .ok (.iadd, 1) := by decide +kernel
theorem dX13_tellFunc_171 : decode cX13_tellFunc 171 = .ok (.iastore, 1) := by decide +kernel
theorem dX13_tellFunc_172 : decode cX13_tellFunc 172 = .ok (.aload_n 0, 1) := by decide +kernel
theorem dX13_tellFunc_173 : decode cX13_tellFunc 173 = .ok (.getfield 54, 3) := by decide +kernel
theorem dX13_tellFunc_176 : decode cX13_tellFunc 176 = .ok (.aload_n 0, 1) := by decide +kernel
theorem dX13_tellFunc_177 : decode cX13_tellFunc 177 = .ok (.getfield 346, 3) := by decide +kernel
theorem dX13_tellFunc_180 : decode cX13_tellFunc 180 = .ok (.dup2, 1) := by decide +kernel
theorem dX13_tellFunc_181 : decode cX13_tellFunc 181 = .ok (.iaload, 1) := by decide +kernel
theorem dX13_tellFunc_182 : decode cX13_tellFunc 182 = .ok (.iconst 1, 1) := by decide +kernel
theorem dX13_tellFunc_183 : decode cX13_tellFunc 183 = .ok (.iadd, 1) := by decide +kernel
theorem dX13_tellFunc_184 : decode cX13_tellFunc 184 = .ok (.iastore, 1) := by decide +kernel
theorem dX13_tellFunc_185 : decode cX13_tellFunc 185 = .ok (.aload_n 0, 1) := by decide +kernel
theorem dX13_tellFunc_186 : decode cX13_tellFunc 186 = .ok (.invokevirtual 325, 3) := by decide +kernel
theorem dX13_tellFunc_189 : decode cX13_tellFunc 189 = .ok (.ifCond .eq 16, 3) := by decide +kernel
theorem dX13_tellFunc_192 : decode cX13_tellFunc 192 = .ok (.aload_n 0, 1) := by decide +kernel
theorem dX13_tellFunc_193 : decode cX13_tellFunc 193 = .ok (.bipush 44, 2) := by decide +kernel
theorem dX13_tellFunc_195 : decode cX13_tellFunc 195 = .ok (.invokevirtual 316, 3) := by decide +kernel
theorem dX13_tellFunc_198 : decode cX13_tellFunc 198 = .ok (.ifCond .eq 7, 3) := by decide +kernel
theorem dX13_tellFunc_201 : decode cX13_tellFunc 201 = .ok (.iconst 1, 1) := by decide +kernel
theorem dX13_tellFunc_202 : decode cX13_tellFunc 202 = .ok (.goto 4, 3) := by decide +kernel
theorem dX13_tellFunc_205 : decode cX13_tellFunc 205 = .ok (.iconst 0, 1) := by decide +kernel
theorem dX13_tellFunc_206 : decode cX13_tellFunc 206 = .ok (.istore_n 2, 1) := by decide +kernel
theorem dX13_tellFunc_207 : decode cX13_tellFunc 207 = .ok (.iload_n 2, 1) := by decide +kernel
theorem dX13_tellFunc_208 : decode cX13_tellFunc 208 = .ok (.ifCond .eq 7, 3) := by decide +kernel
theorem dX13_tellFunc_211 : decode cX13_tellFunc 211 = .ok (.aload_n 0, 1) := by decide +kernel
theorem dX13_tellFunc_212 : decode cX13_tellFunc 212 = .ok (.invokevirtual 319, 3) := by decide +kernel
theorem dX13_tellFunc_215 : decode cX13_tellFunc 215 = .ok (.goto (-113), 3) := by decide +kernel
theorem dX13_tellFunc_218 : decode cX13_tellFunc 218 = .ok (.aload_n 0, 1) := by decide +kernel
theorem dX13_tellFunc_219 : decode cX13_tellFunc 219 = .ok (.bipush 41, 2) := by decide +kernel
theorem dX13_tellFunc_221 : decode cX13_tellFunc 221 = .ok (.invokevirtual 366, 3) := by decide +kernel
theorem dX13_tellFunc_224 : decode cX13_tellFunc 224 = .ok (.aload_n 0, 1) := by decide +kernel
theorem dX13_tellFunc_225 : decode cX13_tellFunc 225 = .ok (.bipush 123, 2) := by decide +kernel
theorem dX13_tellFunc_227 : decode cX13_tellFunc 227 = .ok (.invokevirtual 359, 3) := by decide +kernel
theorem dX13_tellFunc_230 : decode cX13_tellFunc 230 = .ok (.aload_n 0, 1) := by decide +kernel
theorem dX13_tellFunc_231 : decode cX13_tellFunc 231 = .ok (.invokevirtual 372, 3) := by decide +kernel
theorem dX13_tellFunc_234 : decode cX13_tellFunc 234 = .ok (.aload_n 0, 1) := by decide +kernel
theorem dX13_tellFunc_235 : decode cX13_tellFunc 235 = .ok (.bipush 125, 2) := by decide +kernel
theorem dX13_tellFunc_237 : decode cX13_tellFunc 237 = .ok (.invokevirtual 366, 3) := by decide +kernel
theorem dX13_tellFunc_240 : decode cX13_tellFunc 240 = .ok (.aload_n 0, 1) := by decide +kernel
theorem dX13_tellFunc_241 : decode cX13_tellFunc 241 = .ok (.invokevirtual 325, 3) := by decide +kernel
theorem dX13_tellFunc_244 : decode cX13_tellFunc 244 = .ok (.ifCond .eq 23, 3) := by decide +kernel
theorem dX13_tellFunc_247 : decode cX13_tellFunc 247 = .ok (.aload_n 0, 1) := by decide +kernel
theorem dX13_tellFunc_248 : decode cX13_tellFunc 248 = .ok (.getfield 51, 3) := by decide +kernel
theorem dX13_tellFunc_251 : decode cX13_tellFunc 251 = .ok (.aload_n 0, 1) := by decide +kernel
theorem dX13_tellFunc_252 : decode cX13_tellFunc 252 = .ok (.getfield 343, 3) := by decide +kernel
theorem dX13_tellFunc_255 : decode cX13_tellFunc 255 = .ok (.iload_n 1, 1) := by decide +kernel
theorem dX13_tellFunc_256 : decode cX13_tellFunc 256 = .ok (.iastore, 1) := by decide +kernel
theorem dX13_tellFunc_257 : decode cX13_tellFunc 257 = .ok (.aload_n 0, 1) := by decide +kernel
theorem dX13_tellFunc_258 : decode cX13_tellFunc 258 = .ok (.dup, 1) := by decide +kernel
theorem dX13_tellFunc_259 : decode cX13_tellFunc 259 = .ok (.getfield 343, 3) := by decide +kernel
theorem dX13_tellFunc_262 : decode cX13_tellFunc 262 = .ok (.iconst 1, 1) := by decide +kernel
theorem dX13_tellFunc_263 : decode cX13_tellFunc 263 = .ok (.iadd, 1) := by decide +kernel
theorem dX13_tellFunc_264 : decode cX13_tellFunc 264 = .ok (.putfield 343, 3) := by decide +kernel
theorem dX13_tellFunc_267 : decode cX13_tellFunc 267 = .ok (.return_, 1) := by decide +kernel
def w_tellFunc_206 (C : rCx) (Q : rS → Prop) (B102 : Int32 → Int32 → rS → Prop) (a1 : Int32) (s0 : Int32) (σ : rS) : Prop :=
  (s0 = 0 →
    B102 a1 s0 σ) ∧
  (¬ (s0 = 0) →
    cV C 2 m_go [.ref (co C)] σ (fun σ1 =>
      B102 a1 s0 σ1))
theorem t_tellFunc_206 {C : rCx} (hC : cOK C) {Q : rS → Prop} {B102 : Int32 → Int32 → rS → Prop} (hB102 : ∀ a1' a2' τ, B102 a1' a2' τ → wG C 11 m_tellFunc 102 [some (.ref (co C)), some (.int a1'), some (.int a2'), none] [] τ (qV Q)) {a1 : Int32} {s0 : Int32} {σ : rS} (F : w_tellFunc_206 C Q B102 a1 s0 σ) : wG C 11 m_tellFunc 206 [some (.ref (co C)), some (.int a1), none, none] [.int s0] σ (qV Q) := by
  unfold w_tellFunc_206 at F
  refine s_isn dX13_tellFunc_206 (Nat.le_of_ble_eq_true rfl) rfl ?_
  refine s_iln dX13_tellFunc_207 rfl ?_
  refine s_i (t := 215) (s0 = 0) dX13_tellFunc_208 rfl rfl (fun hc => ?_) (fun hc => ?_)
  · replace F := F.1 hc
    refine s_goto (t := 102) dX13_tellFunc_215 rfl ?_
    exact s_k (hB102 _ _ _ F) ⟨rfl, rfl, rfl, trivial⟩
  · replace F := F.2 hc
    refine s_aln dX13_tellFunc_211 rfl ?_
    refine k_319 dX13_tellFunc_212 rfl (Nat.le_of_ble_eq_true rfl) (Nat.le_of_ble_eq_true rfl) F (fun σ1 F => ?_)
    refine s_goto (t := 102) dX13_tellFunc_215 rfl ?_
    exact s_k (hB102 _ _ _ F) ⟨rfl, rfl, rfl, trivial⟩

def w_tellFunc_185 (C : rCx) (Q : rS → Prop) (B102 : Int32 → Int32 → rS → Prop) (a1 : Int32) (σ : rS) : Prop :=
  cI C 0 m_isRight [.ref (co C)] σ (fun r2 σ1 =>
    (r2 = 0 →
      w_tellFunc_206 C Q B102 a1 (0 : Int32) σ1) ∧
    (¬ (r2 = 0) →
      cI C 0 m_isAt [.ref (co C), .int (44 : Int32)] σ1 (fun r4 σ3 =>
        (r4 = 0 →
          w_tellFunc_206 C Q B102 a1 (0 : Int32) σ3) ∧
        (¬ (r4 = 0) →
          w_tellFunc_206 C Q B102 a1 (1 : Int32) σ3))))
theorem t_tellFunc_185 {C : rCx} (hC : cOK C) {Q : rS → Prop} {B102 : Int32 → Int32 → rS → Prop} (hB102 : ∀ a1' a2' τ, B102 a1' a2' τ → wG C 11 m_tellFunc 102 [some (.ref (co C)), some (.int a1'), some (.int a2'), none] [] τ (qV Q)) {a1 : Int32} {σ : rS} (F : w_tellFunc_185 C Q B102 a1 σ) : wG C 11 m_tellFunc 185 [some (.ref (co C)), some (.int a1), none, none] [] σ (qV Q) := by
  unfold w_tellFunc_185 at F
  refine s_aln dX13_tellFunc_185 rfl ?_
  refine k_325 dX13_tellFunc_186 rfl (Nat.le_of_ble_eq_true rfl) (Nat.le_of_ble_eq_true rfl) F (fun r2 σ1 F => ?_)
  refine s_i (t := 205) (r2 = 0) dX13_tellFunc_189 rfl rfl (fun hc => ?_) (fun hc => ?_)
  · replace F := F.1 hc
    refine s_ic dX13_tellFunc_205 ki_0 ?_
    exact s_k (t_tellFunc_206 hC hB102 F) ⟨rfl, rfl, trivial⟩
  · replace F := F.2 hc
    refine s_aln dX13_tellFunc_192 rfl ?_
    refine s_bi dX13_tellFunc_193 kb_44 ?_
    refine k_316 dX13_tellFunc_195 rfl (Nat.le_of_ble_eq_true rfl) (Nat.le_of_ble_eq_true rfl) F (fun r4 σ3 F => ?_)
    refine s_i (t := 205) (r4 = 0) dX13_tellFunc_198 rfl rfl (fun hc => ?_) (fun hc => ?_)
    · replace F := F.1 hc
      refine s_ic dX13_tellFunc_205 ki_0 ?_
      exact s_k (t_tellFunc_206 hC hB102 F) ⟨rfl, rfl, trivial⟩
    · replace F := F.2 hc
      refine s_ic dX13_tellFunc_201 ki_1 ?_
      refine s_goto (t := 206) dX13_tellFunc_202 rfl ?_
      exact s_k (t_tellFunc_206 hC hB102 F) ⟨rfl, rfl, trivial⟩

def w_tellFunc_218 (C : rCx) (Q : rS → Prop)  (a1 : Int32) (σ : rS) : Prop :=
  cV C 4 m_close [.ref (co C), .int (41 : Int32)] σ (fun σ1 =>
    cV C 3 m_open [.ref (co C), .int (123 : Int32)] σ1 (fun σ3 =>
      cV C 10 m_tellStatements [.ref (co C)] σ3 (fun σ5 =>
        cV C 4 m_close [.ref (co C), .int (125 : Int32)] σ5 (fun σ7 =>
          cI C 0 m_isRight [.ref (co C)] σ7 (fun r10 σ9 =>
            (r10 = 0 →
              Q σ9) ∧
            (¬ (r10 = 0) →
              inb (σ9.1 18) 10 ∧
              ∀ σ11, σ11 = riU σ9 25 ((σ9.1 18)).toNatClampNeg a1 →
              ∀ σ12, σ12 = siU σ11 18 ((σ11.1 18) + (1 : Int32)) →
              Q σ12))))))
theorem t_tellFunc_218 {C : rCx} (hC : cOK C) {Q : rS → Prop}   {a1 : Int32} {σ : rS} (F : w_tellFunc_218 C Q  a1 σ) : wG C 11 m_tellFunc 218 [some (.ref (co C)), some (.int a1), none, none] [] σ (qV Q) := by
  unfold w_tellFunc_218 at F
  refine s_aln dX13_tellFunc_218 rfl ?_
  refine s_bi dX13_tellFunc_219 kb_41 ?_
  refine k_366 dX13_tellFunc_221 rfl (Nat.le_of_ble_eq_true rfl) (Nat.le_of_ble_eq_true rfl) F (fun σ1 F => ?_)
  refine s_aln dX13_tellFunc_224 rfl ?_
  refine s_bi dX13_tellFunc_225 kb_123 ?_
  refine k_359 dX13_tellFunc_227 rfl (Nat.le_of_ble_eq_true rfl) (Nat.le_of_ble_eq_true rfl) F (fun σ3 F => ?_)
  refine s_aln dX13_tellFunc_230 rfl ?_
  refine k_372 dX13_tellFunc_231 rfl (Nat.le_of_ble_eq_true rfl) (Nat.le_of_ble_eq_true rfl) F (fun σ5 F => ?_)
  refine s_aln dX13_tellFunc_234 rfl ?_
  refine s_bi dX13_tellFunc_235 kb_125 ?_
  refine k_366 dX13_tellFunc_237 rfl (Nat.le_of_ble_eq_true rfl) (Nat.le_of_ble_eq_true rfl) F (fun σ7 F => ?_)
  refine s_aln dX13_tellFunc_240 rfl ?_
  refine k_325 dX13_tellFunc_241 rfl (Nat.le_of_ble_eq_true rfl) (Nat.le_of_ble_eq_true rfl) F (fun r10 σ9 F => ?_)
  refine s_i (t := 267) (r10 = 0) dX13_tellFunc_244 rfl rfl (fun hc => ?_) (fun hc => ?_)
  · replace F := F.1 hc
    exact s_rv dX13_tellFunc_267 rfl F
  · replace F := F.2 hc
    refine s_aln dX13_tellFunc_247 rfl ?_
    refine gf_51 dX13_tellFunc_248 rfl ?_
    refine s_aln dX13_tellFunc_251 rfl ?_
    refine gf_343 dX13_tellFunc_252 rfl ?_
    refine s_iln dX13_tellFunc_255 rfl ?_
    refine s_astb hC dX13_tellFunc_256 rt_25 F.1 (fun σ11 eσ11 => ?_)
    replace F := F.2 σ11 eσ11
    refine s_aln dX13_tellFunc_257 rfl ?_
    refine s_dup dX13_tellFunc_258 rfl ?_
    refine gf_343 dX13_tellFunc_259 rfl ?_
    refine s_ic dX13_tellFunc_262 ki_1 ?_
    refine s_iadd dX13_tellFunc_263 ?_
    refine pf_343 hC dX13_tellFunc_264 rfl (fun σ12 eσ12 => ?_)
    replace F := F σ12 eσ12
    exact s_rv dX13_tellFunc_267 rfl F

def w_tellFunc_102 (C : rCx) (Q : rS → Prop)  (a1 : Int32) (a2 : Int32) (σ : rS) : Prop :=
  ∃ I : Nat → Int32 → Int32 → rS → Prop, (∃ n, I n a1 a2 σ) ∧ ∀ n a1 a2 σ, I n a1 a2 σ →
    cI C 0 m_isRight [.ref (co C)] σ (fun r2 σ1 =>
      (r2 = 0 →
        w_tellFunc_218 C Q  a1 σ1) ∧
      (¬ (r2 = 0) →
        (a2 = 0 →
          w_tellFunc_218 C Q  a1 σ1) ∧
        (¬ (a2 = 0) →
          inb (σ1.1 41) 10 ∧
          cI C 3 m_fresh [.ref (co C), .int (1 : Int32), .int (σ1.2.2.1 27 ((σ1.1 41)).toNatClampNeg), .int (4 : Int32)] σ1 (fun r4 σ3 =>
            cI C 0 m_isRight [.ref (co C)] σ3 (fun r6 σ5 =>
              (r6 = 0 →
                w_tellFunc_185 C Q (fun a1' a2' τ => ∃ k < n, I k a1' a2' τ) a1 σ5) ∧
              (¬ (r6 = 0) →
                inb (σ5.1 41) 10 ∧
                inb (((8 : Int32) * (σ5.1 41)) + (σ5.2.2.1 27 ((σ5.1 41)).toNatClampNeg)) 80 ∧
                ∀ σ7, σ7 = riU σ5 28 ((((8 : Int32) * (σ5.1 41)) + (σ5.2.2.1 27 ((σ5.1 41)).toNatClampNeg))).toNatClampNeg r4 →
                inb (σ7.1 41) 10 ∧
                inb (σ7.1 41) 10 ∧
                ∀ σ8, σ8 = riU σ7 27 ((σ7.1 41)).toNatClampNeg ((σ7.2.2.1 27 ((σ7.1 41)).toNatClampNeg) + (1 : Int32)) →
                inb (σ8.1 41) 10 ∧
                inb (σ8.1 41) 10 ∧
                ∀ σ9, σ9 = riU σ8 26 ((σ8.1 41)).toNatClampNeg ((σ8.2.2.1 26 ((σ8.1 41)).toNatClampNeg) + (1 : Int32)) →
                w_tellFunc_185 C Q (fun a1' a2' τ => ∃ k < n, I k a1' a2' τ) a1 σ9))))))
theorem t_tellFunc_102 {C : rCx} (hC : cOK C) {Q : rS → Prop}   {a1 : Int32} {a2 : Int32} {σ : rS} (F : w_tellFunc_102 C Q  a1 a2 σ) : wG C 11 m_tellFunc 102 [some (.ref (co C)), some (.int a1), some (.int a2), none] [] σ (qV Q) := by
  obtain ⟨I, ⟨n0, hI0⟩, F0⟩ := F
  have key : ∀ n a1 a2 σ, I n a1 a2 σ → wG C 11 m_tellFunc 102 [some (.ref (co C)), some (.int a1), some (.int a2), none] [] σ (qV Q) := by
    intro n
    induction n using Nat.strongRecOn with
    | _ n ih =>
      intro a1 a2 σ hI
      have F := F0 n a1 a2 σ hI
      clear hI hI0
      refine s_aln dX13_tellFunc_102 rfl ?_
      refine k_325 dX13_tellFunc_103 rfl (Nat.le_of_ble_eq_true rfl) (Nat.le_of_ble_eq_true rfl) F (fun r2 σ1 F => ?_)
      refine s_i (t := 218) (r2 = 0) dX13_tellFunc_106 rfl rfl (fun hc => ?_) (fun hc => ?_)
      · replace F := F.1 hc
        exact s_k (t_tellFunc_218 hC  F) ⟨rfl, rfl, trivial⟩
      · replace F := F.2 hc
        refine s_iln dX13_tellFunc_109 rfl ?_
        refine s_i (t := 218) (a2 = 0) dX13_tellFunc_110 rfl rfl (fun hc => ?_) (fun hc => ?_)
        · replace F := F.1 hc
          exact s_k (t_tellFunc_218 hC  F) ⟨rfl, rfl, trivial⟩
        · replace F := F.2 hc
          refine s_aln dX13_tellFunc_113 rfl ?_
          refine s_ic dX13_tellFunc_114 ki_1 ?_
          refine s_aln dX13_tellFunc_115 rfl ?_
          refine gf_57 dX13_tellFunc_116 rfl ?_
          refine s_aln dX13_tellFunc_119 rfl ?_
          refine gf_346 dX13_tellFunc_120 rfl ?_
          refine s_ald hC dX13_tellFunc_123 rt_27 F.1 ?_
          replace F := F.2
          refine s_ic dX13_tellFunc_124 ki_4 ?_
          refine k_355 dX13_tellFunc_125 rfl (Nat.le_of_ble_eq_true rfl) (Nat.le_of_ble_eq_true rfl) F (fun r4 σ3 F => ?_)
          refine s_isn dX13_tellFunc_128 (Nat.le_of_ble_eq_true rfl) rfl ?_
          refine s_aln dX13_tellFunc_129 rfl ?_
          refine k_325 dX13_tellFunc_130 rfl (Nat.le_of_ble_eq_true rfl) (Nat.le_of_ble_eq_true rfl) F (fun r6 σ5 F => ?_)
          refine s_i (t := 185) (r6 = 0) dX13_tellFunc_133 rfl rfl (fun hc => ?_) (fun hc => ?_)
          · replace F := F.1 hc
            exact s_k (t_tellFunc_185 hC (fun a1' a2' τ hb => by obtain ⟨k, hk, hI⟩ := hb; exact ih k hk a1' a2' τ hI) F) ⟨rfl, rfl, trivial⟩
          · replace F := F.2 hc
            refine s_aln dX13_tellFunc_136 rfl ?_
            refine gf_60 dX13_tellFunc_137 rfl ?_
            refine s_bi dX13_tellFunc_140 kb_8 ?_
            refine s_aln dX13_tellFunc_142 rfl ?_
            refine gf_346 dX13_tellFunc_143 rfl ?_
            refine s_imul dX13_tellFunc_146 ?_
            refine s_aln dX13_tellFunc_147 rfl ?_
            refine gf_57 dX13_tellFunc_148 rfl ?_
            refine s_aln dX13_tellFunc_151 rfl ?_
            refine gf_346 dX13_tellFunc_152 rfl ?_
            refine s_ald hC dX13_tellFunc_155 rt_27 F.1 ?_
            replace F := F.2
            refine s_iadd dX13_tellFunc_156 ?_
            refine s_iln dX13_tellFunc_157 rfl ?_
            refine s_astb hC dX13_tellFunc_158 rt_28 F.1 (fun σ7 eσ7 => ?_)
            replace F := F.2 σ7 eσ7
            refine s_aln dX13_tellFunc_159 rfl ?_
            refine gf_57 dX13_tellFunc_160 rfl ?_
            refine s_aln dX13_tellFunc_163 rfl ?_
            refine gf_346 dX13_tellFunc_164 rfl ?_
            refine s_dup2 dX13_tellFunc_167 rfl rfl ?_
            refine s_ald hC dX13_tellFunc_168 rt_27 F.1 ?_
            replace F := F.2
            refine s_ic dX13_tellFunc_169 ki_1 ?_
            refine s_iadd dX13_tellFunc_170 ?_
            refine s_astb hC dX13_tellFunc_171 rt_27 F.1 (fun σ8 eσ8 => ?_)
            replace F := F.2 σ8 eσ8
            refine s_aln dX13_tellFunc_172 rfl ?_
            refine gf_54 dX13_tellFunc_173 rfl ?_
            refine s_aln dX13_tellFunc_176 rfl ?_
            refine gf_346 dX13_tellFunc_177 rfl ?_
            refine s_dup2 dX13_tellFunc_180 rfl rfl ?_
            refine s_ald hC dX13_tellFunc_181 rt_26 F.1 ?_
            replace F := F.2
            refine s_ic dX13_tellFunc_182 ki_1 ?_
            refine s_iadd dX13_tellFunc_183 ?_
            refine s_astb hC dX13_tellFunc_184 rt_26 F.1 (fun σ9 eσ9 => ?_)
            replace F := F.2 σ9 eσ9
            exact s_k (t_tellFunc_185 hC (fun a1' a2' τ hb => by obtain ⟨k, hk, hI⟩ := hb; exact ih k hk a1' a2' τ hI) F) ⟨rfl, rfl, trivial⟩
  exact key n0 a1 a2 σ hI0

def w_tellFunc_74 (C : rCx) (Q : rS → Prop)  (a1 : Int32) (σ : rS) : Prop :=
  cV C 3 m_open [.ref (co C), .int (40 : Int32)] σ (fun σ1 =>
    cI C 0 m_isRight [.ref (co C)] σ1 (fun r4 σ3 =>
      (r4 = 0 →
        w_tellFunc_102 C Q  a1 (0 : Int32) σ3) ∧
      (¬ (r4 = 0) →
        cI C 0 m_isAt [.ref (co C), .int (41 : Int32)] σ3 (fun r6 σ5 =>
          (¬ (r6 = 0) →
            w_tellFunc_102 C Q  a1 (0 : Int32) σ5) ∧
          (r6 = 0 →
            w_tellFunc_102 C Q  a1 (1 : Int32) σ5)))))
theorem t_tellFunc_74 {C : rCx} (hC : cOK C) {Q : rS → Prop}   {a1 : Int32} {σ : rS} (F : w_tellFunc_74 C Q  a1 σ) : wG C 11 m_tellFunc 74 [some (.ref (co C)), some (.int a1), none, none] [] σ (qV Q) := by
  unfold w_tellFunc_74 at F
  refine s_aln dX13_tellFunc_74 rfl ?_
  refine s_bi dX13_tellFunc_75 kb_40 ?_
  refine k_359 dX13_tellFunc_77 rfl (Nat.le_of_ble_eq_true rfl) (Nat.le_of_ble_eq_true rfl) F (fun σ1 F => ?_)
  refine s_aln dX13_tellFunc_80 rfl ?_
  refine k_325 dX13_tellFunc_81 rfl (Nat.le_of_ble_eq_true rfl) (Nat.le_of_ble_eq_true rfl) F (fun r4 σ3 F => ?_)
  refine s_i (t := 100) (r4 = 0) dX13_tellFunc_84 rfl rfl (fun hc => ?_) (fun hc => ?_)
  · replace F := F.1 hc
    refine s_ic dX13_tellFunc_100 ki_0 ?_
    refine s_isn dX13_tellFunc_101 (Nat.le_of_ble_eq_true rfl) rfl ?_
    exact s_k (t_tellFunc_102 hC  F) ⟨rfl, rfl, rfl, trivial⟩
  · replace F := F.2 hc
    refine s_aln dX13_tellFunc_87 rfl ?_
    refine s_bi dX13_tellFunc_88 kb_41 ?_
    refine k_316 dX13_tellFunc_90 rfl (Nat.le_of_ble_eq_true rfl) (Nat.le_of_ble_eq_true rfl) F (fun r6 σ5 F => ?_)
    refine s_in (t := 100) (r6 = 0) dX13_tellFunc_93 rfl rfl (fun hc => ?_) (fun hc => ?_)
    · replace F := F.1 hc
      refine s_ic dX13_tellFunc_100 ki_0 ?_
      refine s_isn dX13_tellFunc_101 (Nat.le_of_ble_eq_true rfl) rfl ?_
      exact s_k (t_tellFunc_102 hC  F) ⟨rfl, rfl, rfl, trivial⟩
    · replace F := F.2 hc
      refine s_ic dX13_tellFunc_96 ki_1 ?_
      refine s_goto (t := 101) dX13_tellFunc_97 rfl ?_
      refine s_isn dX13_tellFunc_101 (Nat.le_of_ble_eq_true rfl) rfl ?_
      exact s_k (t_tellFunc_102 hC  F) ⟨rfl, rfl, rfl, trivial⟩

def w_tellFunc_34 (C : rCx) (Q : rS → Prop)  (a1 : Int32) (s1 : Int32) (σ : rS) : Prop :=
  ∀ σ1, σ1 = siU σ 41 s1 →
  cI C 0 m_isRight [.ref (co C)] σ1 (fun r3 σ2 =>
    (r3 = 0 →
      w_tellFunc_74 C Q  a1 σ2) ∧
    (¬ (r3 = 0) →
      inb (σ2.1 41) 10 ∧
      ∀ σ4, σ4 = riU σ2 27 ((σ2.1 41)).toNatClampNeg (0 : Int32) →
      inb (σ4.1 41) 10 ∧
      ∀ σ5, σ5 = riU σ4 26 ((σ4.1 41)).toNatClampNeg (0 : Int32) →
      inb (σ5.1 41) 10 ∧
      ∀ σ6, σ6 = riU σ5 29 ((σ5.1 41)).toNatClampNeg (-1 : Int32) →
      w_tellFunc_74 C Q  a1 σ6))
theorem t_tellFunc_34 {C : rCx} (hC : cOK C) {Q : rS → Prop}   {a1 : Int32} {s1 : Int32} {σ : rS} (F : w_tellFunc_34 C Q  a1 s1 σ) : wG C 11 m_tellFunc 34 [some (.ref (co C)), some (.int a1), none, none] [.int s1, .ref (co C)] σ (qV Q) := by
  unfold w_tellFunc_34 at F
  refine pf_346 hC dX13_tellFunc_34 rfl (fun σ1 eσ1 => ?_)
  replace F := F σ1 eσ1
  refine s_aln dX13_tellFunc_37 rfl ?_
  refine k_325 dX13_tellFunc_38 rfl (Nat.le_of_ble_eq_true rfl) (Nat.le_of_ble_eq_true rfl) F (fun r3 σ2 F => ?_)
  refine s_i (t := 74) (r3 = 0) dX13_tellFunc_41 rfl rfl (fun hc => ?_) (fun hc => ?_)
  · replace F := F.1 hc
    exact s_k (t_tellFunc_74 hC  F) ⟨rfl, rfl, trivial⟩
  · replace F := F.2 hc
    refine s_aln dX13_tellFunc_44 rfl ?_
    refine gf_57 dX13_tellFunc_45 rfl ?_
    refine s_aln dX13_tellFunc_48 rfl ?_
    refine gf_346 dX13_tellFunc_49 rfl ?_
    refine s_ic dX13_tellFunc_52 ki_0 ?_
    refine s_astb hC dX13_tellFunc_53 rt_27 F.1 (fun σ4 eσ4 => ?_)
    replace F := F.2 σ4 eσ4
    refine s_aln dX13_tellFunc_54 rfl ?_
    refine gf_54 dX13_tellFunc_55 rfl ?_
    refine s_aln dX13_tellFunc_58 rfl ?_
    refine gf_346 dX13_tellFunc_59 rfl ?_
    refine s_ic dX13_tellFunc_62 ki_0 ?_
    refine s_astb hC dX13_tellFunc_63 rt_26 F.1 (fun σ5 eσ5 => ?_)
    replace F := F.2 σ5 eσ5
    refine s_aln dX13_tellFunc_64 rfl ?_
    refine gf_63 dX13_tellFunc_65 rfl ?_
    refine s_aln dX13_tellFunc_68 rfl ?_
    refine gf_346 dX13_tellFunc_69 rfl ?_
    refine s_ic dX13_tellFunc_72 ki_m1 ?_
    refine s_astb hC dX13_tellFunc_73 rt_29 F.1 (fun σ6 eσ6 => ?_)
    replace F := F.2 σ6 eσ6
    exact s_k (t_tellFunc_74 hC  F) ⟨rfl, rfl, trivial⟩

def w_tellFunc_0 (C : rCx) (Q : rS → Prop)   (σ : rS) : Prop :=
  cV C 2 m_go [.ref (co C)] σ (fun σ1 =>
    cI C 3 m_fresh [.ref (co C), .int (0 : Int32), .int (σ1.1 18), .int (10 : Int32)] σ1 (fun r4 σ3 =>
      ((10 : Int32) ≤ (σ3.1 18) →
        w_tellFunc_34 C Q  r4 (0 : Int32) σ3) ∧
      (¬ ((10 : Int32) ≤ (σ3.1 18)) →
        w_tellFunc_34 C Q  r4 (σ3.1 18) σ3)))
theorem t_tellFunc_0 {C : rCx} (hC : cOK C) {Q : rS → Prop}    {σ : rS} (F : w_tellFunc_0 C Q   σ) : wG C 11 m_tellFunc 0 [some (.ref (co C)), none, none, none] [] σ (qV Q) := by
  unfold w_tellFunc_0 at F
  refine s_aln dX13_tellFunc_0 rfl ?_
  refine k_319 dX13_tellFunc_1 rfl (Nat.le_of_ble_eq_true rfl) (Nat.le_of_ble_eq_true rfl) F (fun σ1 F => ?_)
  refine s_aln dX13_tellFunc_4 rfl ?_
  refine s_ic dX13_tellFunc_5 ki_0 ?_
  refine s_aln dX13_tellFunc_6 rfl ?_
  refine gf_343 dX13_tellFunc_7 rfl ?_
  refine s_bi dX13_tellFunc_10 kb_10 ?_
  refine k_355 dX13_tellFunc_12 rfl (Nat.le_of_ble_eq_true rfl) (Nat.le_of_ble_eq_true rfl) F (fun r4 σ3 F => ?_)
  refine s_isn dX13_tellFunc_15 (Nat.le_of_ble_eq_true rfl) rfl ?_
  refine s_aln dX13_tellFunc_16 rfl ?_
  refine s_aln dX13_tellFunc_17 rfl ?_
  refine gf_343 dX13_tellFunc_18 rfl ?_
  refine s_bi dX13_tellFunc_21 kb_10 ?_
  refine s_ii (t := 33) ((10 : Int32) ≤ (σ3.1 18)) dX13_tellFunc_23 rfl rfl (fun hc => ?_) (fun hc => ?_)
  · replace F := F.1 hc
    refine s_ic dX13_tellFunc_33 ki_0 ?_
    exact s_k (t_tellFunc_34 hC  F) ⟨rfl, rfl, trivial⟩
  · replace F := F.2 hc
    refine s_aln dX13_tellFunc_26 rfl ?_
    refine gf_343 dX13_tellFunc_27 rfl ?_
    refine s_goto (t := 34) dX13_tellFunc_30 rfl ?_
    exact s_k (t_tellFunc_34 hC  F) ⟨rfl, rfl, trivial⟩

theorem m_tellFunc_run {C : rCx} (hC : cOK C) {Q : rS → Prop}  {σ : rS} (F : w_tellFunc_0 C Q  σ) : cV C 11 m_tellFunc [.ref (co C)] σ Q := m_V (m_ent _ 3) (t_tellFunc_0 hC F)

