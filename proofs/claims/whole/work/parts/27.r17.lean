/-! methods of the reference: show, numbersOf, size, limb, tell, forget, drawn, draws, chooses, go2 -/
theorem dX13_show_0 : decode cX13_show 0 = .ok (.aload_n 0, 1) := by decide +kernel
theorem dX13_show_1 : decode cX13_show 1 = .ok (.iload_n 1, 1) := by decide +kernel
theorem dX13_show_2 : decode cX13_show 2 = .ok (.iconst 0, 1) := by decide +kernel
theorem dX13_show_3 : decode cX13_show 3 = .ok (.bipush 12, 2) := by decide +kernel
theorem dX13_show_5 : decode cX13_show 5 = .ok (.invokestatic 362, 3) := by decide +kernel
theorem dX13_show_8 : decode cX13_show 8 = .ok (.ifCond .ne 7, 3) := by decide +kernel
theorem dX13_show_11 : decode cX13_show 11 = .ok (.iconst 1, 1) := by decide +kernel
theorem dX13_show_12 : decode cX13_show 12 = .ok (.goto 58, 3) := by decide +kernel
theorem dX13_show_15 : decode cX13_show 15 = .ok (.iload_n 1, 1) := by decide +kernel
theorem dX13_show_16 : decode cX13_show 16 = .ok (.bipush 11, 2) := by decide +kernel
theorem dX13_show_18 : decode cX13_show 18 = .ok (.if_icmp .ge 18, 3) := by decide +kernel
theorem dX13_show_21 : decode cX13_show 21 = .ok (.aload_n 0, 1) := by decide +kernel
theorem dX13_show_22 : decode cX13_show 22 = .ok (.getfield 536, 3) := by decide +kernel
theorem dX13_show_25 : decode cX13_show 25 = .ok (.ifCond .eq 7, 3) := by decide +kernel
theorem dX13_show_28 : decode cX13_show 28 = .ok (.iconst 0, 1) := by decide +kernel
theorem dX13_show_29 : decode cX13_show 29 = .ok (.goto 41, 3) := by decide +kernel
theorem dX13_show_32 : decode cX13_show 32 = .ok (.iconst 2, 1) := by decide +kernel
theorem dX13_show_33 : decode cX13_show 33 = .ok (.goto 37, 3) := by decide +kernel
theorem dX13_show_36 : decode cX13_show 36 = .ok (.iload_n 1, 1) := by decide +kernel
theorem dX13_show_37 : decode cX13_show 37 = .ok (.bipush 11, 2) := by decide +kernel
theorem dX13_show_39 : decode cX13_show 39 = .ok (.if_icmp .ne 18, 3) := by decide +kernel
theorem dX13_show_42 : decode cX13_show 42 = .ok (.aload_n 0, 1) := by decide +kernel
theorem dX13_show_43 : decode cX13_show 43 = .ok (.getfield 539, 3) := by decide +kernel
theorem dX13_show_46 : decode cX13_show 46 = .ok (.ifCond .eq 7, 3) := by decide +kernel
theorem dX13_show_49 : decode cX13_show 49 = .ok (.iconst 0, 1) := by decide +kernel
theorem dX13_show_50 : decode cX13_show 50 = .ok (.goto 20, 3) := by decide +kernel
theorem dX13_show_53 : decode cX13_show 53 = .ok (.iconst 2, 1) := by decide +kernel
theorem dX13_show_54 : decode cX13_show 54 = .ok (.goto 16, 3) := by decide +kernel
theorem dX13_show_57 : decode cX13_show 57 = .ok (.aload_n 0, 1) := by decide +kernel
theorem dX13_show_58 : decode cX13_show 58 = .ok (.getfield 220, 3) := by decide +kernel
theorem dX13_show_61 : decode cX13_show 61 = .ok (.iconst (-1), 1) := by decide +kernel
theorem dX13_show_62 : decode cX13_show 62 = .ok (.if_icmp .ne 7, 3) := by decide +kernel
theorem dX13_show_65 : decode cX13_show 65 = .ok (.iconst 2, 1) := by decide +kernel
theorem dX13_show_66 : decode cX13_show 66 = .ok (.goto 4, 3) := by decide +kernel
theorem dX13_show_69 : decode cX13_show 69 = .ok (.iconst 0, 1) := by decide +kernel
theorem dX13_show_70 : decode cX13_show 70 = .ok (.putfield 1, 3) := by decide +kernel
theorem dX13_show_73 : decode cX13_show 73 = .ok (.aload_n 0, 1) := by decide +kernel
theorem dX13_show_74 : decode cX13_show 74 = .ok (.getfield 1, 3) := by decide +kernel
theorem dX13_show_77 : decode cX13_show 77 = .ok (.ifCond .ne 49, 3) := by decide +kernel
theorem dX13_show_80 : decode cX13_show 80 = .ok (.iload_n 1, 1) := by decide +kernel
theorem dX13_show_81 : decode cX13_show 81 = .ok (.iconst 2, 1) := by decide +kernel
theorem dX13_show_82 : decode cX13_show 82 = .ok (.if_icmp .lt 9, 3) := by decide +kernel
theorem dX13_show_85 : decode cX13_show 85 = .ok (.iload_n 1, 1) := by decide +kernel
theorem dX13_show_86 : decode cX13_show 86 = .ok (.bipush 10, 2) := by decide +kernel
theorem dX13_show_88 : decode cX13_show 88 = .ok (.if_icmp .ne 38, 3) := by decide +kernel
theorem dX13_show_91 : decode cX13_show 91 = .ok (.aload_n 0, 1) := by decide +kernel
theorem dX13_show_92 : decode cX13_show 92 = .ok (.iload_n 1, 1) := by decide +kernel
theorem dX13_show_93 : decode cX13_show 93 = .ok (.iconst 2, 1) := by decide +kernel
theorem dX13_show_94 : decode cX13_show 94 = .ok (.if_icmp .ge 8, 3) := by decide +kernel
theorem dX13_show_97 : decode cX13_show 97 = .ok (.bipush 6, 2) := by decide +kernel
theorem dX13_show_99 : decode cX13_show 99 = .ok (.goto 5, 3) := by decide +kernel
theorem dX13_show_102 : decode cX13_show 102 = .ok (.bipush 7, 2) := by decide +kernel
theorem dX13_show_104 : decode cX13_show 104 = .ok (.iconst 0, 1) := by decide +kernel
theorem dX13_show_105 : decode cX13_show 105 = .ok (.iconst 0, 1) := by decide +kernel
theorem dX13_show_106 : decode cX13_show 106 = .ok (.invokevirtual 803, 3) := by decide +kernel
theorem dX13_show_109 : decode cX13_show 109 = .ok (.aload_n 0, 1) := by decide +kernel
theorem dX13_show_110 : decode cX13_show 110 = .ok (.aload_n 0, 1) := by decide +kernel
theorem dX13_show_111 : decode cX13_show 111 = .ok (.iconst 4, 1) := by decide +kernel
theorem dX13_show_112 : decode cX13_show 112 = .ok (.invokevirtual 696, 3) := by decide +kernel
theorem dX13_show_115 : decode cX13_show 115 = .ok (.ifCond .eq 7, 3) := by decide +kernel
theorem dX13_show_118 : decode cX13_show 118 = .ok (.iconst 2, 1) := by decide +kernel
theorem dX13_show_119 : decode cX13_show 119 = .ok (.goto 4, 3) := by decide +kernel
theorem dX13_show_122 : decode cX13_show 122 = .ok (.iconst 0, 1) := by decide +kernel
theorem dX13_show_123 : decode cX13_show 123 = .ok (.putfield 1, 3) := by decide +kernel
theorem dX13_show_126 : decode cX13_show 126 = .ok (.aload_n 0, 1) := by decide +kernel
theorem dX13_show_127 : decode cX13_show 127 = .ok (.getfield 1, 3) := by decide +kernel
theorem dX13_show_130 : decode cX13_show 130 = .ok (.ifCond .ne 51, 3) := by decide +kernel
theorem dX13_show_133 : decode cX13_show 133 = .ok (.aload_n 0, 1) := by decide +kernel
theorem dX13_show_134 : decode cX13_show 134 = .ok (.iload_n 1, 1) := by decide +kernel
theorem dX13_show_135 : decode cX13_show 135 = .ok (.iconst 2, 1) := by decide +kernel
theorem dX13_show_136 : decode cX13_show 136 = .ok (.if_icmp .ne 14, 3) := by decide +kernel
theorem dX13_show_139 : decode cX13_show 139 = .ok (.iload_n 2, 1) := by decide +kernel
theorem dX13_show_140 : decode cX13_show 140 = .ok (.aload_n 0, 1) := by decide +kernel
theorem dX13_show_141 : decode cX13_show 141 = .ok (.getfield 545, 3) := by decide +kernel
theorem dX13_show_144 : decode cX13_show 144 = .ok (.invokestatic 807, 3) := by decide +kernel
theorem dX13_show_147 : decode cX13_show 147 = .ok (.ifCond .eq 26, 3) := by decide +kernel
theorem dX13_show_150 : decode cX13_show 150 = .ok (.iload_n 1, 1) := by decide +kernel
theorem dX13_show_151 : decode cX13_show 151 = .ok (.bipush 8, 2) := by decide +kernel
theorem dX13_show_153 : decode cX13_show 153 = .ok (.if_icmp .eq 9, 3) := by decide +kernel
theorem dX13_show_156 : decode cX13_show 156 = .ok (.iload_n 1, 1) := by decide +kernel
theorem dX13_show_157 : decode cX13_show 157 = .ok (.bipush 11, 2) := by decide +kernel
theorem dX13_show_159 : decode cX13_show 159 = .ok (.if_icmp .ne 18, 3) := by decide +kernel
theorem dX13_show_162 : decode cX13_show 162 = .ok (.iload_n 2, 1) := by decide +kernel
theorem dX13_show_163 : decode cX13_show 163 = .ok (.aload_n 0, 1) := by decide +kernel
theorem dX13_show_164 : decode cX13_show 164 = .ok (.getfield 542, 3) := by decide +kernel
theorem dX13_show_167 : decode cX13_show 167 = .ok (.invokestatic 807, 3) := by decide +kernel
theorem dX13_show_170 : decode cX13_show 170 = .ok (.ifCond .ne 7, 3) := by decide +kernel
theorem dX13_show_173 : decode cX13_show 173 = .ok (.iconst 3, 1) := by decide +kernel
theorem dX13_show_174 : decode cX13_show 174 = .ok (.goto 4, 3) := by decide +kernel
theorem dX13_show_177 : decode cX13_show 177 = .ok (.iconst 0, 1) := by decide +kernel
theorem dX13_show_178 : decode cX13_show 178 = .ok (.putfield 1, 3) := by decide +kernel
theorem dX13_show_181 : decode cX13_show 181 = .ok (.aload_n 0, 1) := by decide +kernel
theorem dX13_show_182 : decode cX13_show 182 = .ok (.getfield 1, 3) := by decide +kernel
theorem dX13_show_185 : decode cX13_show 185 = .ok (.ifCond .le 5, 3) := by decide +kernel
theorem dX13_show_188 : decode cX13_show 188 = .ok (.iconst 0, 1) := by decide +kernel
theorem dX13_show_189 : decode cX13_show 189 = .ok (.ireturn, 1) := by decide +kernel
theorem dX13_show_190 : decode cX13_show 190 = .ok (.iload_n 1, 1) := by decide +kernel
theorem dX13_show_191 : decode cX13_show 191 = .ok (.iconst 2, 1) := by decide +kernel
theorem dX13_show_192 : decode cX13_show 192 = .ok (.if_icmp .ge 15, 3) := by decide +kernel
theorem dX13_show_195 : decode cX13_show 195 = .ok (.aload_n 0, 1) := by decide +kernel
theorem dX13_show_196 : decode cX13_show 196 = .ok (.iload_n 1, 1) := by decide +kernel
theorem dX13_show_197 : decode cX13_show 197 = .ok (.iload_n 2, 1) := by decide +kernel
theorem dX13_show_198 : decode cX13_show 198 = .ok (.iconst 0, 1) := by decide +kernel
theorem dX13_show_199 : decode cX13_show 199 = .ok (.bipush 6, 2) := by decide +kernel
theorem dX13_show_201 : decode cX13_show 201 = .ok (.invokevirtual 810, 3) := by decide +kernel
theorem dX13_show_204 : decode cX13_show 204 = .ok (.goto 148, 3) := by decide +kernel
theorem dX13_show_207 : decode cX13_show 207 = .ok (.iload_n 1, 1) := by decide +kernel
theorem dX13_show_208 : decode cX13_show 208 = .ok (.bipush 7, 2) := by decide +kernel
theorem dX13_show_210 : decode cX13_show 210 = .ok (.if_icmp .ge 13, 3) := by decide +kernel
theorem dX13_show_213 : decode cX13_show 213 = .ok (.aload_n 0, 1) := by decide +kernel
theorem dX13_show_214 : decode cX13_show 214 = .ok (.iload_n 1, 1) := by decide +kernel
theorem dX13_show_215 : decode cX13_show 215 = .ok (.iload_n 2, 1) := by decide +kernel
theorem dX13_show_216 : decode cX13_show 216 = .ok (.iconst 0, 1) := by decide +kernel
theorem dX13_show_217 : decode cX13_show 217 = .ok (.invokevirtual 803, 3) := by decide +kernel
theorem dX13_show_220 : decode cX13_show 220 = .ok (.goto 132, 3) := by decide +kernel
theorem dX13_show_223 : decode cX13_show 223 = .ok (.iload_n 1, 1) := by decide +kernel
theorem dX13_show_224 : decode cX13_show 224 = .ok (.bipush 7, 2) := by decide +kernel
theorem dX13_show_226 : decode cX13_show 226 = .ok (.if_icmp .eq 9, 3) := by decide +kernel
theorem dX13_show_229 : decode cX13_show 229 = .ok (.iload_n 1, 1) := by decide +kernel
theorem dX13_show_230 : decode cX13_show 230 = .ok (.bipush 9, 2) := by decide +kernel
theorem dX13_show_232 : decode cX13_show 232 = .ok (.if_icmp .ne 21, 3) := by decide +kernel
theorem dX13_show_235 : decode cX13_show 235 = .ok (.aload_n 0, 1) := by decide +kernel
theorem dX13_show_236 : decode cX13_show 236 = .ok (.iload_n 1, 1) := by decide +kernel
theorem dX13_show_237 : decode cX13_show 237 = .ok (.bipush 7, 2) := by decide +kernel
theorem dX13_show_239 : decode cX13_show 239 = .ok (.if_icmp .ne 7, 3) := by decide +kernel
theorem dX13_show_242 : decode cX13_show 242 = .ok (.iconst 1, 1) := by decide +kernel
theorem dX13_show_243 : decode cX13_show 243 = .ok (.goto 4, 3) := by decide +kernel
theorem dX13_show_246 : decode cX13_show 246 = .ok (.iconst 0, 1) := by decide +kernel
theorem dX13_show_247 : decode cX13_show 247 = .ok (.invokevirtual 814, 3) := by decide +kernel
theorem dX13_show_250 : decode cX13_show 250 = .ok (.goto 102, 3) := by decide +kernel
theorem dX13_show_253 : decode cX13_show 253 = .ok (.iload_n 1, 1) := by decide +kernel
theorem dX13_show_254 : decode cX13_show 254 = .ok (.bipush 8, 2) := by decide +kernel
theorem dX13_show_256 : decode cX13_show 256 = .ok (.if_icmp .ne 20, 3) := by decide +kernel
theorem dX13_show_259 : decode cX13_show 259 = .ok (.aload_n 0, 1) := by decide +kernel
theorem dX13_show_260 : decode cX13_show 260 = .ok (.invokevirtual 762, 3) := by decide +kernel
theorem dX13_show_263 : decode cX13_show 263 = .ok (.aload_n 0, 1) := by decide +kernel
theorem dX13_show_264 : decode cX13_show 264 = .ok (.iload_n 2, 1) := by decide +kernel
theorem dX13_show_265 : decode cX13_show 265 = .ok (.invokevirtual 737, 3) := by decide +kernel
theorem dX13_show_268 : decode cX13_show 268 = .ok (.aload_n 0, 1) := by decide +kernel
theorem dX13_show_269 : decode cX13_show 269 = .ok (.iconst 1, 1) := by decide +kernel
theorem dX13_show_270 : decode cX13_show 270 = .ok (.invokevirtual 727, 3) := by decide +kernel
theorem dX13_show_273 : decode cX13_show 273 = .ok (.goto 79, 3) := by decide +kernel
theorem dX13_show_276 : decode cX13_show 276 = .ok (.iload_n 1, 1) := by decide +kernel
theorem dX13_show_277 : decode cX13_show 277 = .ok (.bipush 10, 2) := by decide +kernel
theorem dX13_show_279 : decode cX13_show 279 = .ok (.if_icmp .ne 16, 3) := by decide +kernel
theorem dX13_show_282 : decode cX13_show 282 = .ok (.aload_n 0, 1) := by decide +kernel
theorem dX13_show_283 : decode cX13_show 283 = .ok (.bipush 7, 2) := by decide +kernel
theorem dX13_show_285 : decode cX13_show 285 = .ok (.iconst 0, 1) := by decide +kernel
theorem dX13_show_286 : decode cX13_show 286 = .ok (.iconst 1, 1) := by decide +kernel
theorem dX13_show_287 : decode cX13_show 287 = .ok (.bipush 7, 2) := by decide +kernel
theorem dX13_show_289 : decode cX13_show 289 = .ok (.invokevirtual 810, 3) := by decide +kernel
theorem dX13_show_292 : decode cX13_show 292 = .ok (.goto 60, 3) := by decide +kernel
theorem dX13_show_295 : decode cX13_show 295 = .ok (.iload_n 1, 1) := by decide +kernel
theorem dX13_show_296 : decode cX13_show 296 = .ok (.bipush 11, 2) := by decide +kernel
theorem dX13_show_298 : decode cX13_show 298 = .ok (.if_icmp .ne 29, 3) := by decide +kernel
theorem dX13_show_301 : decode cX13_show 301 = .ok (.aload_n 0, 1) := by decide +kernel
theorem dX13_show_302 : decode cX13_show 302 = .ok (.invokevirtual 762, 3) := by decide +kernel
theorem dX13_show_305 : decode cX13_show 305 = .ok (.aload_n 0, 1) := by decide +kernel
theorem dX13_show_306 : decode cX13_show 306 = .ok (.aload_n 0, 1) := by decide +kernel
theorem dX13_show_307 : decode cX13_show 307 = .ok (.getfield 226, 3) := by decide +kernel
theorem dX13_show_310 : decode cX13_show 310 = .ok (.iload_n 2, 1) := by decide +kernel
theorem dX13_show_311 : decode cX13_show 311 = .ok (.invokevirtual 817, 3) := by decide +kernel
theorem dX13_show_314 : decode cX13_show 314 = .ok (.aload_n 0, 1) := by decide +kernel
theorem dX13_show_315 : decode cX13_show 315 = .ok (.aload_n 0, 1) := by decide +kernel
theorem dX13_show_316 : decode cX13_show 316 = .ok (.getfield 229, 3) := by decide +kernel
theorem dX13_show_319 : decode cX13_show 319 = .ok (.iload_n 2, 1) := by decide +kernel
theorem dX13_show_320 : decode cX13_show 320 = .ok (.iaload, 1) := by decide +kernel
theorem dX13_show_321 : decode cX13_show 321 = .ok (.invokevirtual 727, 3) := by decide +kernel
theorem dX13_show_324 : decode cX13_show 324 = .ok (.goto 28, 3) := by decide +kernel
theorem dX13_show_327 : decode cX13_show 327 = .ok (.aload_n 0, 1) := by decide +kernel
theorem dX13_show_328 : decode cX13_show 328 = .ok (.iconst 4, 1) := by decide +kernel
theorem dX13_show_329 : decode cX13_show 329 = .ok (.bipush 17, 2) := by decide +kernel
theorem dX13_show_331 : decode cX13_show 331 = .ok (.invokevirtual 703, 3) := by decide +kernel
theorem dX13_show_334 : decode cX13_show 334 = .ok (.aload_n 0, 1) := by decide +kernel
theorem dX13_show_335 : decode cX13_show 335 = .ok (.iconst 5, 1) := by decide +kernel
theorem dX13_show_336 : decode cX13_show 336 = .ok (.bipush 18, 2) := by decide +kernel
theorem dX13_show_338 : decode cX13_show 338 = .ok (.invokevirtual 703, 3) := by decide +kernel
theorem dX13_show_341 : decode cX13_show 341 = .ok (.aload_n 0, 1) := by decide +kernel
theorem dX13_show_342 : decode cX13_show 342 = .ok (.iconst 4, 1) := by decide +kernel
theorem dX13_show_343 : decode cX13_show 343 = .ok (.iconst 5, 1) := by decide +kernel
theorem dX13_show_344 : decode cX13_show 344 = .ok (.invokevirtual 721, 3) := by decide +kernel
theorem dX13_show_347 : decode cX13_show 347 = .ok (.aload_n 0, 1) := by decide +kernel
theorem dX13_show_348 : decode cX13_show 348 = .ok (.iconst 1, 1) := by decide +kernel
theorem dX13_show_349 : decode cX13_show 349 = .ok (.putfield 710, 3) := by decide +kernel
theorem dX13_show_352 : decode cX13_show 352 = .ok (.aload_n 0, 1) := by decide +kernel
theorem dX13_show_353 : decode cX13_show 353 = .ok (.bipush 15, 2) := by decide +kernel
theorem dX13_show_355 : decode cX13_show 355 = .ok (.iconst 4, 1) := by decide +kernel
theorem dX13_show_356 : decode cX13_show 356 = .ok (.invokevirtual 703, 3) := by decide +kernel
theorem dX13_show_359 : decode cX13_show 359 = .ok (.aload_n 0, 1) := by decide +kernel
theorem dX13_show_360 : decode cX13_show 360 = .ok (.bipush 16, 2) := by decide +kernel
theorem dX13_show_362 : decode cX13_show 362 = .ok (.iconst 5, 1) := by decide +kernel
theorem dX13_show_363 : decode cX13_show 363 = .ok (.invokevirtual 703, 3) := by decide +kernel
theorem dX13_show_366 : decode cX13_show 366 = .ok (.aload_n 0, 1) := by decide +kernel
theorem dX13_show_367 : decode cX13_show 367 = .ok (.iconst 1, 1) := by decide +kernel
theorem dX13_show_368 : decode cX13_show 368 = .ok (.putfield 821, 3) := by decide +kernel
theorem dX13_show_371 : decode cX13_show 371 = .ok (.aload_n 0, 1) := by decide +kernel
theorem dX13_show_372 : decode cX13_show 372 = .ok (.iconst 4, 1) := by decide +kernel
theorem dX13_show_373 : decode cX13_show 373 = .ok (.invokevirtual 696, 3) := by decide +kernel
theorem dX13_show_376 : decode cX13_show 376 = .ok (.ifCond .eq 7, 3) := by decide +kernel
theorem dX13_show_379 : decode cX13_show 379 = .ok (.iconst 0, 1) := by decide +kernel
theorem dX13_show_380 : decode cX13_show 380 = .ok (.goto 7, 3) := by decide +kernel
theorem dX13_show_383 : decode cX13_show 383 = .ok (.aload_n 0, 1) := by decide +kernel
theorem dX13_show_384 : decode cX13_show 384 = .ok (.getfield 710, 3) := by decide +kernel
theorem dX13_show_387 : decode cX13_show 387 = .ok (.ireturn, 1) := by decide +kernel
def w_show_352 (C : rCx) (Q : Int32 → rS → Prop)   (σ : rS) : Prop :=
  cV C 0 m_copy [.ref (co C), .int (15 : Int32), .int (4 : Int32)] σ (fun σ1 =>
    cV C 0 m_copy [.ref (co C), .int (16 : Int32), .int (5 : Int32)] σ1 (fun σ3 =>
      ∀ σ5, σ5 = siU σ3 103 (1 : Int32) →
      cI C 0 m_isZero [.ref (co C), .int (4 : Int32)] σ5 (fun r7 σ6 =>
        (r7 = 0 →
          Q (σ6.1 92) σ6) ∧
        (¬ (r7 = 0) →
          Q (0 : Int32) σ6))))
theorem t_show_352 {C : rCx} (hC : cOK C) {Q : Int32 → rS → Prop}    {σ : rS} (F : w_show_352 C Q   σ) : wG C 8 m_show 352 [some (.ref (co C)), none, none] [] σ (qI Q) := by
  unfold w_show_352 at F
  refine s_aln dX13_show_352 rfl ?_
  refine s_bi dX13_show_353 kb_15 ?_
  refine s_ic dX13_show_355 ki_4 ?_
  refine k_703 dX13_show_356 rfl (Nat.le_of_ble_eq_true rfl) (Nat.le_of_ble_eq_true rfl) F (fun σ1 F => ?_)
  refine s_aln dX13_show_359 rfl ?_
  refine s_bi dX13_show_360 kb_16 ?_
  refine s_ic dX13_show_362 ki_5 ?_
  refine k_703 dX13_show_363 rfl (Nat.le_of_ble_eq_true rfl) (Nat.le_of_ble_eq_true rfl) F (fun σ3 F => ?_)
  refine s_aln dX13_show_366 rfl ?_
  refine s_ic dX13_show_367 ki_1 ?_
  refine pf_821 hC dX13_show_368 rfl (nb_nar nb_1) (fun σ5 eσ5 => ?_)
  replace F := F σ5 eσ5
  refine s_aln dX13_show_371 rfl ?_
  refine s_ic dX13_show_372 ki_4 ?_
  refine k_696 dX13_show_373 rfl (Nat.le_of_ble_eq_true rfl) (Nat.le_of_ble_eq_true rfl) F (fun r7 σ6 F => ?_)
  refine s_i (t := 383) (r7 = 0) dX13_show_376 rfl rfl (fun hc => ?_) (fun hc => ?_)
  · replace F := F.1 hc
    refine s_aln dX13_show_383 rfl ?_
    refine gf_710 dX13_show_384 rfl ?_
    exact s_ri dX13_show_387 rfl in_nar F
  · replace F := F.2 hc
    refine s_ic dX13_show_379 ki_0 ?_
    refine s_goto (t := 387) dX13_show_380 rfl ?_
    exact s_ri dX13_show_387 rfl in_nar F

def w_show_235 (C : rCx) (Q : Int32 → rS → Prop)  (a1 : Int32) (σ : rS) : Prop :=
  (¬ (a1 = (7 : Int32)) →
    cV C 5 m_sumVisits [.ref (co C), .int (0 : Int32)] σ (fun σ1 =>
      w_show_352 C Q   σ1)) ∧
  (a1 = (7 : Int32) →
    cV C 5 m_sumVisits [.ref (co C), .int (1 : Int32)] σ (fun σ3 =>
      w_show_352 C Q   σ3))
theorem t_show_235 {C : rCx} (hC : cOK C) {Q : Int32 → rS → Prop}   {a1 : Int32} {σ : rS} (F : w_show_235 C Q  a1 σ) : wG C 8 m_show 235 [some (.ref (co C)), some (.int a1), none] [] σ (qI Q) := by
  unfold w_show_235 at F
  refine s_aln dX13_show_235 rfl ?_
  refine s_iln dX13_show_236 rfl ?_
  refine s_bi dX13_show_237 kb_7 ?_
  refine s_iin (t := 246) (a1 = (7 : Int32)) dX13_show_239 rfl rfl (fun hc => ?_) (fun hc => ?_)
  · replace F := F.1 hc
    refine s_ic dX13_show_246 ki_0 ?_
    refine k_814 dX13_show_247 rfl (Nat.le_of_ble_eq_true rfl) (Nat.le_of_ble_eq_true rfl) F (fun σ1 F => ?_)
    refine s_goto (t := 352) dX13_show_250 rfl ?_
    exact s_k (t_show_352 hC  F) ⟨rfl, trivial⟩
  · replace F := F.2 hc
    refine s_ic dX13_show_242 ki_1 ?_
    refine s_goto (t := 247) dX13_show_243 rfl ?_
    refine k_814 dX13_show_247 rfl (Nat.le_of_ble_eq_true rfl) (Nat.le_of_ble_eq_true rfl) F (fun σ3 F => ?_)
    refine s_goto (t := 352) dX13_show_250 rfl ?_
    exact s_k (t_show_352 hC  F) ⟨rfl, trivial⟩

def w_show_181 (C : rCx) (Q : Int32 → rS → Prop)  (a1 : Int32) (a2 : Int32) (σ : rS) : Prop :=
  ((σ.1 0) ≤ 0 →
    ((2 : Int32) ≤ a1 →
      ((7 : Int32) ≤ a1 →
        (a1 = (7 : Int32) →
          w_show_235 C Q  a1 σ) ∧
        (¬ (a1 = (7 : Int32)) →
          (¬ (a1 = (9 : Int32)) →
            (¬ (a1 = (8 : Int32)) →
              (¬ (a1 = (10 : Int32)) →
                (¬ (a1 = (11 : Int32)) →
                  cV C 0 m_copy [.ref (co C), .int (4 : Int32), .int (17 : Int32)] σ (fun σ1 =>
                    cV C 0 m_copy [.ref (co C), .int (5 : Int32), .int (18 : Int32)] σ1 (fun σ3 =>
                      cV C 3 m_reduce [.ref (co C), .int (4 : Int32), .int (5 : Int32)] σ3 (fun σ5 =>
                        ∀ σ7, σ7 = siU σ5 92 (1 : Int32) →
                        w_show_352 C Q   σ7)))) ∧
                (a1 = (11 : Int32) →
                  cV C 1 m_clearSum [.ref (co C)] σ (fun σ8 =>
                    cV C 0 m_loadWorth [.ref (co C), .ref (cad C 115), .int a2] σ8 (fun σ10 =>
                      inb a2 1000 ∧
                      cV C 4 m_add [.ref (co C), .int (σ10.2.2.1 116 (a2).toNatClampNeg)] σ10 (fun σ12 =>
                        w_show_352 C Q   σ12))))) ∧
              (a1 = (10 : Int32) →
                cV C 7 m_sumOver [.ref (co C), .int (7 : Int32), .int (0 : Int32), .int (1 : Int32), .int (7 : Int32)] σ (fun σ14 =>
                  w_show_352 C Q   σ14))) ∧
            (a1 = (8 : Int32) →
              cV C 1 m_clearSum [.ref (co C)] σ (fun σ16 =>
                cV C 0 m_loadVisits [.ref (co C), .int a2] σ16 (fun σ18 =>
                  cV C 4 m_add [.ref (co C), .int (1 : Int32)] σ18 (fun σ20 =>
                    w_show_352 C Q   σ20))))) ∧
          (a1 = (9 : Int32) →
            w_show_235 C Q  a1 σ))) ∧
      (¬ ((7 : Int32) ≤ a1) →
        cV C 6 m_sumWeights [.ref (co C), .int a1, .int a2, .int (0 : Int32)] σ (fun σ22 =>
          w_show_352 C Q   σ22))) ∧
    (¬ ((2 : Int32) ≤ a1) →
      cV C 7 m_sumOver [.ref (co C), .int a1, .int a2, .int (0 : Int32), .int (6 : Int32)] σ (fun σ24 =>
        w_show_352 C Q   σ24))) ∧
  (¬ ((σ.1 0) ≤ 0) →
    Q (0 : Int32) σ)
theorem t_show_181 {C : rCx} (hC : cOK C) {Q : Int32 → rS → Prop}   {a1 : Int32} {a2 : Int32} {σ : rS} (F : w_show_181 C Q  a1 a2 σ) : wG C 8 m_show 181 [some (.ref (co C)), some (.int a1), some (.int a2)] [] σ (qI Q) := by
  unfold w_show_181 at F
  refine s_aln dX13_show_181 rfl ?_
  refine gf_1 dX13_show_182 rfl ?_
  refine s_i (t := 190) ((σ.1 0) ≤ 0) dX13_show_185 rfl rfl (fun hc => ?_) (fun hc => ?_)
  · replace F := F.1 hc
    refine s_iln dX13_show_190 rfl ?_
    refine s_ic dX13_show_191 ki_2 ?_
    refine s_ii (t := 207) ((2 : Int32) ≤ a1) dX13_show_192 rfl rfl (fun hc => ?_) (fun hc => ?_)
    · replace F := F.1 hc
      refine s_iln dX13_show_207 rfl ?_
      refine s_bi dX13_show_208 kb_7 ?_
      refine s_ii (t := 223) ((7 : Int32) ≤ a1) dX13_show_210 rfl rfl (fun hc => ?_) (fun hc => ?_)
      · replace F := F.1 hc
        refine s_iln dX13_show_223 rfl ?_
        refine s_bi dX13_show_224 kb_7 ?_
        refine s_ii (t := 235) (a1 = (7 : Int32)) dX13_show_226 rfl rfl (fun hc => ?_) (fun hc => ?_)
        · replace F := F.1 hc
          exact s_k (t_show_235 hC  F) ⟨rfl, rfl, trivial⟩
        · replace F := F.2 hc
          refine s_iln dX13_show_229 rfl ?_
          refine s_bi dX13_show_230 kb_9 ?_
          refine s_iin (t := 253) (a1 = (9 : Int32)) dX13_show_232 rfl rfl (fun hc => ?_) (fun hc => ?_)
          · replace F := F.1 hc
            refine s_iln dX13_show_253 rfl ?_
            refine s_bi dX13_show_254 kb_8 ?_
            refine s_iin (t := 276) (a1 = (8 : Int32)) dX13_show_256 rfl rfl (fun hc => ?_) (fun hc => ?_)
            · replace F := F.1 hc
              refine s_iln dX13_show_276 rfl ?_
              refine s_bi dX13_show_277 kb_10 ?_
              refine s_iin (t := 295) (a1 = (10 : Int32)) dX13_show_279 rfl rfl (fun hc => ?_) (fun hc => ?_)
              · replace F := F.1 hc
                refine s_iln dX13_show_295 rfl ?_
                refine s_bi dX13_show_296 kb_11 ?_
                refine s_iin (t := 327) (a1 = (11 : Int32)) dX13_show_298 rfl rfl (fun hc => ?_) (fun hc => ?_)
                · replace F := F.1 hc
                  refine s_aln dX13_show_327 rfl ?_
                  refine s_ic dX13_show_328 ki_4 ?_
                  refine s_bi dX13_show_329 kb_17 ?_
                  refine k_703 dX13_show_331 rfl (Nat.le_of_ble_eq_true rfl) (Nat.le_of_ble_eq_true rfl) F (fun σ1 F => ?_)
                  refine s_aln dX13_show_334 rfl ?_
                  refine s_ic dX13_show_335 ki_5 ?_
                  refine s_bi dX13_show_336 kb_18 ?_
                  refine k_703 dX13_show_338 rfl (Nat.le_of_ble_eq_true rfl) (Nat.le_of_ble_eq_true rfl) F (fun σ3 F => ?_)
                  refine s_aln dX13_show_341 rfl ?_
                  refine s_ic dX13_show_342 ki_4 ?_
                  refine s_ic dX13_show_343 ki_5 ?_
                  refine k_721 dX13_show_344 rfl (Nat.le_of_ble_eq_true rfl) (Nat.le_of_ble_eq_true rfl) F (fun σ5 F => ?_)
                  refine s_aln dX13_show_347 rfl ?_
                  refine s_ic dX13_show_348 ki_1 ?_
                  refine pf_710 hC dX13_show_349 rfl (fun σ7 eσ7 => ?_)
                  replace F := F σ7 eσ7
                  exact s_k (t_show_352 hC  F) ⟨rfl, trivial⟩
                · replace F := F.2 hc
                  refine s_aln dX13_show_301 rfl ?_
                  refine k_762 dX13_show_302 rfl (Nat.le_of_ble_eq_true rfl) (Nat.le_of_ble_eq_true rfl) F (fun σ8 F => ?_)
                  refine s_aln dX13_show_305 rfl ?_
                  refine s_aln dX13_show_306 rfl ?_
                  refine gf_226 dX13_show_307 rfl ?_
                  refine s_iln dX13_show_310 rfl ?_
                  refine k_817 dX13_show_311 rfl (Nat.le_of_ble_eq_true rfl) (Nat.le_of_ble_eq_true rfl) F (fun σ10 F => ?_)
                  refine s_aln dX13_show_314 rfl ?_
                  refine s_aln dX13_show_315 rfl ?_
                  refine gf_229 dX13_show_316 rfl ?_
                  refine s_iln dX13_show_319 rfl ?_
                  refine s_ald hC dX13_show_320 rt_116 F.1 ?_
                  replace F := F.2
                  refine k_727 dX13_show_321 rfl (Nat.le_of_ble_eq_true rfl) (Nat.le_of_ble_eq_true rfl) F (fun σ12 F => ?_)
                  refine s_goto (t := 352) dX13_show_324 rfl ?_
                  exact s_k (t_show_352 hC  F) ⟨rfl, trivial⟩
              · replace F := F.2 hc
                refine s_aln dX13_show_282 rfl ?_
                refine s_bi dX13_show_283 kb_7 ?_
                refine s_ic dX13_show_285 ki_0 ?_
                refine s_ic dX13_show_286 ki_1 ?_
                refine s_bi dX13_show_287 kb_7 ?_
                refine k_810 dX13_show_289 rfl (Nat.le_of_ble_eq_true rfl) (Nat.le_of_ble_eq_true rfl) F (fun σ14 F => ?_)
                refine s_goto (t := 352) dX13_show_292 rfl ?_
                exact s_k (t_show_352 hC  F) ⟨rfl, trivial⟩
            · replace F := F.2 hc
              refine s_aln dX13_show_259 rfl ?_
              refine k_762 dX13_show_260 rfl (Nat.le_of_ble_eq_true rfl) (Nat.le_of_ble_eq_true rfl) F (fun σ16 F => ?_)
              refine s_aln dX13_show_263 rfl ?_
              refine s_iln dX13_show_264 rfl ?_
              refine k_737 dX13_show_265 rfl (Nat.le_of_ble_eq_true rfl) (Nat.le_of_ble_eq_true rfl) F (fun σ18 F => ?_)
              refine s_aln dX13_show_268 rfl ?_
              refine s_ic dX13_show_269 ki_1 ?_
              refine k_727 dX13_show_270 rfl (Nat.le_of_ble_eq_true rfl) (Nat.le_of_ble_eq_true rfl) F (fun σ20 F => ?_)
              refine s_goto (t := 352) dX13_show_273 rfl ?_
              exact s_k (t_show_352 hC  F) ⟨rfl, trivial⟩
          · replace F := F.2 hc
            exact s_k (t_show_235 hC  F) ⟨rfl, rfl, trivial⟩
      · replace F := F.2 hc
        refine s_aln dX13_show_213 rfl ?_
        refine s_iln dX13_show_214 rfl ?_
        refine s_iln dX13_show_215 rfl ?_
        refine s_ic dX13_show_216 ki_0 ?_
        refine k_803 dX13_show_217 rfl (Nat.le_of_ble_eq_true rfl) (Nat.le_of_ble_eq_true rfl) F (fun σ22 F => ?_)
        refine s_goto (t := 352) dX13_show_220 rfl ?_
        exact s_k (t_show_352 hC  F) ⟨rfl, trivial⟩
    · replace F := F.2 hc
      refine s_aln dX13_show_195 rfl ?_
      refine s_iln dX13_show_196 rfl ?_
      refine s_iln dX13_show_197 rfl ?_
      refine s_ic dX13_show_198 ki_0 ?_
      refine s_bi dX13_show_199 kb_6 ?_
      refine k_810 dX13_show_201 rfl (Nat.le_of_ble_eq_true rfl) (Nat.le_of_ble_eq_true rfl) F (fun σ24 F => ?_)
      refine s_goto (t := 352) dX13_show_204 rfl ?_
      exact s_k (t_show_352 hC  F) ⟨rfl, trivial⟩
  · replace F := F.2 hc
    refine s_ic dX13_show_188 ki_0 ?_
    exact s_ri dX13_show_189 rfl in_nar F

def w_show_162 (C : rCx) (Q : Int32 → rS → Prop)  (a1 : Int32) (a2 : Int32) (σ : rS) : Prop :=
  cI C 0 m_isSlot [.int a2, .int (σ.1 70)] σ (fun r2 σ1 =>
    (¬ (r2 = 0) →
      ∀ σ3, σ3 = siU σ1 0 (0 : Int32) →
      w_show_181 C Q  a1 a2 σ3) ∧
    (r2 = 0 →
      ∀ σ4, σ4 = siU σ1 0 (3 : Int32) →
      w_show_181 C Q  a1 a2 σ4))
theorem t_show_162 {C : rCx} (hC : cOK C) {Q : Int32 → rS → Prop}   {a1 : Int32} {a2 : Int32} {σ : rS} (F : w_show_162 C Q  a1 a2 σ) : wG C 8 m_show 162 [some (.ref (co C)), some (.int a1), some (.int a2)] [.ref (co C)] σ (qI Q) := by
  unfold w_show_162 at F
  refine s_iln dX13_show_162 rfl ?_
  refine s_aln dX13_show_163 rfl ?_
  refine gf_542 dX13_show_164 rfl ?_
  refine k_807 dX13_show_167 rfl (Nat.le_of_ble_eq_true rfl) (Nat.le_of_ble_eq_true rfl) F (fun r2 σ1 F => ?_)
  refine s_in (t := 177) (r2 = 0) dX13_show_170 rfl rfl (fun hc => ?_) (fun hc => ?_)
  · replace F := F.1 hc
    refine s_ic dX13_show_177 ki_0 ?_
    refine pf_1 hC dX13_show_178 rfl (fun σ3 eσ3 => ?_)
    replace F := F σ3 eσ3
    exact s_k (t_show_181 hC  F) ⟨rfl, rfl, rfl, trivial⟩
  · replace F := F.2 hc
    refine s_ic dX13_show_173 ki_3 ?_
    refine s_goto (t := 178) dX13_show_174 rfl ?_
    refine pf_1 hC dX13_show_178 rfl (fun σ4 eσ4 => ?_)
    replace F := F σ4 eσ4
    exact s_k (t_show_181 hC  F) ⟨rfl, rfl, rfl, trivial⟩

def w_show_150 (C : rCx) (Q : Int32 → rS → Prop)  (a1 : Int32) (a2 : Int32) (σ : rS) : Prop :=
  (a1 = (8 : Int32) →
    w_show_162 C Q  a1 a2 σ) ∧
  (¬ (a1 = (8 : Int32)) →
    (¬ (a1 = (11 : Int32)) →
      ∀ σ1, σ1 = siU σ 0 (0 : Int32) →
      w_show_181 C Q  a1 a2 σ1) ∧
    (a1 = (11 : Int32) →
      w_show_162 C Q  a1 a2 σ))
theorem t_show_150 {C : rCx} (hC : cOK C) {Q : Int32 → rS → Prop}   {a1 : Int32} {a2 : Int32} {σ : rS} (F : w_show_150 C Q  a1 a2 σ) : wG C 8 m_show 150 [some (.ref (co C)), some (.int a1), some (.int a2)] [.ref (co C)] σ (qI Q) := by
  unfold w_show_150 at F
  refine s_iln dX13_show_150 rfl ?_
  refine s_bi dX13_show_151 kb_8 ?_
  refine s_ii (t := 162) (a1 = (8 : Int32)) dX13_show_153 rfl rfl (fun hc => ?_) (fun hc => ?_)
  · replace F := F.1 hc
    exact s_k (t_show_162 hC  F) ⟨rfl, rfl, rfl, trivial⟩
  · replace F := F.2 hc
    refine s_iln dX13_show_156 rfl ?_
    refine s_bi dX13_show_157 kb_11 ?_
    refine s_iin (t := 177) (a1 = (11 : Int32)) dX13_show_159 rfl rfl (fun hc => ?_) (fun hc => ?_)
    · replace F := F.1 hc
      refine s_ic dX13_show_177 ki_0 ?_
      refine pf_1 hC dX13_show_178 rfl (fun σ1 eσ1 => ?_)
      replace F := F σ1 eσ1
      exact s_k (t_show_181 hC  F) ⟨rfl, rfl, rfl, trivial⟩
    · replace F := F.2 hc
      exact s_k (t_show_162 hC  F) ⟨rfl, rfl, rfl, trivial⟩

def w_show_126 (C : rCx) (Q : Int32 → rS → Prop)  (a1 : Int32) (a2 : Int32) (σ : rS) : Prop :=
  (¬ ((σ.1 0) = 0) →
    w_show_181 C Q  a1 a2 σ) ∧
  ((σ.1 0) = 0 →
    (¬ (a1 = (2 : Int32)) →
      w_show_150 C Q  a1 a2 σ) ∧
    (a1 = (2 : Int32) →
      cI C 0 m_isSlot [.int a2, .int (σ.1 71)] σ (fun r2 σ1 =>
        (r2 = 0 →
          ∀ σ3, σ3 = siU σ1 0 (3 : Int32) →
          w_show_181 C Q  a1 a2 σ3) ∧
        (¬ (r2 = 0) →
          w_show_150 C Q  a1 a2 σ1))))
theorem t_show_126 {C : rCx} (hC : cOK C) {Q : Int32 → rS → Prop}   {a1 : Int32} {a2 : Int32} {σ : rS} (F : w_show_126 C Q  a1 a2 σ) : wG C 8 m_show 126 [some (.ref (co C)), some (.int a1), some (.int a2)] [] σ (qI Q) := by
  unfold w_show_126 at F
  refine s_aln dX13_show_126 rfl ?_
  refine gf_1 dX13_show_127 rfl ?_
  refine s_in (t := 181) ((σ.1 0) = 0) dX13_show_130 rfl rfl (fun hc => ?_) (fun hc => ?_)
  · replace F := F.1 hc
    exact s_k (t_show_181 hC  F) ⟨rfl, rfl, rfl, trivial⟩
  · replace F := F.2 hc
    refine s_aln dX13_show_133 rfl ?_
    refine s_iln dX13_show_134 rfl ?_
    refine s_ic dX13_show_135 ki_2 ?_
    refine s_iin (t := 150) (a1 = (2 : Int32)) dX13_show_136 rfl rfl (fun hc => ?_) (fun hc => ?_)
    · replace F := F.1 hc
      exact s_k (t_show_150 hC  F) ⟨rfl, rfl, rfl, trivial⟩
    · replace F := F.2 hc
      refine s_iln dX13_show_139 rfl ?_
      refine s_aln dX13_show_140 rfl ?_
      refine gf_545 dX13_show_141 rfl ?_
      refine k_807 dX13_show_144 rfl (Nat.le_of_ble_eq_true rfl) (Nat.le_of_ble_eq_true rfl) F (fun r2 σ1 F => ?_)
      refine s_i (t := 173) (r2 = 0) dX13_show_147 rfl rfl (fun hc => ?_) (fun hc => ?_)
      · replace F := F.1 hc
        refine s_ic dX13_show_173 ki_3 ?_
        refine s_goto (t := 178) dX13_show_174 rfl ?_
        refine pf_1 hC dX13_show_178 rfl (fun σ3 eσ3 => ?_)
        replace F := F σ3 eσ3
        exact s_k (t_show_181 hC  F) ⟨rfl, rfl, rfl, trivial⟩
      · replace F := F.2 hc
        exact s_k (t_show_150 hC  F) ⟨rfl, rfl, rfl, trivial⟩

def w_show_104 (C : rCx) (Q : Int32 → rS → Prop)  (a1 : Int32) (a2 : Int32) (s1 : Int32) (σ : rS) : Prop :=
  cV C 6 m_sumWeights [.ref (co C), .int s1, .int (0 : Int32), .int (0 : Int32)] σ (fun σ1 =>
    cI C 0 m_isZero [.ref (co C), .int (4 : Int32)] σ1 (fun r4 σ3 =>
      (r4 = 0 →
        ∀ σ5, σ5 = siU σ3 0 (0 : Int32) →
        w_show_126 C Q  a1 a2 σ5) ∧
      (¬ (r4 = 0) →
        ∀ σ6, σ6 = siU σ3 0 (2 : Int32) →
        w_show_126 C Q  a1 a2 σ6)))
theorem t_show_104 {C : rCx} (hC : cOK C) {Q : Int32 → rS → Prop}   {a1 : Int32} {a2 : Int32} {s1 : Int32} {σ : rS} (F : w_show_104 C Q  a1 a2 s1 σ) : wG C 8 m_show 104 [some (.ref (co C)), some (.int a1), some (.int a2)] [.int s1, .ref (co C)] σ (qI Q) := by
  unfold w_show_104 at F
  refine s_ic dX13_show_104 ki_0 ?_
  refine s_ic dX13_show_105 ki_0 ?_
  refine k_803 dX13_show_106 rfl (Nat.le_of_ble_eq_true rfl) (Nat.le_of_ble_eq_true rfl) F (fun σ1 F => ?_)
  refine s_aln dX13_show_109 rfl ?_
  refine s_aln dX13_show_110 rfl ?_
  refine s_ic dX13_show_111 ki_4 ?_
  refine k_696 dX13_show_112 rfl (Nat.le_of_ble_eq_true rfl) (Nat.le_of_ble_eq_true rfl) F (fun r4 σ3 F => ?_)
  refine s_i (t := 122) (r4 = 0) dX13_show_115 rfl rfl (fun hc => ?_) (fun hc => ?_)
  · replace F := F.1 hc
    refine s_ic dX13_show_122 ki_0 ?_
    refine pf_1 hC dX13_show_123 rfl (fun σ5 eσ5 => ?_)
    replace F := F σ5 eσ5
    exact s_k (t_show_126 hC  F) ⟨rfl, rfl, rfl, trivial⟩
  · replace F := F.2 hc
    refine s_ic dX13_show_118 ki_2 ?_
    refine s_goto (t := 123) dX13_show_119 rfl ?_
    refine pf_1 hC dX13_show_123 rfl (fun σ6 eσ6 => ?_)
    replace F := F σ6 eσ6
    exact s_k (t_show_126 hC  F) ⟨rfl, rfl, rfl, trivial⟩

def w_show_91 (C : rCx) (Q : Int32 → rS → Prop)  (a1 : Int32) (a2 : Int32) (σ : rS) : Prop :=
  ((2 : Int32) ≤ a1 →
    w_show_104 C Q  a1 a2 (7 : Int32) σ) ∧
  (¬ ((2 : Int32) ≤ a1) →
    w_show_104 C Q  a1 a2 (6 : Int32) σ)
theorem t_show_91 {C : rCx} (hC : cOK C) {Q : Int32 → rS → Prop}   {a1 : Int32} {a2 : Int32} {σ : rS} (F : w_show_91 C Q  a1 a2 σ) : wG C 8 m_show 91 [some (.ref (co C)), some (.int a1), some (.int a2)] [] σ (qI Q) := by
  unfold w_show_91 at F
  refine s_aln dX13_show_91 rfl ?_
  refine s_iln dX13_show_92 rfl ?_
  refine s_ic dX13_show_93 ki_2 ?_
  refine s_ii (t := 102) ((2 : Int32) ≤ a1) dX13_show_94 rfl rfl (fun hc => ?_) (fun hc => ?_)
  · replace F := F.1 hc
    refine s_bi dX13_show_102 kb_7 ?_
    exact s_k (t_show_104 hC  F) ⟨rfl, rfl, rfl, trivial⟩
  · replace F := F.2 hc
    refine s_bi dX13_show_97 kb_6 ?_
    refine s_goto (t := 104) dX13_show_99 rfl ?_
    exact s_k (t_show_104 hC  F) ⟨rfl, rfl, rfl, trivial⟩

def w_show_70 (C : rCx) (Q : Int32 → rS → Prop)  (a1 : Int32) (a2 : Int32) (s1 : Int32) (σ : rS) : Prop :=
  ∀ σ1, σ1 = siU σ 0 s1 →
  (¬ ((σ1.1 0) = 0) →
    w_show_126 C Q  a1 a2 σ1) ∧
  ((σ1.1 0) = 0 →
    (a1 < (2 : Int32) →
      w_show_91 C Q  a1 a2 σ1) ∧
    (¬ (a1 < (2 : Int32)) →
      (¬ (a1 = (10 : Int32)) →
        w_show_126 C Q  a1 a2 σ1) ∧
      (a1 = (10 : Int32) →
        w_show_91 C Q  a1 a2 σ1)))
theorem t_show_70 {C : rCx} (hC : cOK C) {Q : Int32 → rS → Prop}   {a1 : Int32} {a2 : Int32} {s1 : Int32} {σ : rS} (F : w_show_70 C Q  a1 a2 s1 σ) : wG C 8 m_show 70 [some (.ref (co C)), some (.int a1), some (.int a2)] [.int s1, .ref (co C)] σ (qI Q) := by
  unfold w_show_70 at F
  refine pf_1 hC dX13_show_70 rfl (fun σ1 eσ1 => ?_)
  replace F := F σ1 eσ1
  refine s_aln dX13_show_73 rfl ?_
  refine gf_1 dX13_show_74 rfl ?_
  refine s_in (t := 126) ((σ1.1 0) = 0) dX13_show_77 rfl rfl (fun hc => ?_) (fun hc => ?_)
  · replace F := F.1 hc
    exact s_k (t_show_126 hC  F) ⟨rfl, rfl, rfl, trivial⟩
  · replace F := F.2 hc
    refine s_iln dX13_show_80 rfl ?_
    refine s_ic dX13_show_81 ki_2 ?_
    refine s_ii (t := 91) (a1 < (2 : Int32)) dX13_show_82 rfl rfl (fun hc => ?_) (fun hc => ?_)
    · replace F := F.1 hc
      exact s_k (t_show_91 hC  F) ⟨rfl, rfl, rfl, trivial⟩
    · replace F := F.2 hc
      refine s_iln dX13_show_85 rfl ?_
      refine s_bi dX13_show_86 kb_10 ?_
      refine s_iin (t := 126) (a1 = (10 : Int32)) dX13_show_88 rfl rfl (fun hc => ?_) (fun hc => ?_)
      · replace F := F.1 hc
        exact s_k (t_show_126 hC  F) ⟨rfl, rfl, rfl, trivial⟩
      · replace F := F.2 hc
        exact s_k (t_show_91 hC  F) ⟨rfl, rfl, rfl, trivial⟩

def w_show_0 (C : rCx) (Q : Int32 → rS → Prop)  (a1 : Int32) (a2 : Int32) (σ : rS) : Prop :=
  cI C 0 m_within [.int a1, .int (0 : Int32), .int (12 : Int32)] σ (fun r2 σ1 =>
    (¬ (r2 = 0) →
      ((11 : Int32) ≤ a1 →
        (¬ (a1 = (11 : Int32)) →
          (¬ ((σ1.1 106) = (-1 : Int32)) →
            w_show_70 C Q  a1 a2 (0 : Int32) σ1) ∧
          ((σ1.1 106) = (-1 : Int32) →
            w_show_70 C Q  a1 a2 (2 : Int32) σ1)) ∧
        (a1 = (11 : Int32) →
          ((σ1.1 114) = 0 →
            w_show_70 C Q  a1 a2 (2 : Int32) σ1) ∧
          (¬ ((σ1.1 114) = 0) →
            w_show_70 C Q  a1 a2 (0 : Int32) σ1))) ∧
      (¬ ((11 : Int32) ≤ a1) →
        ((σ1.1 94) = 0 →
          w_show_70 C Q  a1 a2 (2 : Int32) σ1) ∧
        (¬ ((σ1.1 94) = 0) →
          w_show_70 C Q  a1 a2 (0 : Int32) σ1))) ∧
    (r2 = 0 →
      w_show_70 C Q  a1 a2 (1 : Int32) σ1))
theorem t_show_0 {C : rCx} (hC : cOK C) {Q : Int32 → rS → Prop}   {a1 : Int32} {a2 : Int32} {σ : rS} (F : w_show_0 C Q  a1 a2 σ) : wG C 8 m_show 0 [some (.ref (co C)), some (.int a1), some (.int a2)] [] σ (qI Q) := by
  unfold w_show_0 at F
  refine s_aln dX13_show_0 rfl ?_
  refine s_iln dX13_show_1 rfl ?_
  refine s_ic dX13_show_2 ki_0 ?_
  refine s_bi dX13_show_3 kb_12 ?_
  refine k_362 dX13_show_5 rfl (Nat.le_of_ble_eq_true rfl) (Nat.le_of_ble_eq_true rfl) F (fun r2 σ1 F => ?_)
  refine s_in (t := 15) (r2 = 0) dX13_show_8 rfl rfl (fun hc => ?_) (fun hc => ?_)
  · replace F := F.1 hc
    refine s_iln dX13_show_15 rfl ?_
    refine s_bi dX13_show_16 kb_11 ?_
    refine s_ii (t := 36) ((11 : Int32) ≤ a1) dX13_show_18 rfl rfl (fun hc => ?_) (fun hc => ?_)
    · replace F := F.1 hc
      refine s_iln dX13_show_36 rfl ?_
      refine s_bi dX13_show_37 kb_11 ?_
      refine s_iin (t := 57) (a1 = (11 : Int32)) dX13_show_39 rfl rfl (fun hc => ?_) (fun hc => ?_)
      · replace F := F.1 hc
        refine s_aln dX13_show_57 rfl ?_
        refine gf_220 dX13_show_58 rfl ?_
        refine s_ic dX13_show_61 ki_m1 ?_
        refine s_iin (t := 69) ((σ1.1 106) = (-1 : Int32)) dX13_show_62 rfl rfl (fun hc => ?_) (fun hc => ?_)
        · replace F := F.1 hc
          refine s_ic dX13_show_69 ki_0 ?_
          exact s_k (t_show_70 hC  F) ⟨rfl, rfl, rfl, trivial⟩
        · replace F := F.2 hc
          refine s_ic dX13_show_65 ki_2 ?_
          refine s_goto (t := 70) dX13_show_66 rfl ?_
          exact s_k (t_show_70 hC  F) ⟨rfl, rfl, rfl, trivial⟩
      · replace F := F.2 hc
        refine s_aln dX13_show_42 rfl ?_
        refine gf_539 dX13_show_43 rfl ?_
        refine s_i (t := 53) ((σ1.1 114) = 0) dX13_show_46 rfl rfl (fun hc => ?_) (fun hc => ?_)
        · replace F := F.1 hc
          refine s_ic dX13_show_53 ki_2 ?_
          refine s_goto (t := 70) dX13_show_54 rfl ?_
          exact s_k (t_show_70 hC  F) ⟨rfl, rfl, rfl, trivial⟩
        · replace F := F.2 hc
          refine s_ic dX13_show_49 ki_0 ?_
          refine s_goto (t := 70) dX13_show_50 rfl ?_
          exact s_k (t_show_70 hC  F) ⟨rfl, rfl, rfl, trivial⟩
    · replace F := F.2 hc
      refine s_aln dX13_show_21 rfl ?_
      refine gf_536 dX13_show_22 rfl ?_
      refine s_i (t := 32) ((σ1.1 94) = 0) dX13_show_25 rfl rfl (fun hc => ?_) (fun hc => ?_)
      · replace F := F.1 hc
        refine s_ic dX13_show_32 ki_2 ?_
        refine s_goto (t := 70) dX13_show_33 rfl ?_
        exact s_k (t_show_70 hC  F) ⟨rfl, rfl, rfl, trivial⟩
      · replace F := F.2 hc
        refine s_ic dX13_show_28 ki_0 ?_
        refine s_goto (t := 70) dX13_show_29 rfl ?_
        exact s_k (t_show_70 hC  F) ⟨rfl, rfl, rfl, trivial⟩
  · replace F := F.2 hc
    refine s_ic dX13_show_11 ki_1 ?_
    refine s_goto (t := 70) dX13_show_12 rfl ?_
    exact s_k (t_show_70 hC  F) ⟨rfl, rfl, rfl, trivial⟩

theorem m_show_run {C : rCx} (hC : cOK C) {Q : Int32 → rS → Prop} {a1 : Int32} {a2 : Int32} {σ : rS} (F : w_show_0 C Q a1 a2 σ) : cI C 8 m_show [.ref (co C), .int a1, .int a2] σ Q := m_I (m_ent _ 0) (t_show_0 hC F)

theorem dX13_numbersOf_0 : decode cX13_numbersOf 0 = .ok (.aload_n 0, 1) := by decide +kernel
theorem dX13_numbersOf_1 : decode cX13_numbersOf 1 = .ok (.getfield 821, 3) := by decide +kernel
theorem dX13_numbersOf_4 : decode cX13_numbersOf 4 = .ok (.ifCond .ne 7, 3) := by decide +kernel
theorem dX13_numbersOf_7 : decode cX13_numbersOf 7 = .ok (.iload_n 1, 1) := by decide +kernel
theorem dX13_numbersOf_8 : decode cX13_numbersOf 8 = .ok (.goto 16, 3) := by decide +kernel
theorem dX13_numbersOf_11 : decode cX13_numbersOf 11 = .ok (.aload_n 0, 1) := by decide +kernel
theorem dX13_numbersOf_12 : decode cX13_numbersOf 12 = .ok (.getfield 188, 3) := by decide +kernel
theorem dX13_numbersOf_15 : decode cX13_numbersOf 15 = .ok (.bipush 15, 2) := by decide +kernel
theorem dX13_numbersOf_17 : decode cX13_numbersOf 17 = .ok (.iload_n 1, 1) := by decide +kernel
theorem dX13_numbersOf_18 : decode cX13_numbersOf 18 = .ok (.iadd, 1) := by decide +kernel
theorem dX13_numbersOf_19 : decode cX13_numbersOf 19 = .ok (.iaload, 1) := by decide +kernel
theorem dX13_numbersOf_20 : decode cX13_numbersOf 20 = .ok (.iconst 1, 1) := by decide +kernel
theorem dX13_numbersOf_21 : decode cX13_numbersOf 21 = .ok (.iadd, 1) := by decide +kernel
theorem dX13_numbersOf_22 : decode cX13_numbersOf 22 = .ok (.iconst 2, 1) := by decide +kernel
theorem dX13_numbersOf_23 : decode cX13_numbersOf 23 = .ok (.idiv, 1) := by decide +kernel
theorem dX13_numbersOf_24 : decode cX13_numbersOf 24 = .ok (.ireturn, 1) := by decide +kernel
def w_numbersOf_0 (C : rCx) (Q : Int32 → rS → Prop)  (a1 : Int32) (σ : rS) : Prop :=
  (¬ ((σ.1 103) = 0) →
    inb ((15 : Int32) + a1) 30 ∧
    Q (((σ.2.2.1 91 (((15 : Int32) + a1)).toNatClampNeg) + (1 : Int32)) / (2 : Int32)) σ) ∧
  ((σ.1 103) = 0 →
    Q a1 σ)
theorem t_numbersOf_0 {C : rCx} (hC : cOK C) {Q : Int32 → rS → Prop}   {a1 : Int32} {σ : rS} (F : w_numbersOf_0 C Q  a1 σ) : wG C 0 m_numbersOf 0 [some (.ref (co C)), some (.int a1)] [] σ (qI Q) := by
  unfold w_numbersOf_0 at F
  refine s_aln dX13_numbersOf_0 rfl ?_
  refine gf_821 dX13_numbersOf_1 rfl ?_
  refine s_in (t := 11) ((σ.1 103) = 0) dX13_numbersOf_4 rfl rfl (fun hc => ?_) (fun hc => ?_)
  · replace F := F.1 hc
    refine s_aln dX13_numbersOf_11 rfl ?_
    refine gf_188 dX13_numbersOf_12 rfl ?_
    refine s_bi dX13_numbersOf_15 kb_15 ?_
    refine s_iln dX13_numbersOf_17 rfl ?_
    refine s_iadd dX13_numbersOf_18 ?_
    refine s_ald hC dX13_numbersOf_19 rt_91 F.1 ?_
    replace F := F.2
    refine s_ic dX13_numbersOf_20 ki_1 ?_
    refine s_iadd dX13_numbersOf_21 ?_
    refine s_ic dX13_numbersOf_22 ki_2 ?_
    refine s_div dX13_numbersOf_23 (by decide) ?_
    exact s_ri dX13_numbersOf_24 rfl in_nar F
  · replace F := F.2 hc
    refine s_iln dX13_numbersOf_7 rfl ?_
    refine s_goto (t := 24) dX13_numbersOf_8 rfl ?_
    exact s_ri dX13_numbersOf_24 rfl in_nar F

theorem m_numbersOf_run {C : rCx} (hC : cOK C) {Q : Int32 → rS → Prop} {a1 : Int32} {σ : rS} (F : w_numbersOf_0 C Q a1 σ) : cI C 0 m_numbersOf [.ref (co C), .int a1] σ Q := m_I (m_ent _ 0) (t_numbersOf_0 hC F)

theorem dX13_size_0 : decode cX13_size 0 = .ok (.aload_n 0, 1) := by decide +kernel
theorem dX13_size_1 : decode cX13_size 1 = .ok (.iload_n 1, 1) := by decide +kernel
theorem dX13_size_2 : decode cX13_size 2 = .ok (.iconst 0, 1) := by decide +kernel
theorem dX13_size_3 : decode cX13_size 3 = .ok (.iconst 1, 1) := by decide +kernel
theorem dX13_size_4 : decode cX13_size 4 = .ok (.invokestatic 362, 3) := by decide +kernel
theorem dX13_size_7 : decode cX13_size 7 = .ok (.ifCond .eq 7, 3) := by decide +kernel
theorem dX13_size_10 : decode cX13_size 10 = .ok (.iconst 0, 1) := by decide +kernel
theorem dX13_size_11 : decode cX13_size 11 = .ok (.goto 4, 3) := by decide +kernel
theorem dX13_size_14 : decode cX13_size 14 = .ok (.iconst 1, 1) := by decide +kernel
theorem dX13_size_15 : decode cX13_size 15 = .ok (.putfield 1, 3) := by decide +kernel
theorem dX13_size_18 : decode cX13_size 18 = .ok (.aload_n 0, 1) := by decide +kernel
theorem dX13_size_19 : decode cX13_size 19 = .ok (.getfield 1, 3) := by decide +kernel
theorem dX13_size_22 : decode cX13_size 22 = .ok (.ifCond .le 7, 3) := by decide +kernel
theorem dX13_size_25 : decode cX13_size 25 = .ok (.iconst 0, 1) := by decide +kernel
theorem dX13_size_26 : decode cX13_size 26 = .ok (.goto 8, 3) := by decide +kernel
theorem dX13_size_29 : decode cX13_size 29 = .ok (.aload_n 0, 1) := by decide +kernel
theorem dX13_size_30 : decode cX13_size 30 = .ok (.iload_n 1, 1) := by decide +kernel
theorem dX13_size_31 : decode cX13_size 31 = .ok (.invokevirtual 824, 3) := by decide +kernel
theorem dX13_size_34 : decode cX13_size 34 = .ok (.ireturn, 1) := by decide +kernel
def w_size_15 (C : rCx) (Q : Int32 → rS → Prop)  (a1 : Int32) (s1 : Int32) (σ : rS) : Prop :=
  ∀ σ1, σ1 = siU σ 0 s1 →
  ((σ1.1 0) ≤ 0 →
    cI C 0 m_numbersOf [.ref (co C), .int a1] σ1 (fun r3 σ2 =>
      Q r3 σ2)) ∧
  (¬ ((σ1.1 0) ≤ 0) →
    Q (0 : Int32) σ1)
theorem t_size_15 {C : rCx} (hC : cOK C) {Q : Int32 → rS → Prop}   {a1 : Int32} {s1 : Int32} {σ : rS} (F : w_size_15 C Q  a1 s1 σ) : wG C 1 m_size 15 [some (.ref (co C)), some (.int a1)] [.int s1, .ref (co C)] σ (qI Q) := by
  unfold w_size_15 at F
  refine pf_1 hC dX13_size_15 rfl (fun σ1 eσ1 => ?_)
  replace F := F σ1 eσ1
  refine s_aln dX13_size_18 rfl ?_
  refine gf_1 dX13_size_19 rfl ?_
  refine s_i (t := 29) ((σ1.1 0) ≤ 0) dX13_size_22 rfl rfl (fun hc => ?_) (fun hc => ?_)
  · replace F := F.1 hc
    refine s_aln dX13_size_29 rfl ?_
    refine s_iln dX13_size_30 rfl ?_
    refine k_824 dX13_size_31 rfl (Nat.le_of_ble_eq_true rfl) (Nat.le_of_ble_eq_true rfl) F (fun r3 σ2 F => ?_)
    exact s_ri dX13_size_34 rfl in_nar F
  · replace F := F.2 hc
    refine s_ic dX13_size_25 ki_0 ?_
    refine s_goto (t := 34) dX13_size_26 rfl ?_
    exact s_ri dX13_size_34 rfl in_nar F

def w_size_0 (C : rCx) (Q : Int32 → rS → Prop)  (a1 : Int32) (σ : rS) : Prop :=
  cI C 0 m_within [.int a1, .int (0 : Int32), .int (1 : Int32)] σ (fun r2 σ1 =>
    (r2 = 0 →
      w_size_15 C Q  a1 (1 : Int32) σ1) ∧
    (¬ (r2 = 0) →
      w_size_15 C Q  a1 (0 : Int32) σ1))
theorem t_size_0 {C : rCx} (hC : cOK C) {Q : Int32 → rS → Prop}   {a1 : Int32} {σ : rS} (F : w_size_0 C Q  a1 σ) : wG C 1 m_size 0 [some (.ref (co C)), some (.int a1)] [] σ (qI Q) := by
  unfold w_size_0 at F
  refine s_aln dX13_size_0 rfl ?_
  refine s_iln dX13_size_1 rfl ?_
  refine s_ic dX13_size_2 ki_0 ?_
  refine s_ic dX13_size_3 ki_1 ?_
  refine k_362 dX13_size_4 rfl (Nat.le_of_ble_eq_true rfl) (Nat.le_of_ble_eq_true rfl) F (fun r2 σ1 F => ?_)
  refine s_i (t := 14) (r2 = 0) dX13_size_7 rfl rfl (fun hc => ?_) (fun hc => ?_)
  · replace F := F.1 hc
    refine s_ic dX13_size_14 ki_1 ?_
    exact s_k (t_size_15 hC  F) ⟨rfl, rfl, trivial⟩
  · replace F := F.2 hc
    refine s_ic dX13_size_10 ki_0 ?_
    refine s_goto (t := 15) dX13_size_11 rfl ?_
    exact s_k (t_size_15 hC  F) ⟨rfl, rfl, trivial⟩

theorem m_size_run {C : rCx} (hC : cOK C) {Q : Int32 → rS → Prop} {a1 : Int32} {σ : rS} (F : w_size_0 C Q a1 σ) : cI C 1 m_size [.ref (co C), .int a1] σ Q := m_I (m_ent _ 0) (t_size_0 hC F)

theorem dX13_limb_0 : decode cX13_limb 0 = .ok (.aload_n 0, 1) := by decide +kernel
theorem dX13_limb_1 : decode cX13_limb 1 = .ok (.iload_n 1, 1) := by decide +kernel
theorem dX13_limb_2 : decode cX13_limb 2 = .ok (.iconst 0, 1) := by decide +kernel
theorem dX13_limb_3 : decode cX13_limb 3 = .ok (.iconst 1, 1) := by decide +kernel
theorem dX13_limb_4 : decode cX13_limb 4 = .ok (.invokestatic 362, 3) := by decide +kernel
theorem dX13_limb_7 : decode cX13_limb 7 = .ok (.ifCond .eq 16, 3) := by decide +kernel
theorem dX13_limb_10 : decode cX13_limb 10 = .ok (.iload_n 2, 1) := by decide +kernel
theorem dX13_limb_11 : decode cX13_limb 11 = .ok (.ifCond .lt 12, 3) := by decide +kernel
theorem dX13_limb_14 : decode cX13_limb 14 = .ok (.iload_n 2, 1) := by decide +kernel
theorem dX13_limb_15 : decode cX13_limb 15 = .ok (.aload_n 0, 1) := by decide +kernel
theorem dX13_limb_16 : decode cX13_limb 16 = .ok (.iload_n 1, 1) := by decide +kernel
theorem dX13_limb_17 : decode cX13_limb 17 = .ok (.invokevirtual 824, 3) := by decide +kernel
theorem dX13_limb_20 : decode cX13_limb 20 = .ok (.if_icmp .lt 7, 3) := by decide +kernel
theorem dX13_limb_23 : decode cX13_limb 23 = .ok (.iconst 1, 1) := by decide +kernel
theorem dX13_limb_24 : decode cX13_limb 24 = .ok (.goto 4, 3) := by decide +kernel
theorem dX13_limb_27 : decode cX13_limb 27 = .ok (.iconst 0, 1) := by decide +kernel
theorem dX13_limb_28 : decode cX13_limb 28 = .ok (.putfield 1, 3) := by decide +kernel
theorem dX13_limb_31 : decode cX13_limb 31 = .ok (.aload_n 0, 1) := by decide +kernel
theorem dX13_limb_32 : decode cX13_limb 32 = .ok (.getfield 1, 3) := by decide +kernel
theorem dX13_limb_35 : decode cX13_limb 35 = .ok (.ifCond .le 5, 3) := by decide +kernel
theorem dX13_limb_38 : decode cX13_limb 38 = .ok (.iconst 0, 1) := by decide +kernel
theorem dX13_limb_39 : decode cX13_limb 39 = .ok (.ireturn, 1) := by decide +kernel
theorem dX13_limb_40 : decode cX13_limb 40 = .ok (.aload_n 0, 1) := by decide +kernel
theorem dX13_limb_41 : decode cX13_limb 41 = .ok (.getfield 821, 3) := by decide +kernel
theorem dX13_limb_44 : decode cX13_limb 44 = .ok (.ifCond .ne 5, 3) := by decide +kernel
theorem dX13_limb_47 : decode cX13_limb 47 = .ok (.iconst 1, 1) := by decide +kernel
theorem dX13_limb_48 : decode cX13_limb 48 = .ok (.ireturn, 1) := by decide +kernel
theorem dX13_limb_49 : decode cX13_limb 49 = .ok (.ldc_w 676, 3) := by decide +kernel
theorem dX13_limb_52 : decode cX13_limb 52 = .ok (.bipush 15, 2) := by decide +kernel
theorem dX13_limb_54 : decode cX13_limb 54 = .ok (.iload_n 1, 1) := by decide +kernel
theorem dX13_limb_55 : decode cX13_limb 55 = .ok (.iadd, 1) := by decide +kernel
theorem dX13_limb_56 : decode cX13_limb 56 = .ok (.imul, 1) := by decide +kernel
theorem dX13_limb_57 : decode cX13_limb 57 = .ok (.iconst 2, 1) := by decide +kernel
theorem dX13_limb_58 : decode cX13_limb 58 = .ok (.iload_n 2, 1) := by decide +kernel
theorem dX13_limb_59 : decode cX13_limb 59 = .ok (.imul, 1) := by decide +kernel
theorem dX13_limb_60 : decode cX13_limb 60 = .ok (.iadd, 1) := by decide +kernel
theorem dX13_limb_61 : decode cX13_limb 61 = .ok (.istore_n 3, 1) := by decide +kernel
theorem dX13_limb_62 : decode cX13_limb 62 = .ok (.iconst 2, 1) := by decide +kernel
theorem dX13_limb_63 : decode cX13_limb 63 = .ok (.iload_n 2, 1) := by decide +kernel
theorem dX13_limb_64 : decode cX13_limb 64 = .ok (.imul, 1) := by decide +kernel
theorem dX13_limb_65 : decode cX13_limb 65 = .ok (.iconst 1, 1) := by decide +kernel
theorem dX13_limb_66 : decode cX13_limb 66 = .ok (.iadd, 1) := by decide +kernel
theorem dX13_limb_67 : decode cX13_limb 67 = .ok (.aload_n 0, 1) := by decide +kernel
theorem dX13_limb_68 : decode cX13_limb 68 = .ok (.getfield 188, 3) := by decide +kernel
theorem dX13_limb_71 : decode cX13_limb 71 = .ok (.bipush 15, 2) := by decide +kernel
theorem dX13_limb_73 : decode cX13_limb 73 = .ok (.iload_n 1, 1) := by decide +kernel
theorem dX13_limb_74 : decode cX13_limb 74 = .ok (.iadd, 1) := by decide +kernel
theorem dX13_limb_75 : decode cX13_limb 75 = .ok (.iaload, 1) := by decide +kernel
theorem dX13_limb_76 : decode cX13_limb 76 = .ok (.if_icmp .ge 14, 3) := by decide +kernel
theorem dX13_limb_79 : decode cX13_limb 79 = .ok (.aload_n 0, 1) := by decide +kernel
theorem dX13_limb_80 : decode cX13_limb 80 = .ok (.getfield 185, 3) := by decide +kernel
theorem dX13_limb_83 : decode cX13_limb 83 = .ok (.iload_n 3, 1) := by decide +kernel
theorem dX13_limb_84 : decode cX13_limb 84 = .ok (.iconst 1, 1) := by decide +kernel
theorem dX13_limb_85 : decode cX13_limb 85 = .ok (.iadd, 1) := by decide +kernel
theorem dX13_limb_86 : decode cX13_limb 86 = .ok (.iaload, 1) := by decide +kernel
theorem dX13_limb_87 : decode cX13_limb 87 = .ok (.goto 4, 3) := by decide +kernel
theorem dX13_limb_90 : decode cX13_limb 90 = .ok (.iconst 0, 1) := by decide +kernel
theorem dX13_limb_91 : decode cX13_limb 91 = .ok (.istore 4, 2) := by decide +kernel
theorem dX13_limb_93 : decode cX13_limb 93 = .ok (.iload 4, 2) := by decide +kernel
theorem dX13_limb_95 : decode cX13_limb 95 = .ok (.bipush 16, 2) := by decide +kernel
theorem dX13_limb_97 : decode cX13_limb 97 = .ok (.ishl, 1) := by decide +kernel
theorem dX13_limb_98 : decode cX13_limb 98 = .ok (.aload_n 0, 1) := by decide +kernel
theorem dX13_limb_99 : decode cX13_limb 99 = .ok (.getfield 185, 3) := by decide +kernel
theorem dX13_limb_102 : decode cX13_limb 102 = .ok (.iload_n 3, 1) := by decide +kernel
theorem dX13_limb_103 : decode cX13_limb 103 = .ok (.iaload, 1) := by decide +kernel
theorem dX13_limb_104 : decode cX13_limb 104 = .ok (.ior, 1) := by decide +kernel
theorem dX13_limb_105 : decode cX13_limb 105 = .ok (.ireturn, 1) := by decide +kernel
def w_limb_91 (C : rCx) (Q : Int32 → rS → Prop)  (a3 : Int32) (s0 : Int32) (σ : rS) : Prop :=
  inb a3 1200000 ∧
  Q ((s0 <<< ((16 : Int32) &&& 31)) ||| (σ.2.2.1 90 (a3).toNatClampNeg)) σ
theorem t_limb_91 {C : rCx} (hC : cOK C) {Q : Int32 → rS → Prop}   {a3 : Int32} {s0 : Int32} {σ : rS} (F : w_limb_91 C Q  a3 s0 σ) : wG C 1 m_limb 91 [some (.ref (co C)), none, none, some (.int a3), none] [.int s0] σ (qI Q) := by
  unfold w_limb_91 at F
  refine s_is dX13_limb_91 (Nat.le_of_ble_eq_true rfl) rfl ?_
  show wG _ _ _ _ [some (.ref (co C)), none, none, some (.int a3), some (.int s0)] _ _ _
  refine s_il dX13_limb_93 rfl ?_
  refine s_bi dX13_limb_95 kb_16 ?_
  refine s_ishl dX13_limb_97 ?_
  refine s_aln dX13_limb_98 rfl ?_
  refine gf_185 dX13_limb_99 rfl ?_
  refine s_iln dX13_limb_102 rfl ?_
  refine s_ald hC dX13_limb_103 rt_90 F.1 ?_
  replace F := F.2
  refine s_ior dX13_limb_104 ?_
  exact s_ri dX13_limb_105 rfl in_nar F

def w_limb_28 (C : rCx) (Q : Int32 → rS → Prop)  (a1 : Int32) (a2 : Int32) (s1 : Int32) (σ : rS) : Prop :=
  ∀ σ1, σ1 = siU σ 0 s1 →
  ((σ1.1 0) ≤ 0 →
    (¬ ((σ1.1 103) = 0) →
      ∀ v3_2 : Int32, v3_2 = (((40000 : Int32) * ((15 : Int32) + a1)) + ((2 : Int32) * a2)) →
      inb ((15 : Int32) + a1) 30 ∧
      ((σ1.2.2.1 91 (((15 : Int32) + a1)).toNatClampNeg) ≤ (((2 : Int32) * a2) + (1 : Int32)) →
        w_limb_91 C Q  v3_2 (0 : Int32) σ1) ∧
      (¬ ((σ1.2.2.1 91 (((15 : Int32) + a1)).toNatClampNeg) ≤ (((2 : Int32) * a2) + (1 : Int32))) →
        inb (v3_2 + (1 : Int32)) 1200000 ∧
        w_limb_91 C Q  v3_2 (σ1.2.2.1 90 ((v3_2 + (1 : Int32))).toNatClampNeg) σ1)) ∧
    ((σ1.1 103) = 0 →
      Q (1 : Int32) σ1)) ∧
  (¬ ((σ1.1 0) ≤ 0) →
    Q (0 : Int32) σ1)
theorem t_limb_28 {C : rCx} (hC : cOK C) {Q : Int32 → rS → Prop}   {a1 : Int32} {a2 : Int32} {s1 : Int32} {σ : rS} (F : w_limb_28 C Q  a1 a2 s1 σ) : wG C 1 m_limb 28 [some (.ref (co C)), some (.int a1), some (.int a2), none, none] [.int s1, .ref (co C)] σ (qI Q) := by
  unfold w_limb_28 at F
  refine pf_1 hC dX13_limb_28 rfl (fun σ1 eσ1 => ?_)
  replace F := F σ1 eσ1
  refine s_aln dX13_limb_31 rfl ?_
  refine gf_1 dX13_limb_32 rfl ?_
  refine s_i (t := 40) ((σ1.1 0) ≤ 0) dX13_limb_35 rfl rfl (fun hc => ?_) (fun hc => ?_)
  · replace F := F.1 hc
    refine s_aln dX13_limb_40 rfl ?_
    refine gf_821 dX13_limb_41 rfl ?_
    refine s_in (t := 49) ((σ1.1 103) = 0) dX13_limb_44 rfl rfl (fun hc => ?_) (fun hc => ?_)
    · replace F := F.1 hc
      refine s_ldcw dX13_limb_49 rfl cn_676 ?_
      refine s_bi dX13_limb_52 kb_15 ?_
      refine s_iln dX13_limb_54 rfl ?_
      refine s_iadd dX13_limb_55 ?_
      refine s_imul dX13_limb_56 ?_
      refine s_ic dX13_limb_57 ki_2 ?_
      refine s_iln dX13_limb_58 rfl ?_
      refine s_imul dX13_limb_59 ?_
      refine s_iadd dX13_limb_60 ?_
      refine s_isnb dX13_limb_61 (Nat.le_of_ble_eq_true rfl) (fun v3_2 ev3_2 => ?_)
      replace F := F v3_2 ev3_2
      show wG _ _ _ _ [some (.ref (co C)), some (.int a1), some (.int a2), some (.int v3_2), none] _ _ _
      refine s_ic dX13_limb_62 ki_2 ?_
      refine s_iln dX13_limb_63 rfl ?_
      refine s_imul dX13_limb_64 ?_
      refine s_ic dX13_limb_65 ki_1 ?_
      refine s_iadd dX13_limb_66 ?_
      refine s_aln dX13_limb_67 rfl ?_
      refine gf_188 dX13_limb_68 rfl ?_
      refine s_bi dX13_limb_71 kb_15 ?_
      refine s_iln dX13_limb_73 rfl ?_
      refine s_iadd dX13_limb_74 ?_
      refine s_ald hC dX13_limb_75 rt_91 F.1 ?_
      replace F := F.2
      refine s_ii (t := 90) ((σ1.2.2.1 91 (((15 : Int32) + a1)).toNatClampNeg) ≤ (((2 : Int32) * a2) + (1 : Int32))) dX13_limb_76 rfl rfl (fun hc => ?_) (fun hc => ?_)
      · replace F := F.1 hc
        refine s_ic dX13_limb_90 ki_0 ?_
        exact s_k (t_limb_91 hC  F) ⟨rfl, rfl, trivial⟩
      · replace F := F.2 hc
        refine s_aln dX13_limb_79 rfl ?_
        refine gf_185 dX13_limb_80 rfl ?_
        refine s_iln dX13_limb_83 rfl ?_
        refine s_ic dX13_limb_84 ki_1 ?_
        refine s_iadd dX13_limb_85 ?_
        refine s_ald hC dX13_limb_86 rt_90 F.1 ?_
        replace F := F.2
        refine s_goto (t := 91) dX13_limb_87 rfl ?_
        exact s_k (t_limb_91 hC  F) ⟨rfl, rfl, trivial⟩
    · replace F := F.2 hc
      refine s_ic dX13_limb_47 ki_1 ?_
      exact s_ri dX13_limb_48 rfl in_nar F
  · replace F := F.2 hc
    refine s_ic dX13_limb_38 ki_0 ?_
    exact s_ri dX13_limb_39 rfl in_nar F

def w_limb_0 (C : rCx) (Q : Int32 → rS → Prop)  (a1 : Int32) (a2 : Int32) (σ : rS) : Prop :=
  cI C 0 m_within [.int a1, .int (0 : Int32), .int (1 : Int32)] σ (fun r2 σ1 =>
    (r2 = 0 →
      w_limb_28 C Q  a1 a2 (1 : Int32) σ1) ∧
    (¬ (r2 = 0) →
      (a2 < 0 →
        w_limb_28 C Q  a1 a2 (1 : Int32) σ1) ∧
      (¬ (a2 < 0) →
        cI C 0 m_numbersOf [.ref (co C), .int a1] σ1 (fun r4 σ3 =>
          (a2 < r4 →
            w_limb_28 C Q  a1 a2 (0 : Int32) σ3) ∧
          (¬ (a2 < r4) →
            w_limb_28 C Q  a1 a2 (1 : Int32) σ3)))))
theorem t_limb_0 {C : rCx} (hC : cOK C) {Q : Int32 → rS → Prop}   {a1 : Int32} {a2 : Int32} {σ : rS} (F : w_limb_0 C Q  a1 a2 σ) : wG C 1 m_limb 0 [some (.ref (co C)), some (.int a1), some (.int a2), none, none] [] σ (qI Q) := by
  unfold w_limb_0 at F
  refine s_aln dX13_limb_0 rfl ?_
  refine s_iln dX13_limb_1 rfl ?_
  refine s_ic dX13_limb_2 ki_0 ?_
  refine s_ic dX13_limb_3 ki_1 ?_
  refine k_362 dX13_limb_4 rfl (Nat.le_of_ble_eq_true rfl) (Nat.le_of_ble_eq_true rfl) F (fun r2 σ1 F => ?_)
  refine s_i (t := 23) (r2 = 0) dX13_limb_7 rfl rfl (fun hc => ?_) (fun hc => ?_)
  · replace F := F.1 hc
    refine s_ic dX13_limb_23 ki_1 ?_
    refine s_goto (t := 28) dX13_limb_24 rfl ?_
    exact s_k (t_limb_28 hC  F) ⟨rfl, rfl, rfl, trivial⟩
  · replace F := F.2 hc
    refine s_iln dX13_limb_10 rfl ?_
    refine s_i (t := 23) (a2 < 0) dX13_limb_11 rfl rfl (fun hc => ?_) (fun hc => ?_)
    · replace F := F.1 hc
      refine s_ic dX13_limb_23 ki_1 ?_
      refine s_goto (t := 28) dX13_limb_24 rfl ?_
      exact s_k (t_limb_28 hC  F) ⟨rfl, rfl, rfl, trivial⟩
    · replace F := F.2 hc
      refine s_iln dX13_limb_14 rfl ?_
      refine s_aln dX13_limb_15 rfl ?_
      refine s_iln dX13_limb_16 rfl ?_
      refine k_824 dX13_limb_17 rfl (Nat.le_of_ble_eq_true rfl) (Nat.le_of_ble_eq_true rfl) F (fun r4 σ3 F => ?_)
      refine s_ii (t := 27) (a2 < r4) dX13_limb_20 rfl rfl (fun hc => ?_) (fun hc => ?_)
      · replace F := F.1 hc
        refine s_ic dX13_limb_27 ki_0 ?_
        exact s_k (t_limb_28 hC  F) ⟨rfl, rfl, rfl, trivial⟩
      · replace F := F.2 hc
        refine s_ic dX13_limb_23 ki_1 ?_
        refine s_goto (t := 28) dX13_limb_24 rfl ?_
        exact s_k (t_limb_28 hC  F) ⟨rfl, rfl, rfl, trivial⟩

theorem m_limb_run {C : rCx} (hC : cOK C) {Q : Int32 → rS → Prop} {a1 : Int32} {a2 : Int32} {σ : rS} (F : w_limb_0 C Q a1 a2 σ) : cI C 1 m_limb [.ref (co C), .int a1, .int a2] σ Q := m_I (m_ent _ 2) (t_limb_0 hC F)

theorem dX13_tell_0 : decode cX13_tell 0 = .ok (.aload_n 0, 1) := by decide +kernel
theorem dX13_tell_1 : decode cX13_tell 1 = .ok (.aload_n 0, 1) := by decide +kernel
theorem dX13_tell_2 : decode cX13_tell 2 = .ok (.getfield 827, 3) := by decide +kernel
theorem dX13_tell_5 : decode cX13_tell 5 = .ok (.sipush 200, 3) := by decide +kernel
theorem dX13_tell_8 : decode cX13_tell 8 = .ok (.if_icmp .ne 7, 3) := by decide +kernel
theorem dX13_tell_11 : decode cX13_tell 11 = .ok (.iconst 1, 1) := by decide +kernel
theorem dX13_tell_12 : decode cX13_tell 12 = .ok (.goto 4, 3) := by decide +kernel
theorem dX13_tell_15 : decode cX13_tell 15 = .ok (.iconst 0, 1) := by decide +kernel
theorem dX13_tell_16 : decode cX13_tell 16 = .ok (.putfield 1, 3) := by decide +kernel
theorem dX13_tell_19 : decode cX13_tell 19 = .ok (.aload_n 0, 1) := by decide +kernel
theorem dX13_tell_20 : decode cX13_tell 20 = .ok (.getfield 1, 3) := by decide +kernel
theorem dX13_tell_23 : decode cX13_tell 23 = .ok (.ifCond .le 5, 3) := by decide +kernel
theorem dX13_tell_26 : decode cX13_tell 26 = .ok (.iconst 0, 1) := by decide +kernel
theorem dX13_tell_27 : decode cX13_tell 27 = .ok (.ireturn, 1) := by decide +kernel
theorem dX13_tell_28 : decode cX13_tell 28 = .ok (.aload_n 0, 1) := by decide +kernel
theorem dX13_tell_29 : decode cX13_tell 29 = .ok (.getfield 217, 3) := by decide +kernel
theorem dX13_tell_32 : decode cX13_tell 32 = .ok (.aload_n 0, 1) := by decide +kernel
theorem dX13_tell_33 : decode cX13_tell 33 = .ok (.getfield 827, 3) := by decide +kernel
theorem dX13_tell_36 : decode cX13_tell 36 = .ok (.iload_n 1, 1) := by decide +kernel
theorem dX13_tell_37 : decode cX13_tell 37 = .ok (.iastore, 1) := by decide +kernel
theorem dX13_tell_38 : decode cX13_tell 38 = .ok (.aload_n 0, 1) := by decide +kernel
theorem dX13_tell_39 : decode cX13_tell 39 = .ok (.dup, 1) := by decide +kernel
theorem dX13_tell_40 : decode cX13_tell 40 = .ok (.getfield 827, 3) := by decide +kernel
theorem dX13_tell_43 : decode cX13_tell 43 = .ok (.iconst 1, 1) := by decide +kernel
theorem dX13_tell_44 : decode cX13_tell 44 = .ok (.iadd, 1) := by decide +kernel
theorem dX13_tell_45 : decode cX13_tell 45 = .ok (.putfield 827, 3) := by decide +kernel
theorem dX13_tell_48 : decode cX13_tell 48 = .ok (.aload_n 0, 1) := by decide +kernel
theorem dX13_tell_49 : decode cX13_tell 49 = .ok (.getfield 827, 3) := by decide +kernel
theorem dX13_tell_52 : decode cX13_tell 52 = .ok (.ireturn, 1) := by decide +kernel
def w_tell_16 (C : rCx) (Q : Int32 → rS → Prop)  (a1 : Int32) (s1 : Int32) (σ : rS) : Prop :=
  ∀ σ1, σ1 = siU σ 0 s1 →
  ((σ1.1 0) ≤ 0 →
    inb (σ1.1 104) 200 ∧
    ∀ σ2, σ2 = riU σ1 105 ((σ1.1 104)).toNatClampNeg a1 →
    ∀ σ3, σ3 = siU σ2 104 ((σ2.1 104) + (1 : Int32)) →
    Q (σ3.1 104) σ3) ∧
  (¬ ((σ1.1 0) ≤ 0) →
    Q (0 : Int32) σ1)
theorem t_tell_16 {C : rCx} (hC : cOK C) {Q : Int32 → rS → Prop}   {a1 : Int32} {s1 : Int32} {σ : rS} (F : w_tell_16 C Q  a1 s1 σ) : wG C 0 m_tell 16 [some (.ref (co C)), some (.int a1)] [.int s1, .ref (co C)] σ (qI Q) := by
  unfold w_tell_16 at F
  refine pf_1 hC dX13_tell_16 rfl (fun σ1 eσ1 => ?_)
  replace F := F σ1 eσ1
  refine s_aln dX13_tell_19 rfl ?_
  refine gf_1 dX13_tell_20 rfl ?_
  refine s_i (t := 28) ((σ1.1 0) ≤ 0) dX13_tell_23 rfl rfl (fun hc => ?_) (fun hc => ?_)
  · replace F := F.1 hc
    refine s_aln dX13_tell_28 rfl ?_
    refine gf_217 dX13_tell_29 rfl ?_
    refine s_aln dX13_tell_32 rfl ?_
    refine gf_827 dX13_tell_33 rfl ?_
    refine s_iln dX13_tell_36 rfl ?_
    refine s_astb hC dX13_tell_37 rt_105 F.1 (fun σ2 eσ2 => ?_)
    replace F := F.2 σ2 eσ2
    refine s_aln dX13_tell_38 rfl ?_
    refine s_dup dX13_tell_39 rfl ?_
    refine gf_827 dX13_tell_40 rfl ?_
    refine s_ic dX13_tell_43 ki_1 ?_
    refine s_iadd dX13_tell_44 ?_
    refine pf_827 hC dX13_tell_45 rfl (fun σ3 eσ3 => ?_)
    replace F := F σ3 eσ3
    refine s_aln dX13_tell_48 rfl ?_
    refine gf_827 dX13_tell_49 rfl ?_
    exact s_ri dX13_tell_52 rfl in_nar F
  · replace F := F.2 hc
    refine s_ic dX13_tell_26 ki_0 ?_
    exact s_ri dX13_tell_27 rfl in_nar F

def w_tell_0 (C : rCx) (Q : Int32 → rS → Prop)  (a1 : Int32) (σ : rS) : Prop :=
  (¬ ((σ.1 104) = (200 : Int32)) →
    w_tell_16 C Q  a1 (0 : Int32) σ) ∧
  ((σ.1 104) = (200 : Int32) →
    w_tell_16 C Q  a1 (1 : Int32) σ)
theorem t_tell_0 {C : rCx} (hC : cOK C) {Q : Int32 → rS → Prop}   {a1 : Int32} {σ : rS} (F : w_tell_0 C Q  a1 σ) : wG C 0 m_tell 0 [some (.ref (co C)), some (.int a1)] [] σ (qI Q) := by
  unfold w_tell_0 at F
  refine s_aln dX13_tell_0 rfl ?_
  refine s_aln dX13_tell_1 rfl ?_
  refine gf_827 dX13_tell_2 rfl ?_
  refine s_si dX13_tell_5 ks_200 ?_
  refine s_iin (t := 15) ((σ.1 104) = (200 : Int32)) dX13_tell_8 rfl rfl (fun hc => ?_) (fun hc => ?_)
  · replace F := F.1 hc
    refine s_ic dX13_tell_15 ki_0 ?_
    exact s_k (t_tell_16 hC  F) ⟨rfl, rfl, trivial⟩
  · replace F := F.2 hc
    refine s_ic dX13_tell_11 ki_1 ?_
    refine s_goto (t := 16) dX13_tell_12 rfl ?_
    exact s_k (t_tell_16 hC  F) ⟨rfl, rfl, trivial⟩

theorem m_tell_run {C : rCx} (hC : cOK C) {Q : Int32 → rS → Prop} {a1 : Int32} {σ : rS} (F : w_tell_0 C Q a1 σ) : cI C 0 m_tell [.ref (co C), .int a1] σ Q := m_I (m_ent _ 0) (t_tell_0 hC F)

theorem dX13_forget_0 : decode cX13_forget 0 = .ok (.aload_n 0, 1) := by decide +kernel
theorem dX13_forget_1 : decode cX13_forget 1 = .ok (.iconst 0, 1) := by decide +kernel
theorem dX13_forget_2 : decode cX13_forget 2 = .ok (.putfield 1, 3) := by decide +kernel
theorem dX13_forget_5 : decode cX13_forget 5 = .ok (.aload_n 0, 1) := by decide +kernel
theorem dX13_forget_6 : decode cX13_forget 6 = .ok (.getfield 827, 3) := by decide +kernel
theorem dX13_forget_9 : decode cX13_forget 9 = .ok (.istore_n 1, 1) := by decide +kernel
theorem dX13_forget_10 : decode cX13_forget 10 = .ok (.aload_n 0, 1) := by decide +kernel
theorem dX13_forget_11 : decode cX13_forget 11 = .ok (.iconst 0, 1) := by decide +kernel
theorem dX13_forget_12 : decode cX13_forget 12 = .ok (.putfield 827, 3) := by decide +kernel
theorem dX13_forget_15 : decode cX13_forget 15 = .ok (.iload_n 1, 1) := by decide +kernel
theorem dX13_forget_16 : decode cX13_forget 16 = .ok (.ireturn, 1) := by decide +kernel
def w_forget_0 (C : rCx) (Q : Int32 → rS → Prop)   (σ : rS) : Prop :=
  ∀ σ1, σ1 = siU σ 0 (0 : Int32) →
  ∀ v1_2 : Int32, v1_2 = (σ1.1 104) →
  ∀ σ3, σ3 = siU σ1 104 (0 : Int32) →
  Q v1_2 σ3
theorem t_forget_0 {C : rCx} (hC : cOK C) {Q : Int32 → rS → Prop}    {σ : rS} (F : w_forget_0 C Q   σ) : wG C 0 m_forget 0 [some (.ref (co C)), none] [] σ (qI Q) := by
  unfold w_forget_0 at F
  refine s_aln dX13_forget_0 rfl ?_
  refine s_ic dX13_forget_1 ki_0 ?_
  refine pf_1 hC dX13_forget_2 rfl (fun σ1 eσ1 => ?_)
  replace F := F σ1 eσ1
  refine s_aln dX13_forget_5 rfl ?_
  refine gf_827 dX13_forget_6 rfl ?_
  refine s_isnb dX13_forget_9 (Nat.le_of_ble_eq_true rfl) (fun v1_2 ev1_2 => ?_)
  replace F := F v1_2 ev1_2
  show wG _ _ _ _ [some (.ref (co C)), some (.int v1_2)] _ _ _
  refine s_aln dX13_forget_10 rfl ?_
  refine s_ic dX13_forget_11 ki_0 ?_
  refine pf_827 hC dX13_forget_12 rfl (fun σ3 eσ3 => ?_)
  replace F := F σ3 eσ3
  refine s_iln dX13_forget_15 rfl ?_
  exact s_ri dX13_forget_16 rfl in_nar F

theorem m_forget_run {C : rCx} (hC : cOK C) {Q : Int32 → rS → Prop}  {σ : rS} (F : w_forget_0 C Q  σ) : cI C 0 m_forget [.ref (co C)] σ Q := m_I (m_ent _ 1) (t_forget_0 hC F)

theorem dX13_drawn_0 : decode cX13_drawn 0 = .ok (.aload_n 0, 1) := by decide +kernel
theorem dX13_drawn_1 : decode cX13_drawn 1 = .ok (.getfield 830, 3) := by decide +kernel
theorem dX13_drawn_4 : decode cX13_drawn 4 = .ok (.ifCond .ne 52, 3) := by decide +kernel
theorem dX13_drawn_7 : decode cX13_drawn 7 = .ok (.aload_n 0, 1) := by decide +kernel
theorem dX13_drawn_8 : decode cX13_drawn 8 = .ok (.getfield 833, 3) := by decide +kernel
theorem dX13_drawn_11 : decode cX13_drawn 11 = .ok (.aload_n 0, 1) := by decide +kernel
theorem dX13_drawn_12 : decode cX13_drawn 12 = .ok (.getfield 827, 3) := by decide +kernel
theorem dX13_drawn_15 : decode cX13_drawn 15 = .ok (.if_icmp .ne 7, 3) := by decide +kernel
theorem dX13_drawn_18 : decode cX13_drawn 18 = .ok (.iconst (-1), 1) := by decide +kernel
theorem dX13_drawn_19 : decode cX13_drawn 19 = .ok (.goto 36, 3) := by decide +kernel
theorem dX13_drawn_22 : decode cX13_drawn 22 = .ok (.aload_n 0, 1) := by decide +kernel
theorem dX13_drawn_23 : decode cX13_drawn 23 = .ok (.getfield 217, 3) := by decide +kernel
theorem dX13_drawn_26 : decode cX13_drawn 26 = .ok (.aload_n 0, 1) := by decide +kernel
theorem dX13_drawn_27 : decode cX13_drawn 27 = .ok (.getfield 833, 3) := by decide +kernel
theorem dX13_drawn_30 : decode cX13_drawn 30 = .ok (.iaload, 1) := by decide +kernel
theorem dX13_drawn_31 : decode cX13_drawn 31 = .ok (.aload_n 0, 1) := by decide +kernel
theorem dX13_drawn_32 : decode cX13_drawn 32 = .ok (.getfield 575, 3) := by decide +kernel
theorem dX13_drawn_35 : decode cX13_drawn 35 = .ok (.invokestatic 807, 3) := by decide +kernel
theorem dX13_drawn_38 : decode cX13_drawn 38 = .ok (.ifCond .eq 15, 3) := by decide +kernel
theorem dX13_drawn_41 : decode cX13_drawn 41 = .ok (.aload_n 0, 1) := by decide +kernel
theorem dX13_drawn_42 : decode cX13_drawn 42 = .ok (.getfield 217, 3) := by decide +kernel
theorem dX13_drawn_45 : decode cX13_drawn 45 = .ok (.aload_n 0, 1) := by decide +kernel
theorem dX13_drawn_46 : decode cX13_drawn 46 = .ok (.getfield 833, 3) := by decide +kernel
theorem dX13_drawn_49 : decode cX13_drawn 49 = .ok (.iaload, 1) := by decide +kernel
theorem dX13_drawn_50 : decode cX13_drawn 50 = .ok (.goto 5, 3) := by decide +kernel
theorem dX13_drawn_53 : decode cX13_drawn 53 = .ok (.bipush (-2), 2) := by decide +kernel
theorem dX13_drawn_55 : decode cX13_drawn 55 = .ok (.ireturn, 1) := by decide +kernel
theorem dX13_drawn_56 : decode cX13_drawn 56 = .ok (.aload_n 0, 1) := by decide +kernel
theorem dX13_drawn_57 : decode cX13_drawn 57 = .ok (.aload_n 0, 1) := by decide +kernel
theorem dX13_drawn_58 : decode cX13_drawn 58 = .ok (.getfield 836, 3) := by decide +kernel
theorem dX13_drawn_61 : decode cX13_drawn 61 = .ok (.ldc2_w 840, 3) := by decide +kernel
theorem dX13_drawn_64 : decode cX13_drawn 64 = .ok (.lmul, 1) := by decide +kernel
theorem dX13_drawn_65 : decode cX13_drawn 65 = .ok (.ldc2_w 842, 3) := by decide +kernel
theorem dX13_drawn_68 : decode cX13_drawn 68 = .ok (.ladd, 1) := by decide +kernel
theorem dX13_drawn_69 : decode cX13_drawn 69 = .ok (.putfield 836, 3) := by decide +kernel
theorem dX13_drawn_72 : decode cX13_drawn 72 = .ok (.aload_n 0, 1) := by decide +kernel
theorem dX13_drawn_73 : decode cX13_drawn 73 = .ok (.getfield 836, 3) := by decide +kernel
theorem dX13_drawn_76 : decode cX13_drawn 76 = .ok (.bipush 33, 2) := by decide +kernel
theorem dX13_drawn_78 : decode cX13_drawn 78 = .ok (.lushr, 1) := by decide +kernel
theorem dX13_drawn_79 : decode cX13_drawn 79 = .ok (.aload_n 0, 1) := by decide +kernel
theorem dX13_drawn_80 : decode cX13_drawn 80 = .ok (.getfield 581, 3) := by decide +kernel
theorem dX13_drawn_83 : decode cX13_drawn 83 = .ok (.i2l, 1) := by decide +kernel
theorem dX13_drawn_84 : decode cX13_drawn 84 = .ok (.lrem, 1) := by decide +kernel
theorem dX13_drawn_85 : decode cX13_drawn 85 = .ok (.lstore_n 1, 1) := by decide +kernel
theorem dX13_drawn_86 : decode cX13_drawn 86 = .ok (.iconst 0, 1) := by decide +kernel
theorem dX13_drawn_87 : decode cX13_drawn 87 = .ok (.istore_n 3, 1) := by decide +kernel
theorem dX13_drawn_88 : decode cX13_drawn 88 = .ok (.aload_n 0, 1) := by decide +kernel
theorem dX13_drawn_89 : decode cX13_drawn 89 = .ok (.getfield 134, 3) := by decide +kernel
theorem dX13_drawn_92 : decode cX13_drawn 92 = .ok (.iconst 0, 1) := by decide +kernel
theorem dX13_drawn_93 : decode cX13_drawn 93 = .ok (.iaload, 1) := by decide +kernel
theorem dX13_drawn_94 : decode cX13_drawn 94 = .ok (.i2l, 1) := by decide +kernel
theorem dX13_drawn_95 : decode cX13_drawn 95 = .ok (.lstore 4, 2) := by decide +kernel
theorem dX13_drawn_97 : decode cX13_drawn 97 = .ok (.lload 4, 2) := by decide +kernel
theorem dX13_drawn_99 : decode cX13_drawn 99 = .ok (.lload_n 1, 1) := by decide +kernel
theorem dX13_drawn_100 : decode cX13_drawn 100 = .ok (.lcmp, 1) := by decide +kernel
theorem dX13_drawn_101 : decode cX13_drawn 101 = .ok (.ifCond .gt 21, 3) := by decide +kernel
theorem dX13_drawn_104 : decode cX13_drawn 104 = .ok (.iinc 3 1, 3) := by decide +kernel
theorem dX13_drawn_107 : decode cX13_drawn 107 = .ok (.lload 4, 2) := by decide +kernel
theorem dX13_drawn_109 : decode cX13_drawn 109 = .ok (.aload_n 0, 1) := by decide +kernel
theorem dX13_drawn_110 : decode cX13_drawn 110 = .ok (.getfield 134, 3) := by decide +kernel
theorem dX13_drawn_113 : decode cX13_drawn 113 = .ok (.iload_n 3, 1) := by decide +kernel
theorem dX13_drawn_114 : decode cX13_drawn 114 = .ok (.iaload, 1) := by decide +kernel
theorem dX13_drawn_115 : decode cX13_drawn 115 = .ok (.i2l, 1) := by decide +kernel
theorem dX13_drawn_116 : decode cX13_drawn 116 = .ok (.ladd, 1) := by decide +kernel
theorem dX13_drawn_117 : decode cX13_drawn 117 = .ok (.lstore 4, 2) := by decide +kernel
theorem dX13_drawn_119 : decode cX13_drawn 119 = .ok (.goto (-22), 3) := by decide +kernel
theorem dX13_drawn_122 : decode cX13_drawn 122 = .ok (.iload_n 3, 1) := by decide +kernel
theorem dX13_drawn_123 : decode cX13_drawn 123 = .ok (.ireturn, 1) := by decide +kernel
def w_drawn_97 (C : rCx) (Q : Int32 → rS → Prop)  (a1 : Int64) (a3 : Int32) (a4 : Int64) (σ : rS) : Prop :=
  ∃ I : Nat → Int64 → Int32 → Int64 → rS → Prop, (∃ n, I n a1 a3 a4 σ) ∧ ∀ n a1 a3 a4 σ, I n a1 a3 a4 σ →
    (0 < (lg_cmp a4 a1) →
      Q a3 σ) ∧
    (¬ (0 < (lg_cmp a4 a1)) →
      ∀ v3_1 : Int32, v3_1 = a3 + (1 : Int32) →
      inb v3_1 64 ∧
      ∀ v4_2 : Int64, v4_2 = (a4 + ((σ.2.2.1 65 (v3_1).toNatClampNeg)).toInt64) →
      ∃ k < n, I k a1 v3_1 v4_2 σ)
theorem t_drawn_97 {C : rCx} (hC : cOK C) {Q : Int32 → rS → Prop}   {a1 : Int64} {a3 : Int32} {a4 : Int64} {σ : rS} (F : w_drawn_97 C Q  a1 a3 a4 σ) : wG C 1 m_drawn 97 [some (.ref (co C)), some (.long a1), none, some (.int a3), some (.long a4), none] [] σ (qI Q) := by
  obtain ⟨I, ⟨n0, hI0⟩, F0⟩ := F
  have key : ∀ n a1 a3 a4 σ, I n a1 a3 a4 σ → wG C 1 m_drawn 97 [some (.ref (co C)), some (.long a1), none, some (.int a3), some (.long a4), none] [] σ (qI Q) := by
    intro n
    induction n using Nat.strongRecOn with
    | _ n ih =>
      intro a1 a3 a4 σ hI
      have F := F0 n a1 a3 a4 σ hI
      clear hI hI0
      refine s_ll dX13_drawn_97 rfl ?_
      refine s_lln dX13_drawn_99 rfl ?_
      refine s_lcmp dX13_drawn_100 ?_
      refine s_i (t := 122) (0 < (lg_cmp a4 a1)) dX13_drawn_101 rfl rfl (fun hc => ?_) (fun hc => ?_)
      · replace F := F.1 hc
        refine s_iln dX13_drawn_122 rfl ?_
        exact s_ri dX13_drawn_123 rfl in_nar F
      · replace F := F.2 hc
        refine s_incb dX13_drawn_104 ki_1 rfl (Nat.le_of_ble_eq_true rfl) (fun v3_1 ev3_1 => ?_)
        replace F := F v3_1 ev3_1
        show wG _ _ _ _ [some (.ref (co C)), some (.long a1), none, some (.int v3_1), some (.long a4), none] _ _ _
        refine s_ll dX13_drawn_107 rfl ?_
        refine s_aln dX13_drawn_109 rfl ?_
        refine gf_134 dX13_drawn_110 rfl ?_
        refine s_iln dX13_drawn_113 rfl ?_
        refine s_ald hC dX13_drawn_114 rt_65 F.1 ?_
        replace F := F.2
        refine s_i2l dX13_drawn_115 ?_
        refine s_ladd dX13_drawn_116 ?_
        refine s_lsb dX13_drawn_117 (Nat.le_of_ble_eq_true rfl) (fun v4_2 ev4_2 => ?_)
        replace F := F v4_2 ev4_2
        show wG _ _ _ _ [some (.ref (co C)), some (.long a1), none, some (.int v3_1), some (.long v4_2), none] _ _ _
        refine s_goto (t := 97) dX13_drawn_119 rfl ?_
        obtain ⟨k, hk, hI⟩ := F
        exact s_k (ih k hk _ _ _ _ hI) ⟨rfl, rfl, rfl, rfl, trivial⟩
  exact key n0 a1 a3 a4 σ hI0

def w_drawn_0 (C : rCx) (Q : Int32 → rS → Prop)   (σ : rS) : Prop :=
  (¬ ((σ.1 113) = 0) →
    ∀ σ1, σ1 = slU σ 112 (((σ.2.1 112) * (6364136223846793005 : Int64)) + (1442695040888963407 : Int64)) →
    ¬ ((σ1.1 66)).toInt64 = 0 ∧
    ∀ v1_2 : Int64, v1_2 = ((((σ1.2.1 112)).toUInt64 >>> (((33 : Int32)).toInt64.toUInt64 &&& Int64.toUInt64 63)).toInt64 - (((σ1.2.1 112)).toUInt64 >>> (((33 : Int32)).toInt64.toUInt64 &&& Int64.toUInt64 63)).toInt64 / ((σ1.1 66)).toInt64 * ((σ1.1 66)).toInt64) →
    inb (0 : Int32) 64 ∧
    ∀ v4_3 : Int64, v4_3 = ((σ1.2.2.1 65 ((0 : Int32)).toNatClampNeg)).toInt64 →
    w_drawn_97 C Q  v1_2 (0 : Int32) v4_3 σ1) ∧
  ((σ.1 113) = 0 →
    (¬ ((σ.1 109) = (σ.1 104)) →
      inb (σ.1 109) 200 ∧
      cI C 0 m_isSlot [.int (σ.2.2.1 105 ((σ.1 109)).toNatClampNeg), .int (σ.1 63)] σ (fun r5 σ4 =>
        (r5 = 0 →
          Q (-2 : Int32) σ4) ∧
        (¬ (r5 = 0) →
          inb (σ4.1 109) 200 ∧
          Q (σ4.2.2.1 105 ((σ4.1 109)).toNatClampNeg) σ4))) ∧
    ((σ.1 109) = (σ.1 104) →
      Q (-1 : Int32) σ))
theorem t_drawn_0 {C : rCx} (hC : cOK C) {Q : Int32 → rS → Prop}    {σ : rS} (F : w_drawn_0 C Q   σ) : wG C 1 m_drawn 0 [some (.ref (co C)), none, none, none, none, none] [] σ (qI Q) := by
  unfold w_drawn_0 at F
  refine s_aln dX13_drawn_0 rfl ?_
  refine gf_830 dX13_drawn_1 rfl ?_
  refine s_in (t := 56) ((σ.1 113) = 0) dX13_drawn_4 rfl rfl (fun hc => ?_) (fun hc => ?_)
  · replace F := F.1 hc
    refine s_aln dX13_drawn_56 rfl ?_
    refine s_aln dX13_drawn_57 rfl ?_
    refine gf_836 dX13_drawn_58 rfl ?_
    refine s_ldcl dX13_drawn_61 rfl cl_840 ?_
    refine s_lmul dX13_drawn_64 ?_
    refine s_ldcl dX13_drawn_65 rfl cl_842 ?_
    refine s_ladd dX13_drawn_68 ?_
    refine pf_836 hC dX13_drawn_69 rfl (fun σ1 eσ1 => ?_)
    replace F := F σ1 eσ1
    refine s_aln dX13_drawn_72 rfl ?_
    refine gf_836 dX13_drawn_73 rfl ?_
    refine s_bi dX13_drawn_76 kb_33 ?_
    refine s_lushr dX13_drawn_78 ?_
    refine s_aln dX13_drawn_79 rfl ?_
    refine gf_581 dX13_drawn_80 rfl ?_
    refine s_i2l dX13_drawn_83 ?_
    refine s_lrem dX13_drawn_84 F.1 ?_
    replace F := F.2
    refine s_lsnb dX13_drawn_85 (Nat.le_of_ble_eq_true rfl) (fun v1_2 ev1_2 => ?_)
    replace F := F v1_2 ev1_2
    show wG _ _ _ _ [some (.ref (co C)), some (.long v1_2), none, none, none, none] _ _ _
    refine s_ic dX13_drawn_86 ki_0 ?_
    refine s_isn dX13_drawn_87 (Nat.le_of_ble_eq_true rfl) rfl ?_
    show wG _ _ _ _ [some (.ref (co C)), some (.long v1_2), none, some (.int (0 : Int32)), none, none] _ _ _
    refine s_aln dX13_drawn_88 rfl ?_
    refine gf_134 dX13_drawn_89 rfl ?_
    refine s_ic dX13_drawn_92 ki_0 ?_
    refine s_ald hC dX13_drawn_93 rt_65 F.1 ?_
    replace F := F.2
    refine s_i2l dX13_drawn_94 ?_
    refine s_lsb dX13_drawn_95 (Nat.le_of_ble_eq_true rfl) (fun v4_3 ev4_3 => ?_)
    replace F := F v4_3 ev4_3
    show wG _ _ _ _ [some (.ref (co C)), some (.long v1_2), none, some (.int (0 : Int32)), some (.long v4_3), none] _ _ _
    exact s_k (t_drawn_97 hC  F) ⟨rfl, rfl, rfl, rfl, trivial⟩
  · replace F := F.2 hc
    refine s_aln dX13_drawn_7 rfl ?_
    refine gf_833 dX13_drawn_8 rfl ?_
    refine s_aln dX13_drawn_11 rfl ?_
    refine gf_827 dX13_drawn_12 rfl ?_
    refine s_iin (t := 22) ((σ.1 109) = (σ.1 104)) dX13_drawn_15 rfl rfl (fun hc => ?_) (fun hc => ?_)
    · replace F := F.1 hc
      refine s_aln dX13_drawn_22 rfl ?_
      refine gf_217 dX13_drawn_23 rfl ?_
      refine s_aln dX13_drawn_26 rfl ?_
      refine gf_833 dX13_drawn_27 rfl ?_
      refine s_ald hC dX13_drawn_30 rt_105 F.1 ?_
      replace F := F.2
      refine s_aln dX13_drawn_31 rfl ?_
      refine gf_575 dX13_drawn_32 rfl ?_
      refine k_807 dX13_drawn_35 rfl (Nat.le_of_ble_eq_true rfl) (Nat.le_of_ble_eq_true rfl) F (fun r5 σ4 F => ?_)
      refine s_i (t := 53) (r5 = 0) dX13_drawn_38 rfl rfl (fun hc => ?_) (fun hc => ?_)
      · replace F := F.1 hc
        refine s_bi dX13_drawn_53 kb_m2 ?_
        exact s_ri dX13_drawn_55 rfl in_nar F
      · replace F := F.2 hc
        refine s_aln dX13_drawn_41 rfl ?_
        refine gf_217 dX13_drawn_42 rfl ?_
        refine s_aln dX13_drawn_45 rfl ?_
        refine gf_833 dX13_drawn_46 rfl ?_
        refine s_ald hC dX13_drawn_49 rt_105 F.1 ?_
        replace F := F.2
        refine s_goto (t := 55) dX13_drawn_50 rfl ?_
        exact s_ri dX13_drawn_55 rfl in_nar F
    · replace F := F.2 hc
      refine s_ic dX13_drawn_18 ki_m1 ?_
      refine s_goto (t := 55) dX13_drawn_19 rfl ?_
      exact s_ri dX13_drawn_55 rfl in_nar F

theorem m_drawn_run {C : rCx} (hC : cOK C) {Q : Int32 → rS → Prop}  {σ : rS} (F : w_drawn_0 C Q  σ) : cI C 1 m_drawn [.ref (co C)] σ Q := m_I (m_ent _ 5) (t_drawn_0 hC F)

theorem dX13_draws_0 : decode cX13_draws 0 = .ok (.aload_n 0, 1) := by decide +kernel
theorem dX13_draws_1 : decode cX13_draws 1 = .ok (.invokevirtual 844, 3) := by decide +kernel
theorem dX13_draws_4 : decode cX13_draws 4 = .ok (.istore_n 1, 1) := by decide +kernel
theorem dX13_draws_5 : decode cX13_draws 5 = .ok (.iload_n 1, 1) := by decide +kernel
theorem dX13_draws_6 : decode cX13_draws 6 = .ok (.iconst (-1), 1) := by decide +kernel
theorem dX13_draws_7 : decode cX13_draws 7 = .ok (.if_icmp .ne 15, 3) := by decide +kernel
theorem dX13_draws_10 : decode cX13_draws 10 = .ok (.aload_n 0, 1) := by decide +kernel
theorem dX13_draws_11 : decode cX13_draws 11 = .ok (.dup, 1) := by decide +kernel
theorem dX13_draws_12 : decode cX13_draws 12 = .ok (.getfield 847, 3) := by decide +kernel
theorem dX13_draws_15 : decode cX13_draws 15 = .ok (.iconst 1, 1) := by decide +kernel
theorem dX13_draws_16 : decode cX13_draws 16 = .ok (.isub, 1) := by decide +kernel
theorem dX13_draws_17 : decode cX13_draws 17 = .ok (.putfield 847, 3) := by decide +kernel
theorem dX13_draws_20 : decode cX13_draws 20 = .ok (.iconst 5, 1) := by decide +kernel
theorem dX13_draws_21 : decode cX13_draws 21 = .ok (.ireturn, 1) := by decide +kernel
theorem dX13_draws_22 : decode cX13_draws 22 = .ok (.iload_n 1, 1) := by decide +kernel
theorem dX13_draws_23 : decode cX13_draws 23 = .ok (.bipush (-2), 2) := by decide +kernel
theorem dX13_draws_25 : decode cX13_draws 25 = .ok (.if_icmp .ne 10, 3) := by decide +kernel
theorem dX13_draws_28 : decode cX13_draws 28 = .ok (.aload_n 0, 1) := by decide +kernel
theorem dX13_draws_29 : decode cX13_draws 29 = .ok (.bipush 6, 2) := by decide +kernel
theorem dX13_draws_31 : decode cX13_draws 31 = .ok (.invokevirtual 572, 3) := by decide +kernel
theorem dX13_draws_34 : decode cX13_draws 34 = .ok (.ireturn, 1) := by decide +kernel
theorem dX13_draws_35 : decode cX13_draws 35 = .ok (.aload_n 0, 1) := by decide +kernel
theorem dX13_draws_36 : decode cX13_draws 36 = .ok (.dup, 1) := by decide +kernel
theorem dX13_draws_37 : decode cX13_draws 37 = .ok (.getfield 833, 3) := by decide +kernel
theorem dX13_draws_40 : decode cX13_draws 40 = .ok (.iconst 1, 1) := by decide +kernel
theorem dX13_draws_41 : decode cX13_draws 41 = .ok (.iadd, 1) := by decide +kernel
theorem dX13_draws_42 : decode cX13_draws 42 = .ok (.putfield 833, 3) := by decide +kernel
theorem dX13_draws_45 : decode cX13_draws 45 = .ok (.aload_n 0, 1) := by decide +kernel
theorem dX13_draws_46 : decode cX13_draws 46 = .ok (.bipush 8, 2) := by decide +kernel
theorem dX13_draws_48 : decode cX13_draws 48 = .ok (.aload_n 0, 1) := by decide +kernel
theorem dX13_draws_49 : decode cX13_draws 49 = .ok (.getfield 134, 3) := by decide +kernel
theorem dX13_draws_52 : decode cX13_draws 52 = .ok (.iload_n 1, 1) := by decide +kernel
theorem dX13_draws_53 : decode cX13_draws 53 = .ok (.iaload, 1) := by decide +kernel
theorem dX13_draws_54 : decode cX13_draws 54 = .ok (.i2l, 1) := by decide +kernel
theorem dX13_draws_55 : decode cX13_draws 55 = .ok (.invokevirtual 699, 3) := by decide +kernel
theorem dX13_draws_58 : decode cX13_draws 58 = .ok (.aload_n 0, 1) := by decide +kernel
theorem dX13_draws_59 : decode cX13_draws 59 = .ok (.bipush 13, 2) := by decide +kernel
theorem dX13_draws_61 : decode cX13_draws 61 = .ok (.bipush 17, 2) := by decide +kernel
theorem dX13_draws_63 : decode cX13_draws 63 = .ok (.bipush 8, 2) := by decide +kernel
theorem dX13_draws_65 : decode cX13_draws 65 = .ok (.invokevirtual 712, 3) := by decide +kernel
theorem dX13_draws_68 : decode cX13_draws 68 = .ok (.aload_n 0, 1) := by decide +kernel
theorem dX13_draws_69 : decode cX13_draws 69 = .ok (.bipush 17, 2) := by decide +kernel
theorem dX13_draws_71 : decode cX13_draws 71 = .ok (.bipush 13, 2) := by decide +kernel
theorem dX13_draws_73 : decode cX13_draws 73 = .ok (.invokevirtual 703, 3) := by decide +kernel
theorem dX13_draws_76 : decode cX13_draws 76 = .ok (.aload_n 0, 1) := by decide +kernel
theorem dX13_draws_77 : decode cX13_draws 77 = .ok (.bipush 8, 2) := by decide +kernel
theorem dX13_draws_79 : decode cX13_draws 79 = .ok (.aload_n 0, 1) := by decide +kernel
theorem dX13_draws_80 : decode cX13_draws 80 = .ok (.getfield 581, 3) := by decide +kernel
theorem dX13_draws_83 : decode cX13_draws 83 = .ok (.i2l, 1) := by decide +kernel
theorem dX13_draws_84 : decode cX13_draws 84 = .ok (.invokevirtual 699, 3) := by decide +kernel
theorem dX13_draws_87 : decode cX13_draws 87 = .ok (.aload_n 0, 1) := by decide +kernel
theorem dX13_draws_88 : decode cX13_draws 88 = .ok (.bipush 13, 2) := by decide +kernel
theorem dX13_draws_90 : decode cX13_draws 90 = .ok (.bipush 18, 2) := by decide +kernel
theorem dX13_draws_92 : decode cX13_draws 92 = .ok (.bipush 8, 2) := by decide +kernel
theorem dX13_draws_94 : decode cX13_draws 94 = .ok (.invokevirtual 712, 3) := by decide +kernel
theorem dX13_draws_97 : decode cX13_draws 97 = .ok (.aload_n 0, 1) := by decide +kernel
theorem dX13_draws_98 : decode cX13_draws 98 = .ok (.bipush 18, 2) := by decide +kernel
theorem dX13_draws_100 : decode cX13_draws 100 = .ok (.bipush 13, 2) := by decide +kernel
theorem dX13_draws_102 : decode cX13_draws 102 = .ok (.invokevirtual 703, 3) := by decide +kernel
theorem dX13_draws_105 : decode cX13_draws 105 = .ok (.aload_n 0, 1) := by decide +kernel
theorem dX13_draws_106 : decode cX13_draws 106 = .ok (.iload_n 1, 1) := by decide +kernel
theorem dX13_draws_107 : decode cX13_draws 107 = .ok (.invokevirtual 628, 3) := by decide +kernel
theorem dX13_draws_110 : decode cX13_draws 110 = .ok (.ireturn, 1) := by decide +kernel
def w_draws_0 (C : rCx) (Q : Int32 → rS → Prop)   (σ : rS) : Prop :=
  cI C 1 m_drawn [.ref (co C)] σ (fun r2 σ1 =>
    (¬ (r2 = (-1 : Int32)) →
      (¬ (r2 = (-2 : Int32)) →
        ∀ σ3, σ3 = siU σ1 109 ((σ1.1 109) + (1 : Int32)) →
        inb r2 64 ∧
        cV C 0 m_set [.ref (co C), .int (8 : Int32), .long ((σ3.2.2.1 65 (r2).toNatClampNeg)).toInt64] σ3 (fun σ4 =>
          cV C 1 m_times [.ref (co C), .int (13 : Int32), .int (17 : Int32), .int (8 : Int32)] σ4 (fun σ6 =>
            cV C 0 m_copy [.ref (co C), .int (17 : Int32), .int (13 : Int32)] σ6 (fun σ8 =>
              cV C 0 m_set [.ref (co C), .int (8 : Int32), .long ((σ8.1 66)).toInt64] σ8 (fun σ10 =>
                cV C 1 m_times [.ref (co C), .int (13 : Int32), .int (18 : Int32), .int (8 : Int32)] σ10 (fun σ12 =>
                  cV C 0 m_copy [.ref (co C), .int (18 : Int32), .int (13 : Int32)] σ12 (fun σ14 =>
                    cI C 3 m_get [.ref (co C), .int r2] σ14 (fun r17 σ16 =>
                      Q r17 σ16)))))))) ∧
      (r2 = (-2 : Int32) →
        cI C 0 m_fail [.ref (co C), .int (6 : Int32)] σ1 (fun r19 σ18 =>
          Q r19 σ18))) ∧
    (r2 = (-1 : Int32) →
      ∀ σ20, σ20 = siU σ1 108 ((σ1.1 108) - (1 : Int32)) →
      Q (5 : Int32) σ20))
theorem t_draws_0 {C : rCx} (hC : cOK C) {Q : Int32 → rS → Prop}    {σ : rS} (F : w_draws_0 C Q   σ) : wG C 4 m_draws 0 [some (.ref (co C)), none] [] σ (qI Q) := by
  unfold w_draws_0 at F
  refine s_aln dX13_draws_0 rfl ?_
  refine k_844 dX13_draws_1 rfl (Nat.le_of_ble_eq_true rfl) (Nat.le_of_ble_eq_true rfl) F (fun r2 σ1 F => ?_)
  refine s_isn dX13_draws_4 (Nat.le_of_ble_eq_true rfl) rfl ?_
  show wG _ _ _ _ [some (.ref (co C)), some (.int r2)] _ _ _
  refine s_iln dX13_draws_5 rfl ?_
  refine s_ic dX13_draws_6 ki_m1 ?_
  refine s_iin (t := 22) (r2 = (-1 : Int32)) dX13_draws_7 rfl rfl (fun hc => ?_) (fun hc => ?_)
  · replace F := F.1 hc
    refine s_iln dX13_draws_22 rfl ?_
    refine s_bi dX13_draws_23 kb_m2 ?_
    refine s_iin (t := 35) (r2 = (-2 : Int32)) dX13_draws_25 rfl rfl (fun hc => ?_) (fun hc => ?_)
    · replace F := F.1 hc
      refine s_aln dX13_draws_35 rfl ?_
      refine s_dup dX13_draws_36 rfl ?_
      refine gf_833 dX13_draws_37 rfl ?_
      refine s_ic dX13_draws_40 ki_1 ?_
      refine s_iadd dX13_draws_41 ?_
      refine pf_833 hC dX13_draws_42 rfl (fun σ3 eσ3 => ?_)
      replace F := F σ3 eσ3
      refine s_aln dX13_draws_45 rfl ?_
      refine s_bi dX13_draws_46 kb_8 ?_
      refine s_aln dX13_draws_48 rfl ?_
      refine gf_134 dX13_draws_49 rfl ?_
      refine s_iln dX13_draws_52 rfl ?_
      refine s_ald hC dX13_draws_53 rt_65 F.1 ?_
      replace F := F.2
      refine s_i2l dX13_draws_54 ?_
      refine k_699 dX13_draws_55 rfl (Nat.le_of_ble_eq_true rfl) (Nat.le_of_ble_eq_true rfl) F (fun σ4 F => ?_)
      refine s_aln dX13_draws_58 rfl ?_
      refine s_bi dX13_draws_59 kb_13 ?_
      refine s_bi dX13_draws_61 kb_17 ?_
      refine s_bi dX13_draws_63 kb_8 ?_
      refine k_712 dX13_draws_65 rfl (Nat.le_of_ble_eq_true rfl) (Nat.le_of_ble_eq_true rfl) F (fun σ6 F => ?_)
      refine s_aln dX13_draws_68 rfl ?_
      refine s_bi dX13_draws_69 kb_17 ?_
      refine s_bi dX13_draws_71 kb_13 ?_
      refine k_703 dX13_draws_73 rfl (Nat.le_of_ble_eq_true rfl) (Nat.le_of_ble_eq_true rfl) F (fun σ8 F => ?_)
      refine s_aln dX13_draws_76 rfl ?_
      refine s_bi dX13_draws_77 kb_8 ?_
      refine s_aln dX13_draws_79 rfl ?_
      refine gf_581 dX13_draws_80 rfl ?_
      refine s_i2l dX13_draws_83 ?_
      refine k_699 dX13_draws_84 rfl (Nat.le_of_ble_eq_true rfl) (Nat.le_of_ble_eq_true rfl) F (fun σ10 F => ?_)
      refine s_aln dX13_draws_87 rfl ?_
      refine s_bi dX13_draws_88 kb_13 ?_
      refine s_bi dX13_draws_90 kb_18 ?_
      refine s_bi dX13_draws_92 kb_8 ?_
      refine k_712 dX13_draws_94 rfl (Nat.le_of_ble_eq_true rfl) (Nat.le_of_ble_eq_true rfl) F (fun σ12 F => ?_)
      refine s_aln dX13_draws_97 rfl ?_
      refine s_bi dX13_draws_98 kb_18 ?_
      refine s_bi dX13_draws_100 kb_13 ?_
      refine k_703 dX13_draws_102 rfl (Nat.le_of_ble_eq_true rfl) (Nat.le_of_ble_eq_true rfl) F (fun σ14 F => ?_)
      refine s_aln dX13_draws_105 rfl ?_
      refine s_iln dX13_draws_106 rfl ?_
      refine k_628 dX13_draws_107 rfl (Nat.le_of_ble_eq_true rfl) (Nat.le_of_ble_eq_true rfl) F (fun r17 σ16 F => ?_)
      exact s_ri dX13_draws_110 rfl in_nar F
    · replace F := F.2 hc
      refine s_aln dX13_draws_28 rfl ?_
      refine s_bi dX13_draws_29 kb_6 ?_
      refine k_572 dX13_draws_31 rfl (Nat.le_of_ble_eq_true rfl) (Nat.le_of_ble_eq_true rfl) F (fun r19 σ18 F => ?_)
      exact s_ri dX13_draws_34 rfl in_nar F
  · replace F := F.2 hc
    refine s_aln dX13_draws_10 rfl ?_
    refine s_dup dX13_draws_11 rfl ?_
    refine gf_847 dX13_draws_12 rfl ?_
    refine s_ic dX13_draws_15 ki_1 ?_
    refine s_isub dX13_draws_16 ?_
    refine pf_847 hC dX13_draws_17 rfl (fun σ20 eσ20 => ?_)
    replace F := F σ20 eσ20
    refine s_ic dX13_draws_20 ki_5 ?_
    exact s_ri dX13_draws_21 rfl in_nar F

theorem m_draws_run {C : rCx} (hC : cOK C) {Q : Int32 → rS → Prop}  {σ : rS} (F : w_draws_0 C Q  σ) : cI C 4 m_draws [.ref (co C)] σ Q := m_I (m_ent _ 1) (t_draws_0 hC F)

theorem dX13_chooses_0 : decode cX13_chooses 0 = .ok (.aload_n 0, 1) := by decide +kernel
theorem dX13_chooses_1 : decode cX13_chooses 1 = .ok (.getfield 533, 3) := by decide +kernel
theorem dX13_chooses_4 : decode cX13_chooses 4 = .ok (.ifCond .eq 10, 3) := by decide +kernel
theorem dX13_chooses_7 : decode cX13_chooses 7 = .ok (.aload_n 0, 1) := by decide +kernel
theorem dX13_chooses_8 : decode cX13_chooses 8 = .ok (.invokevirtual 606, 3) := by decide +kernel
theorem dX13_chooses_11 : decode cX13_chooses 11 = .ok (.goto 4, 3) := by decide +kernel
theorem dX13_chooses_14 : decode cX13_chooses 14 = .ok (.iconst (-1), 1) := by decide +kernel
theorem dX13_chooses_15 : decode cX13_chooses 15 = .ok (.istore_n 1, 1) := by decide +kernel
theorem dX13_chooses_16 : decode cX13_chooses 16 = .ok (.aload_n 0, 1) := by decide +kernel
theorem dX13_chooses_17 : decode cX13_chooses 17 = .ok (.iload_n 1, 1) := by decide +kernel
theorem dX13_chooses_18 : decode cX13_chooses 18 = .ok (.iconst (-1), 1) := by decide +kernel
theorem dX13_chooses_19 : decode cX13_chooses 19 = .ok (.if_icmp .ne 7, 3) := by decide +kernel
theorem dX13_chooses_22 : decode cX13_chooses 22 = .ok (.iconst 0, 1) := by decide +kernel
theorem dX13_chooses_23 : decode cX13_chooses 23 = .ok (.goto 9, 3) := by decide +kernel
theorem dX13_chooses_26 : decode cX13_chooses 26 = .ok (.aload_n 0, 1) := by decide +kernel
theorem dX13_chooses_27 : decode cX13_chooses 27 = .ok (.getfield 172, 3) := by decide +kernel
theorem dX13_chooses_30 : decode cX13_chooses 30 = .ok (.iload_n 1, 1) := by decide +kernel
theorem dX13_chooses_31 : decode cX13_chooses 31 = .ok (.iaload, 1) := by decide +kernel
theorem dX13_chooses_32 : decode cX13_chooses 32 = .ok (.invokevirtual 628, 3) := by decide +kernel
theorem dX13_chooses_35 : decode cX13_chooses 35 = .ok (.ireturn, 1) := by decide +kernel
def w_chooses_15 (C : rCx) (Q : Int32 → rS → Prop)  (s0 : Int32) (σ : rS) : Prop :=
  (¬ (s0 = (-1 : Int32)) →
    inb s0 1000 ∧
    cI C 3 m_get [.ref (co C), .int (σ.2.2.1 83 (s0).toNatClampNeg)] σ (fun r2 σ1 =>
      Q r2 σ1)) ∧
  (s0 = (-1 : Int32) →
    cI C 3 m_get [.ref (co C), .int (0 : Int32)] σ (fun r4 σ3 =>
      Q r4 σ3))
theorem t_chooses_15 {C : rCx} (hC : cOK C) {Q : Int32 → rS → Prop}   {s0 : Int32} {σ : rS} (F : w_chooses_15 C Q  s0 σ) : wG C 4 m_chooses 15 [some (.ref (co C)), none] [.int s0] σ (qI Q) := by
  unfold w_chooses_15 at F
  refine s_isn dX13_chooses_15 (Nat.le_of_ble_eq_true rfl) rfl ?_
  show wG _ _ _ _ [some (.ref (co C)), some (.int s0)] _ _ _
  refine s_aln dX13_chooses_16 rfl ?_
  refine s_iln dX13_chooses_17 rfl ?_
  refine s_ic dX13_chooses_18 ki_m1 ?_
  refine s_iin (t := 26) (s0 = (-1 : Int32)) dX13_chooses_19 rfl rfl (fun hc => ?_) (fun hc => ?_)
  · replace F := F.1 hc
    refine s_aln dX13_chooses_26 rfl ?_
    refine gf_172 dX13_chooses_27 rfl ?_
    refine s_iln dX13_chooses_30 rfl ?_
    refine s_ald hC dX13_chooses_31 rt_83 F.1 ?_
    replace F := F.2
    refine k_628 dX13_chooses_32 rfl (Nat.le_of_ble_eq_true rfl) (Nat.le_of_ble_eq_true rfl) F (fun r2 σ1 F => ?_)
    exact s_ri dX13_chooses_35 rfl in_nar F
  · replace F := F.2 hc
    refine s_ic dX13_chooses_22 ki_0 ?_
    refine s_goto (t := 32) dX13_chooses_23 rfl ?_
    refine k_628 dX13_chooses_32 rfl (Nat.le_of_ble_eq_true rfl) (Nat.le_of_ble_eq_true rfl) F (fun r4 σ3 F => ?_)
    exact s_ri dX13_chooses_35 rfl in_nar F

def w_chooses_0 (C : rCx) (Q : Int32 → rS → Prop)   (σ : rS) : Prop :=
  ((σ.1 69) = 0 →
    w_chooses_15 C Q  (-1 : Int32) σ) ∧
  (¬ ((σ.1 69) = 0) →
    cI C 1 m_stateNow [.ref (co C)] σ (fun r2 σ1 =>
      w_chooses_15 C Q  r2 σ1))
theorem t_chooses_0 {C : rCx} (hC : cOK C) {Q : Int32 → rS → Prop}    {σ : rS} (F : w_chooses_0 C Q   σ) : wG C 4 m_chooses 0 [some (.ref (co C)), none] [] σ (qI Q) := by
  unfold w_chooses_0 at F
  refine s_aln dX13_chooses_0 rfl ?_
  refine gf_533 dX13_chooses_1 rfl ?_
  refine s_i (t := 14) ((σ.1 69) = 0) dX13_chooses_4 rfl rfl (fun hc => ?_) (fun hc => ?_)
  · replace F := F.1 hc
    refine s_ic dX13_chooses_14 ki_m1 ?_
    exact s_k (t_chooses_15 hC  F) ⟨rfl, trivial⟩
  · replace F := F.2 hc
    refine s_aln dX13_chooses_7 rfl ?_
    refine k_606 dX13_chooses_8 rfl (Nat.le_of_ble_eq_true rfl) (Nat.le_of_ble_eq_true rfl) F (fun r2 σ1 F => ?_)
    refine s_goto (t := 15) dX13_chooses_11 rfl ?_
    exact s_k (t_chooses_15 hC  F) ⟨rfl, trivial⟩

theorem m_chooses_run {C : rCx} (hC : cOK C) {Q : Int32 → rS → Prop}  {σ : rS} (F : w_chooses_0 C Q  σ) : cI C 4 m_chooses [.ref (co C)] σ Q := m_I (m_ent _ 1) (t_chooses_0 hC F)

theorem dX13_go__0 : decode cX13_go_ 0 = .ok (.aload_n 0, 1) := by decide +kernel
theorem dX13_go__1 : decode cX13_go_ 1 = .ok (.aload_n 0, 1) := by decide +kernel
theorem dX13_go__2 : decode cX13_go_ 2 = .ok (.getfield 529, 3) := by decide +kernel
theorem dX13_go__5 : decode cX13_go_ 5 = .ok (.ifCond .ne 7, 3) := by decide +kernel
theorem dX13_go__8 : decode cX13_go_ 8 = .ok (.iconst 1, 1) := by decide +kernel
theorem dX13_go__9 : decode cX13_go_ 9 = .ok (.goto 19, 3) := by decide +kernel
theorem dX13_go__12 : decode cX13_go_ 12 = .ok (.iload_n 1, 1) := by decide +kernel
theorem dX13_go__13 : decode cX13_go_ 13 = .ok (.iconst 0, 1) := by decide +kernel
theorem dX13_go__14 : decode cX13_go_ 14 = .ok (.sipush 2000, 3) := by decide +kernel
theorem dX13_go__17 : decode cX13_go_ 17 = .ok (.invokestatic 362, 3) := by decide +kernel
theorem dX13_go__20 : decode cX13_go_ 20 = .ok (.ifCond .ne 7, 3) := by decide +kernel
theorem dX13_go__23 : decode cX13_go_ 23 = .ok (.iconst 2, 1) := by decide +kernel
theorem dX13_go__24 : decode cX13_go_ 24 = .ok (.goto 4, 3) := by decide +kernel
theorem dX13_go__27 : decode cX13_go_ 27 = .ok (.iconst 0, 1) := by decide +kernel
theorem dX13_go__28 : decode cX13_go_ 28 = .ok (.putfield 1, 3) := by decide +kernel
theorem dX13_go__31 : decode cX13_go_ 31 = .ok (.aload_n 0, 1) := by decide +kernel
theorem dX13_go__32 : decode cX13_go_ 32 = .ok (.getfield 1, 3) := by decide +kernel
theorem dX13_go__35 : decode cX13_go_ 35 = .ok (.ifCond .le 5, 3) := by decide +kernel
theorem dX13_go__38 : decode cX13_go_ 38 = .ok (.iconst 0, 1) := by decide +kernel
theorem dX13_go__39 : decode cX13_go_ 39 = .ok (.ireturn, 1) := by decide +kernel
theorem dX13_go__40 : decode cX13_go_ 40 = .ok (.aload_n 0, 1) := by decide +kernel
theorem dX13_go__41 : decode cX13_go_ 41 = .ok (.iconst 0, 1) := by decide +kernel
theorem dX13_go__42 : decode cX13_go_ 42 = .ok (.putfield 847, 3) := by decide +kernel
theorem dX13_go__45 : decode cX13_go_ 45 = .ok (.aload_n 0, 1) := by decide +kernel
theorem dX13_go__46 : decode cX13_go_ 46 = .ok (.iconst 0, 1) := by decide +kernel
theorem dX13_go__47 : decode cX13_go_ 47 = .ok (.putfield 833, 3) := by decide +kernel
theorem dX13_go__50 : decode cX13_go_ 50 = .ok (.aload_n 0, 1) := by decide +kernel
theorem dX13_go__51 : decode cX13_go_ 51 = .ok (.lconst 0, 1) := by decide +kernel
theorem dX13_go__52 : decode cX13_go_ 52 = .ok (.putfield 850, 3) := by decide +kernel
theorem dX13_go__55 : decode cX13_go_ 55 = .ok (.aload_n 0, 1) := by decide +kernel
theorem dX13_go__56 : decode cX13_go_ 56 = .ok (.bipush 17, 2) := by decide +kernel
theorem dX13_go__58 : decode cX13_go_ 58 = .ok (.lconst 1, 1) := by decide +kernel
theorem dX13_go__59 : decode cX13_go_ 59 = .ok (.invokevirtual 699, 3) := by decide +kernel
theorem dX13_go__62 : decode cX13_go_ 62 = .ok (.aload_n 0, 1) := by decide +kernel
theorem dX13_go__63 : decode cX13_go_ 63 = .ok (.bipush 18, 2) := by decide +kernel
theorem dX13_go__65 : decode cX13_go_ 65 = .ok (.lconst 1, 1) := by decide +kernel
theorem dX13_go__66 : decode cX13_go_ 66 = .ok (.invokevirtual 699, 3) := by decide +kernel
theorem dX13_go__69 : decode cX13_go_ 69 = .ok (.aload_n 0, 1) := by decide +kernel
theorem dX13_go__70 : decode cX13_go_ 70 = .ok (.invokevirtual 631, 3) := by decide +kernel
theorem dX13_go__73 : decode cX13_go_ 73 = .ok (.istore_n 2, 1) := by decide +kernel
theorem dX13_go__74 : decode cX13_go_ 74 = .ok (.iconst 0, 1) := by decide +kernel
theorem dX13_go__75 : decode cX13_go_ 75 = .ok (.istore_n 3, 1) := by decide +kernel
theorem dX13_go__76 : decode cX13_go_ 76 = .ok (.iload_n 2, 1) := by decide +kernel
theorem dX13_go__77 : decode cX13_go_ 77 = .ok (.ifCond .ne 98, 3) := by decide +kernel
theorem dX13_go__80 : decode cX13_go_ 80 = .ok (.iload_n 3, 1) := by decide +kernel
theorem dX13_go__81 : decode cX13_go_ 81 = .ok (.ifCond .ne 94, 3) := by decide +kernel
theorem dX13_go__84 : decode cX13_go_ 84 = .ok (.aload_n 0, 1) := by decide +kernel
theorem dX13_go__85 : decode cX13_go_ 85 = .ok (.getfield 847, 3) := by decide +kernel
theorem dX13_go__88 : decode cX13_go_ 88 = .ok (.iload_n 1, 1) := by decide +kernel
theorem dX13_go__89 : decode cX13_go_ 89 = .ok (.if_icmp .ne 8, 3) := by decide +kernel
theorem dX13_go__92 : decode cX13_go_ 92 = .ok (.iconst 1, 1) := by decide +kernel
theorem dX13_go__93 : decode cX13_go_ 93 = .ok (.istore_n 3, 1) := by decide +kernel
theorem dX13_go__94 : decode cX13_go_ 94 = .ok (.goto (-18), 3) := by decide +kernel
theorem dX13_go__97 : decode cX13_go_ 97 = .ok (.aload_n 0, 1) := by decide +kernel
theorem dX13_go__98 : decode cX13_go_ 98 = .ok (.invokevirtual 621, 3) := by decide +kernel
theorem dX13_go__101 : decode cX13_go_ 101 = .ok (.istore_n 2, 1) := by decide +kernel
theorem dX13_go__102 : decode cX13_go_ 102 = .ok (.aload_n 0, 1) := by decide +kernel
theorem dX13_go__103 : decode cX13_go_ 103 = .ok (.dup, 1) := by decide +kernel
theorem dX13_go__104 : decode cX13_go_ 104 = .ok (.getfield 847, 3) := by decide +kernel
theorem dX13_go__107 : decode cX13_go_ 107 = .ok (.iconst 1, 1) := by decide +kernel
theorem dX13_go__108 : decode cX13_go_ 108 = .ok (.iadd, 1) := by decide +kernel
theorem dX13_go__109 : decode cX13_go_ 109 = .ok (.putfield 847, 3) := by decide +kernel
theorem dX13_go__112 : decode cX13_go_ 112 = .ok (.aload_n 0, 1) := by decide +kernel
theorem dX13_go__113 : decode cX13_go_ 113 = .ok (.dup, 1) := by decide +kernel
theorem dX13_go__114 : decode cX13_go_ 114 = .ok (.getfield 850, 3) := by decide +kernel
theorem dX13_go__117 : decode cX13_go_ 117 = .ok (.iload_n 2, 1) := by decide +kernel
theorem dX13_go__118 : decode cX13_go_ 118 = .ok (.iconst 2, 1) := by decide +kernel
theorem dX13_go__119 : decode cX13_go_ 119 = .ok (.if_icmp .ne 7, 3) := by decide +kernel
theorem dX13_go__122 : decode cX13_go_ 122 = .ok (.lconst 0, 1) := by decide +kernel
theorem dX13_go__123 : decode cX13_go_ 123 = .ok (.goto 8, 3) := by decide +kernel
theorem dX13_go__126 : decode cX13_go_ 126 = .ok (.aload_n 0, 1) := by decide +kernel
theorem dX13_go__127 : decode cX13_go_ 127 = .ok (.getfield 585, 3) := by decide +kernel
theorem dX13_go__130 : decode cX13_go_ 130 = .ok (.i2l, 1) := by decide +kernel
theorem dX13_go__131 : decode cX13_go_ 131 = .ok (.ladd, 1) := by decide +kernel
theorem dX13_go__132 : decode cX13_go_ 132 = .ok (.putfield 850, 3) := by decide +kernel
theorem dX13_go__135 : decode cX13_go_ 135 = .ok (.iload_n 2, 1) := by decide +kernel
theorem dX13_go__136 : decode cX13_go_ 136 = .ok (.iconst 4, 1) := by decide +kernel
theorem dX13_go__137 : decode cX13_go_ 137 = .ok (.if_icmp .ne 10, 3) := by decide +kernel
theorem dX13_go__140 : decode cX13_go_ 140 = .ok (.aload_n 0, 1) := by decide +kernel
theorem dX13_go__141 : decode cX13_go_ 141 = .ok (.invokevirtual 853, 3) := by decide +kernel
theorem dX13_go__144 : decode cX13_go_ 144 = .ok (.goto 16, 3) := by decide +kernel
theorem dX13_go__147 : decode cX13_go_ 147 = .ok (.iload_n 2, 1) := by decide +kernel
theorem dX13_go__148 : decode cX13_go_ 148 = .ok (.iconst 5, 1) := by decide +kernel
theorem dX13_go__149 : decode cX13_go_ 149 = .ok (.if_icmp .ne 10, 3) := by decide +kernel
theorem dX13_go__152 : decode cX13_go_ 152 = .ok (.aload_n 0, 1) := by decide +kernel
theorem dX13_go__153 : decode cX13_go_ 153 = .ok (.invokevirtual 856, 3) := by decide +kernel
theorem dX13_go__156 : decode cX13_go_ 156 = .ok (.goto 4, 3) := by decide +kernel
theorem dX13_go__159 : decode cX13_go_ 159 = .ok (.iload_n 2, 1) := by decide +kernel
theorem dX13_go__160 : decode cX13_go_ 160 = .ok (.istore_n 2, 1) := by decide +kernel
theorem dX13_go__161 : decode cX13_go_ 161 = .ok (.iload_n 2, 1) := by decide +kernel
theorem dX13_go__162 : decode cX13_go_ 162 = .ok (.iconst 5, 1) := by decide +kernel
theorem dX13_go__163 : decode cX13_go_ 163 = .ok (.if_icmp .ne 7, 3) := by decide +kernel
theorem dX13_go__166 : decode cX13_go_ 166 = .ok (.iconst 1, 1) := by decide +kernel
theorem dX13_go__167 : decode cX13_go_ 167 = .ok (.goto 4, 3) := by decide +kernel
theorem dX13_go__170 : decode cX13_go_ 170 = .ok (.iconst 0, 1) := by decide +kernel
theorem dX13_go__171 : decode cX13_go_ 171 = .ok (.istore_n 3, 1) := by decide +kernel
theorem dX13_go__172 : decode cX13_go_ 172 = .ok (.goto (-96), 3) := by decide +kernel
theorem dX13_go__175 : decode cX13_go_ 175 = .ok (.aload_n 0, 1) := by decide +kernel
theorem dX13_go__176 : decode cX13_go_ 176 = .ok (.iload_n 3, 1) := by decide +kernel
theorem dX13_go__177 : decode cX13_go_ 177 = .ok (.ifCond .eq 7, 3) := by decide +kernel
theorem dX13_go__180 : decode cX13_go_ 180 = .ok (.iconst 0, 1) := by decide +kernel
theorem dX13_go__181 : decode cX13_go_ 181 = .ok (.goto 4, 3) := by decide +kernel
theorem dX13_go__184 : decode cX13_go_ 184 = .ok (.iload_n 2, 1) := by decide +kernel
theorem dX13_go__185 : decode cX13_go_ 185 = .ok (.putfield 220, 3) := by decide +kernel
theorem dX13_go__188 : decode cX13_go_ 188 = .ok (.aload_n 0, 1) := by decide +kernel
theorem dX13_go__189 : decode cX13_go_ 189 = .ok (.aload_n 0, 1) := by decide +kernel
theorem dX13_go__190 : decode cX13_go_ 190 = .ok (.getfield 220, 3) := by decide +kernel
theorem dX13_go__193 : decode cX13_go_ 193 = .ok (.iconst 1, 1) := by decide +kernel
theorem dX13_go__194 : decode cX13_go_ 194 = .ok (.if_icmp .eq 11, 3) := by decide +kernel
theorem dX13_go__197 : decode cX13_go_ 197 = .ok (.aload_n 0, 1) := by decide +kernel
theorem dX13_go__198 : decode cX13_go_ 198 = .ok (.getfield 220, 3) := by decide +kernel
theorem dX13_go__201 : decode cX13_go_ 201 = .ok (.iconst 2, 1) := by decide +kernel
theorem dX13_go__202 : decode cX13_go_ 202 = .ok (.if_icmp .ne 10, 3) := by decide +kernel
theorem dX13_go__205 : decode cX13_go_ 205 = .ok (.aload_n 0, 1) := by decide +kernel
theorem dX13_go__206 : decode cX13_go_ 206 = .ok (.getfield 554, 3) := by decide +kernel
theorem dX13_go__209 : decode cX13_go_ 209 = .ok (.goto 4, 3) := by decide +kernel
theorem dX13_go__212 : decode cX13_go_ 212 = .ok (.iconst 0, 1) := by decide +kernel
theorem dX13_go__213 : decode cX13_go_ 213 = .ok (.putfield 859, 3) := by decide +kernel
theorem dX13_go__216 : decode cX13_go_ 216 = .ok (.iconst 0, 1) := by decide +kernel
theorem dX13_go__217 : decode cX13_go_ 217 = .ok (.istore 4, 2) := by decide +kernel
theorem dX13_go__219 : decode cX13_go_ 219 = .ok (.iload 4, 2) := by decide +kernel
theorem dX13_go__221 : decode cX13_go_ 221 = .ok (.bipush 34, 2) := by decide +kernel
theorem dX13_go__223 : decode cX13_go_ 223 = .ok (.if_icmp .ge 23, 3) := by decide +kernel
theorem dX13_go__226 : decode cX13_go_ 226 = .ok (.aload_n 0, 1) := by decide +kernel
theorem dX13_go__227 : decode cX13_go_ 227 = .ok (.getfield 223, 3) := by decide +kernel
theorem dX13_go__230 : decode cX13_go_ 230 = .ok (.iload 4, 2) := by decide +kernel
theorem dX13_go__232 : decode cX13_go_ 232 = .ok (.aload_n 0, 1) := by decide +kernel
theorem dX13_go__233 : decode cX13_go_ 233 = .ok (.getfield 122, 3) := by decide +kernel
theorem dX13_go__236 : decode cX13_go_ 236 = .ok (.iload 4, 2) := by decide +kernel
theorem dX13_go__238 : decode cX13_go_ 238 = .ok (.iaload, 1) := by decide +kernel
theorem dX13_go__239 : decode cX13_go_ 239 = .ok (.iastore, 1) := by decide +kernel
theorem dX13_go__240 : decode cX13_go_ 240 = .ok (.iinc 4 1, 3) := by decide +kernel
theorem dX13_go__243 : decode cX13_go_ 243 = .ok (.goto (-24), 3) := by decide +kernel
theorem dX13_go__246 : decode cX13_go_ 246 = .ok (.aload_n 0, 1) := by decide +kernel
theorem dX13_go__247 : decode cX13_go_ 247 = .ok (.getfield 220, 3) := by decide +kernel
theorem dX13_go__250 : decode cX13_go_ 250 = .ok (.ireturn, 1) := by decide +kernel
def w_go2_160 (C : rCx) (Q : Int32 → rS → Prop) (B76 : Int32 → Int32 → Int32 → rS → Prop) (a1 : Int32) (s0 : Int32) (σ : rS) : Prop :=
  (¬ (s0 = (5 : Int32)) →
    B76 a1 s0 (0 : Int32) σ) ∧
  (s0 = (5 : Int32) →
    B76 a1 s0 (1 : Int32) σ)
theorem t_go2_160 {C : rCx} (hC : cOK C) {Q : Int32 → rS → Prop} {B76 : Int32 → Int32 → Int32 → rS → Prop} (hB76 : ∀ a1' a2' a3' τ, B76 a1' a2' a3' τ → wG C 10 m_go2 76 [some (.ref (co C)), some (.int a1'), some (.int a2'), some (.int a3'), none] [] τ (qI Q)) {a1 : Int32} {s0 : Int32} {σ : rS} (F : w_go2_160 C Q B76 a1 s0 σ) : wG C 10 m_go2 160 [some (.ref (co C)), some (.int a1), none, none, none] [.int s0] σ (qI Q) := by
  unfold w_go2_160 at F
  refine s_isn dX13_go__160 (Nat.le_of_ble_eq_true rfl) rfl ?_
  show wG _ _ _ _ [some (.ref (co C)), some (.int a1), some (.int s0), none, none] _ _ _
  refine s_iln dX13_go__161 rfl ?_
  refine s_ic dX13_go__162 ki_5 ?_
  refine s_iin (t := 170) (s0 = (5 : Int32)) dX13_go__163 rfl rfl (fun hc => ?_) (fun hc => ?_)
  · replace F := F.1 hc
    refine s_ic dX13_go__170 ki_0 ?_
    refine s_isn dX13_go__171 (Nat.le_of_ble_eq_true rfl) rfl ?_
    show wG _ _ _ _ [some (.ref (co C)), some (.int a1), some (.int s0), some (.int (0 : Int32)), none] _ _ _
    refine s_goto (t := 76) dX13_go__172 rfl ?_
    exact s_k (hB76 _ _ _ _ F) ⟨rfl, rfl, rfl, rfl, trivial⟩
  · replace F := F.2 hc
    refine s_ic dX13_go__166 ki_1 ?_
    refine s_goto (t := 171) dX13_go__167 rfl ?_
    refine s_isn dX13_go__171 (Nat.le_of_ble_eq_true rfl) rfl ?_
    show wG _ _ _ _ [some (.ref (co C)), some (.int a1), some (.int s0), some (.int (1 : Int32)), none] _ _ _
    refine s_goto (t := 76) dX13_go__172 rfl ?_
    exact s_k (hB76 _ _ _ _ F) ⟨rfl, rfl, rfl, rfl, trivial⟩

def w_go2_131 (C : rCx) (Q : Int32 → rS → Prop) (B76 : Int32 → Int32 → Int32 → rS → Prop) (a1 : Int32) (a2 : Int32) (s1 : Int64) (s2 : Int64) (σ : rS) : Prop :=
  ∀ σ1, σ1 = slU σ 110 (s1 + s2) →
  (¬ (a2 = (4 : Int32)) →
    (¬ (a2 = (5 : Int32)) →
      w_go2_160 C Q B76 a1 a2 σ1) ∧
    (a2 = (5 : Int32) →
      cI C 4 m_chooses [.ref (co C)] σ1 (fun r3 σ2 =>
        w_go2_160 C Q B76 a1 r3 σ2))) ∧
  (a2 = (4 : Int32) →
    cI C 4 m_draws [.ref (co C)] σ1 (fun r5 σ4 =>
      w_go2_160 C Q B76 a1 r5 σ4))
theorem t_go2_131 {C : rCx} (hC : cOK C) {Q : Int32 → rS → Prop} {B76 : Int32 → Int32 → Int32 → rS → Prop} (hB76 : ∀ a1' a2' a3' τ, B76 a1' a2' a3' τ → wG C 10 m_go2 76 [some (.ref (co C)), some (.int a1'), some (.int a2'), some (.int a3'), none] [] τ (qI Q)) {a1 : Int32} {a2 : Int32} {s1 : Int64} {s2 : Int64} {σ : rS} (F : w_go2_131 C Q B76 a1 a2 s1 s2 σ) : wG C 10 m_go2 131 [some (.ref (co C)), some (.int a1), some (.int a2), none, none] [.long s2, .long s1, .ref (co C)] σ (qI Q) := by
  unfold w_go2_131 at F
  refine s_ladd dX13_go__131 ?_
  refine pf_850 hC dX13_go__132 rfl (fun σ1 eσ1 => ?_)
  replace F := F σ1 eσ1
  refine s_iln dX13_go__135 rfl ?_
  refine s_ic dX13_go__136 ki_4 ?_
  refine s_iin (t := 147) (a2 = (4 : Int32)) dX13_go__137 rfl rfl (fun hc => ?_) (fun hc => ?_)
  · replace F := F.1 hc
    refine s_iln dX13_go__147 rfl ?_
    refine s_ic dX13_go__148 ki_5 ?_
    refine s_iin (t := 159) (a2 = (5 : Int32)) dX13_go__149 rfl rfl (fun hc => ?_) (fun hc => ?_)
    · replace F := F.1 hc
      refine s_iln dX13_go__159 rfl ?_
      exact s_k (t_go2_160 hC hB76 F) ⟨rfl, rfl, trivial⟩
    · replace F := F.2 hc
      refine s_aln dX13_go__152 rfl ?_
      refine k_856 dX13_go__153 rfl (Nat.le_of_ble_eq_true rfl) (Nat.le_of_ble_eq_true rfl) F (fun r3 σ2 F => ?_)
      refine s_goto (t := 160) dX13_go__156 rfl ?_
      exact s_k (t_go2_160 hC hB76 F) ⟨rfl, rfl, trivial⟩
  · replace F := F.2 hc
    refine s_aln dX13_go__140 rfl ?_
    refine k_853 dX13_go__141 rfl (Nat.le_of_ble_eq_true rfl) (Nat.le_of_ble_eq_true rfl) F (fun r5 σ4 F => ?_)
    refine s_goto (t := 160) dX13_go__144 rfl ?_
    exact s_k (t_go2_160 hC hB76 F) ⟨rfl, rfl, trivial⟩

def w_go2_219 (C : rCx) (Q : Int32 → rS → Prop)  (a4 : Int32) (σ : rS) : Prop :=
  ∃ I : Nat → Int32 → rS → Prop, (∃ n, I n a4 σ) ∧ ∀ n a4 σ, I n a4 σ →
    ((34 : Int32) ≤ a4 →
      Q (σ.1 106) σ) ∧
    (¬ ((34 : Int32) ≤ a4) →
      inb a4 34 ∧
      inb a4 34 ∧
      ∀ σ1, σ1 = riU σ 111 (a4).toNatClampNeg (σ.2.2.1 57 (a4).toNatClampNeg) →
      ∀ v4_2 : Int32, v4_2 = a4 + (1 : Int32) →
      ∃ k < n, I k v4_2 σ1)
theorem t_go2_219 {C : rCx} (hC : cOK C) {Q : Int32 → rS → Prop}   {a4 : Int32} {σ : rS} (F : w_go2_219 C Q  a4 σ) : wG C 10 m_go2 219 [some (.ref (co C)), none, none, none, some (.int a4)] [] σ (qI Q) := by
  obtain ⟨I, ⟨n0, hI0⟩, F0⟩ := F
  have key : ∀ n a4 σ, I n a4 σ → wG C 10 m_go2 219 [some (.ref (co C)), none, none, none, some (.int a4)] [] σ (qI Q) := by
    intro n
    induction n using Nat.strongRecOn with
    | _ n ih =>
      intro a4 σ hI
      have F := F0 n a4 σ hI
      clear hI hI0
      refine s_il dX13_go__219 rfl ?_
      refine s_bi dX13_go__221 kb_34 ?_
      refine s_ii (t := 246) ((34 : Int32) ≤ a4) dX13_go__223 rfl rfl (fun hc => ?_) (fun hc => ?_)
      · replace F := F.1 hc
        refine s_aln dX13_go__246 rfl ?_
        refine gf_220 dX13_go__247 rfl ?_
        exact s_ri dX13_go__250 rfl in_nar F
      · replace F := F.2 hc
        refine s_aln dX13_go__226 rfl ?_
        refine gf_223 dX13_go__227 rfl ?_
        refine s_il dX13_go__230 rfl ?_
        refine s_aln dX13_go__232 rfl ?_
        refine gf_122 dX13_go__233 rfl ?_
        refine s_il dX13_go__236 rfl ?_
        refine s_ald hC dX13_go__238 rt_57 F.1 ?_
        replace F := F.2
        refine s_astb hC dX13_go__239 rt_111 F.1 (fun σ1 eσ1 => ?_)
        replace F := F.2 σ1 eσ1
        refine s_incb dX13_go__240 ki_1 rfl (Nat.le_of_ble_eq_true rfl) (fun v4_2 ev4_2 => ?_)
        replace F := F v4_2 ev4_2
        show wG _ _ _ _ [some (.ref (co C)), none, none, none, some (.int v4_2)] _ _ _
        refine s_goto (t := 219) dX13_go__243 rfl ?_
        obtain ⟨k, hk, hI⟩ := F
        exact s_k (ih k hk _ _ hI) ⟨rfl, rfl, trivial⟩
  exact key n0 a4 σ hI0

def w_go2_213 (C : rCx) (Q : Int32 → rS → Prop)  (s1 : Int32) (σ : rS) : Prop :=
  ∀ σ1, σ1 = siU σ 107 s1 →
  w_go2_219 C Q  (0 : Int32) σ1
theorem t_go2_213 {C : rCx} (hC : cOK C) {Q : Int32 → rS → Prop}   {s1 : Int32} {σ : rS} (F : w_go2_213 C Q  s1 σ) : wG C 10 m_go2 213 [some (.ref (co C)), none, none, none, none] [.int s1, .ref (co C)] σ (qI Q) := by
  unfold w_go2_213 at F
  refine pf_859 hC dX13_go__213 rfl (fun σ1 eσ1 => ?_)
  replace F := F σ1 eσ1
  refine s_ic dX13_go__216 ki_0 ?_
  refine s_is dX13_go__217 (Nat.le_of_ble_eq_true rfl) rfl ?_
  show wG _ _ _ _ [some (.ref (co C)), none, none, none, some (.int (0 : Int32))] _ _ _
  exact s_k (t_go2_219 hC  F) ⟨rfl, rfl, trivial⟩

def w_go2_205 (C : rCx) (Q : Int32 → rS → Prop)   (σ : rS) : Prop :=
  w_go2_213 C Q  (σ.1 61) σ
theorem t_go2_205 {C : rCx} (hC : cOK C) {Q : Int32 → rS → Prop}    {σ : rS} (F : w_go2_205 C Q   σ) : wG C 10 m_go2 205 [some (.ref (co C)), none, none, none, none] [.ref (co C)] σ (qI Q) := by
  unfold w_go2_205 at F
  refine s_aln dX13_go__205 rfl ?_
  refine gf_554 dX13_go__206 rfl ?_
  refine s_goto (t := 213) dX13_go__209 rfl ?_
  exact s_k (t_go2_213 hC  F) ⟨rfl, trivial⟩

def w_go2_185 (C : rCx) (Q : Int32 → rS → Prop)  (s1 : Int32) (σ : rS) : Prop :=
  ∀ σ1, σ1 = siU σ 106 s1 →
  ((σ1.1 106) = (1 : Int32) →
    w_go2_205 C Q   σ1) ∧
  (¬ ((σ1.1 106) = (1 : Int32)) →
    (¬ ((σ1.1 106) = (2 : Int32)) →
      w_go2_213 C Q  (0 : Int32) σ1) ∧
    ((σ1.1 106) = (2 : Int32) →
      w_go2_205 C Q   σ1))
theorem t_go2_185 {C : rCx} (hC : cOK C) {Q : Int32 → rS → Prop}   {s1 : Int32} {σ : rS} (F : w_go2_185 C Q  s1 σ) : wG C 10 m_go2 185 [some (.ref (co C)), none, none, none, none] [.int s1, .ref (co C)] σ (qI Q) := by
  unfold w_go2_185 at F
  refine pf_220 hC dX13_go__185 rfl (fun σ1 eσ1 => ?_)
  replace F := F σ1 eσ1
  refine s_aln dX13_go__188 rfl ?_
  refine s_aln dX13_go__189 rfl ?_
  refine gf_220 dX13_go__190 rfl ?_
  refine s_ic dX13_go__193 ki_1 ?_
  refine s_ii (t := 205) ((σ1.1 106) = (1 : Int32)) dX13_go__194 rfl rfl (fun hc => ?_) (fun hc => ?_)
  · replace F := F.1 hc
    exact s_k (t_go2_205 hC  F) ⟨rfl, trivial⟩
  · replace F := F.2 hc
    refine s_aln dX13_go__197 rfl ?_
    refine gf_220 dX13_go__198 rfl ?_
    refine s_ic dX13_go__201 ki_2 ?_
    refine s_iin (t := 212) ((σ1.1 106) = (2 : Int32)) dX13_go__202 rfl rfl (fun hc => ?_) (fun hc => ?_)
    · replace F := F.1 hc
      refine s_ic dX13_go__212 ki_0 ?_
      exact s_k (t_go2_213 hC  F) ⟨rfl, trivial⟩
    · replace F := F.2 hc
      exact s_k (t_go2_205 hC  F) ⟨rfl, trivial⟩

def w_go2_175 (C : rCx) (Q : Int32 → rS → Prop)  (a2 : Int32) (a3 : Int32) (σ : rS) : Prop :=
  (a3 = 0 →
    w_go2_185 C Q  a2 σ) ∧
  (¬ (a3 = 0) →
    w_go2_185 C Q  (0 : Int32) σ)
theorem t_go2_175 {C : rCx} (hC : cOK C) {Q : Int32 → rS → Prop}   {a2 : Int32} {a3 : Int32} {σ : rS} (F : w_go2_175 C Q  a2 a3 σ) : wG C 10 m_go2 175 [some (.ref (co C)), none, some (.int a2), some (.int a3), none] [] σ (qI Q) := by
  unfold w_go2_175 at F
  refine s_aln dX13_go__175 rfl ?_
  refine s_iln dX13_go__176 rfl ?_
  refine s_i (t := 184) (a3 = 0) dX13_go__177 rfl rfl (fun hc => ?_) (fun hc => ?_)
  · replace F := F.1 hc
    refine s_iln dX13_go__184 rfl ?_
    exact s_k (t_go2_185 hC  F) ⟨rfl, trivial⟩
  · replace F := F.2 hc
    refine s_ic dX13_go__180 ki_0 ?_
    refine s_goto (t := 185) dX13_go__181 rfl ?_
    exact s_k (t_go2_185 hC  F) ⟨rfl, trivial⟩

def w_go2_76 (C : rCx) (Q : Int32 → rS → Prop)  (a1 : Int32) (a2 : Int32) (a3 : Int32) (σ : rS) : Prop :=
  ∃ I : Nat → Int32 → Int32 → Int32 → rS → Prop, (∃ n, I n a1 a2 a3 σ) ∧ ∀ n a1 a2 a3 σ, I n a1 a2 a3 σ →
    (¬ (a2 = 0) →
      w_go2_175 C Q  a2 a3 σ) ∧
    (a2 = 0 →
      (¬ (a3 = 0) →
        w_go2_175 C Q  a2 a3 σ) ∧
      (a3 = 0 →
        (¬ ((σ.1 108) = a1) →
          cI C 9 m_act [.ref (co C)] σ (fun r2 σ1 =>
            ∀ σ3, σ3 = siU σ1 108 ((σ1.1 108) + (1 : Int32)) →
            (¬ (r2 = (2 : Int32)) →
              w_go2_131 C Q (fun a1' a2' a3' τ => ∃ k < n, I k a1' a2' a3' τ) a1 r2 (σ3.2.1 110) ((σ3.1 62)).toInt64 σ3) ∧
            (r2 = (2 : Int32) →
              w_go2_131 C Q (fun a1' a2' a3' τ => ∃ k < n, I k a1' a2' a3' τ) a1 r2 (σ3.2.1 110) (0 : Int64) σ3))) ∧
        ((σ.1 108) = a1 →
          ∃ k < n, I k a1 a2 (1 : Int32) σ)))
theorem t_go2_76 {C : rCx} (hC : cOK C) {Q : Int32 → rS → Prop}   {a1 : Int32} {a2 : Int32} {a3 : Int32} {σ : rS} (F : w_go2_76 C Q  a1 a2 a3 σ) : wG C 10 m_go2 76 [some (.ref (co C)), some (.int a1), some (.int a2), some (.int a3), none] [] σ (qI Q) := by
  obtain ⟨I, ⟨n0, hI0⟩, F0⟩ := F
  have key : ∀ n a1 a2 a3 σ, I n a1 a2 a3 σ → wG C 10 m_go2 76 [some (.ref (co C)), some (.int a1), some (.int a2), some (.int a3), none] [] σ (qI Q) := by
    intro n
    induction n using Nat.strongRecOn with
    | _ n ih =>
      intro a1 a2 a3 σ hI
      have F := F0 n a1 a2 a3 σ hI
      clear hI hI0
      refine s_iln dX13_go__76 rfl ?_
      refine s_in (t := 175) (a2 = 0) dX13_go__77 rfl rfl (fun hc => ?_) (fun hc => ?_)
      · replace F := F.1 hc
        exact s_k (t_go2_175 hC  F) ⟨rfl, rfl, rfl, trivial⟩
      · replace F := F.2 hc
        refine s_iln dX13_go__80 rfl ?_
        refine s_in (t := 175) (a3 = 0) dX13_go__81 rfl rfl (fun hc => ?_) (fun hc => ?_)
        · replace F := F.1 hc
          exact s_k (t_go2_175 hC  F) ⟨rfl, rfl, rfl, trivial⟩
        · replace F := F.2 hc
          refine s_aln dX13_go__84 rfl ?_
          refine gf_847 dX13_go__85 rfl ?_
          refine s_iln dX13_go__88 rfl ?_
          refine s_iin (t := 97) ((σ.1 108) = a1) dX13_go__89 rfl rfl (fun hc => ?_) (fun hc => ?_)
          · replace F := F.1 hc
            refine s_aln dX13_go__97 rfl ?_
            refine k_621 dX13_go__98 rfl (Nat.le_of_ble_eq_true rfl) (Nat.le_of_ble_eq_true rfl) F (fun r2 σ1 F => ?_)
            refine s_isn dX13_go__101 (Nat.le_of_ble_eq_true rfl) rfl ?_
            show wG _ _ _ _ [some (.ref (co C)), some (.int a1), some (.int r2), some (.int a3), none] _ _ _
            refine s_aln dX13_go__102 rfl ?_
            refine s_dup dX13_go__103 rfl ?_
            refine gf_847 dX13_go__104 rfl ?_
            refine s_ic dX13_go__107 ki_1 ?_
            refine s_iadd dX13_go__108 ?_
            refine pf_847 hC dX13_go__109 rfl (fun σ3 eσ3 => ?_)
            replace F := F σ3 eσ3
            refine s_aln dX13_go__112 rfl ?_
            refine s_dup dX13_go__113 rfl ?_
            refine gf_850 dX13_go__114 rfl ?_
            refine s_iln dX13_go__117 rfl ?_
            refine s_ic dX13_go__118 ki_2 ?_
            refine s_iin (t := 126) (r2 = (2 : Int32)) dX13_go__119 rfl rfl (fun hc => ?_) (fun hc => ?_)
            · replace F := F.1 hc
              refine s_aln dX13_go__126 rfl ?_
              refine gf_585 dX13_go__127 rfl ?_
              refine s_i2l dX13_go__130 ?_
              exact s_k (t_go2_131 hC (fun a1' a2' a3' τ hb => by obtain ⟨k, hk, hI⟩ := hb; exact ih k hk a1' a2' a3' τ hI) F) ⟨rfl, rfl, rfl, trivial⟩
            · replace F := F.2 hc
              refine s_lc dX13_go__122 kl_0 ?_
              refine s_goto (t := 131) dX13_go__123 rfl ?_
              exact s_k (t_go2_131 hC (fun a1' a2' a3' τ hb => by obtain ⟨k, hk, hI⟩ := hb; exact ih k hk a1' a2' a3' τ hI) F) ⟨rfl, rfl, rfl, trivial⟩
          · replace F := F.2 hc
            refine s_ic dX13_go__92 ki_1 ?_
            refine s_isn dX13_go__93 (Nat.le_of_ble_eq_true rfl) rfl ?_
            show wG _ _ _ _ [some (.ref (co C)), some (.int a1), some (.int a2), some (.int (1 : Int32)), none] _ _ _
            refine s_goto (t := 76) dX13_go__94 rfl ?_
            obtain ⟨k, hk, hI⟩ := F
            exact s_k (ih k hk _ _ _ _ hI) ⟨rfl, rfl, rfl, rfl, trivial⟩
  exact key n0 a1 a2 a3 σ hI0

def w_go2_28 (C : rCx) (Q : Int32 → rS → Prop)  (a1 : Int32) (s1 : Int32) (σ : rS) : Prop :=
  ∀ σ1, σ1 = siU σ 0 s1 →
  ((σ1.1 0) ≤ 0 →
    ∀ σ2, σ2 = siU σ1 108 (0 : Int32) →
    ∀ σ3, σ3 = siU σ2 109 (0 : Int32) →
    ∀ σ4, σ4 = slU σ3 110 (0 : Int64) →
    cV C 0 m_set [.ref (co C), .int (17 : Int32), .long (1 : Int64)] σ4 (fun σ5 =>
      cV C 0 m_set [.ref (co C), .int (18 : Int32), .long (1 : Int64)] σ5 (fun σ7 =>
        cI C 3 m_begin [.ref (co C)] σ7 (fun r10 σ9 =>
          w_go2_76 C Q  a1 r10 (0 : Int32) σ9)))) ∧
  (¬ ((σ1.1 0) ≤ 0) →
    Q (0 : Int32) σ1)
theorem t_go2_28 {C : rCx} (hC : cOK C) {Q : Int32 → rS → Prop}   {a1 : Int32} {s1 : Int32} {σ : rS} (F : w_go2_28 C Q  a1 s1 σ) : wG C 10 m_go2 28 [some (.ref (co C)), some (.int a1), none, none, none] [.int s1, .ref (co C)] σ (qI Q) := by
  unfold w_go2_28 at F
  refine pf_1 hC dX13_go__28 rfl (fun σ1 eσ1 => ?_)
  replace F := F σ1 eσ1
  refine s_aln dX13_go__31 rfl ?_
  refine gf_1 dX13_go__32 rfl ?_
  refine s_i (t := 40) ((σ1.1 0) ≤ 0) dX13_go__35 rfl rfl (fun hc => ?_) (fun hc => ?_)
  · replace F := F.1 hc
    refine s_aln dX13_go__40 rfl ?_
    refine s_ic dX13_go__41 ki_0 ?_
    refine pf_847 hC dX13_go__42 rfl (fun σ2 eσ2 => ?_)
    replace F := F σ2 eσ2
    refine s_aln dX13_go__45 rfl ?_
    refine s_ic dX13_go__46 ki_0 ?_
    refine pf_833 hC dX13_go__47 rfl (fun σ3 eσ3 => ?_)
    replace F := F σ3 eσ3
    refine s_aln dX13_go__50 rfl ?_
    refine s_lc dX13_go__51 kl_0 ?_
    refine pf_850 hC dX13_go__52 rfl (fun σ4 eσ4 => ?_)
    replace F := F σ4 eσ4
    refine s_aln dX13_go__55 rfl ?_
    refine s_bi dX13_go__56 kb_17 ?_
    refine s_lc dX13_go__58 kl_1 ?_
    refine k_699 dX13_go__59 rfl (Nat.le_of_ble_eq_true rfl) (Nat.le_of_ble_eq_true rfl) F (fun σ5 F => ?_)
    refine s_aln dX13_go__62 rfl ?_
    refine s_bi dX13_go__63 kb_18 ?_
    refine s_lc dX13_go__65 kl_1 ?_
    refine k_699 dX13_go__66 rfl (Nat.le_of_ble_eq_true rfl) (Nat.le_of_ble_eq_true rfl) F (fun σ7 F => ?_)
    refine s_aln dX13_go__69 rfl ?_
    refine k_631 dX13_go__70 rfl (Nat.le_of_ble_eq_true rfl) (Nat.le_of_ble_eq_true rfl) F (fun r10 σ9 F => ?_)
    refine s_isn dX13_go__73 (Nat.le_of_ble_eq_true rfl) rfl ?_
    show wG _ _ _ _ [some (.ref (co C)), some (.int a1), some (.int r10), none, none] _ _ _
    refine s_ic dX13_go__74 ki_0 ?_
    refine s_isn dX13_go__75 (Nat.le_of_ble_eq_true rfl) rfl ?_
    show wG _ _ _ _ [some (.ref (co C)), some (.int a1), some (.int r10), some (.int (0 : Int32)), none] _ _ _
    exact s_k (t_go2_76 hC  F) ⟨rfl, rfl, rfl, rfl, trivial⟩
  · replace F := F.2 hc
    refine s_ic dX13_go__38 ki_0 ?_
    exact s_ri dX13_go__39 rfl in_nar F

def w_go2_0 (C : rCx) (Q : Int32 → rS → Prop)  (a1 : Int32) (σ : rS) : Prop :=
  (¬ ((σ.1 14) = 0) →
    cI C 0 m_within [.int a1, .int (0 : Int32), .int (2000 : Int32)] σ (fun r2 σ1 =>
      (¬ (r2 = 0) →
        w_go2_28 C Q  a1 (0 : Int32) σ1) ∧
      (r2 = 0 →
        w_go2_28 C Q  a1 (2 : Int32) σ1))) ∧
  ((σ.1 14) = 0 →
    w_go2_28 C Q  a1 (1 : Int32) σ)
theorem t_go2_0 {C : rCx} (hC : cOK C) {Q : Int32 → rS → Prop}   {a1 : Int32} {σ : rS} (F : w_go2_0 C Q  a1 σ) : wG C 10 m_go2 0 [some (.ref (co C)), some (.int a1), none, none, none] [] σ (qI Q) := by
  unfold w_go2_0 at F
  refine s_aln dX13_go__0 rfl ?_
  refine s_aln dX13_go__1 rfl ?_
  refine gf_529 dX13_go__2 rfl ?_
  refine s_in (t := 12) ((σ.1 14) = 0) dX13_go__5 rfl rfl (fun hc => ?_) (fun hc => ?_)
  · replace F := F.1 hc
    refine s_iln dX13_go__12 rfl ?_
    refine s_ic dX13_go__13 ki_0 ?_
    refine s_si dX13_go__14 ks_2000 ?_
    refine k_362 dX13_go__17 rfl (Nat.le_of_ble_eq_true rfl) (Nat.le_of_ble_eq_true rfl) F (fun r2 σ1 F => ?_)
    refine s_in (t := 27) (r2 = 0) dX13_go__20 rfl rfl (fun hc => ?_) (fun hc => ?_)
    · replace F := F.1 hc
      refine s_ic dX13_go__27 ki_0 ?_
      exact s_k (t_go2_28 hC  F) ⟨rfl, rfl, trivial⟩
    · replace F := F.2 hc
      refine s_ic dX13_go__23 ki_2 ?_
      refine s_goto (t := 28) dX13_go__24 rfl ?_
      exact s_k (t_go2_28 hC  F) ⟨rfl, rfl, trivial⟩
  · replace F := F.2 hc
    refine s_ic dX13_go__8 ki_1 ?_
    refine s_goto (t := 28) dX13_go__9 rfl ?_
    exact s_k (t_go2_28 hC  F) ⟨rfl, rfl, trivial⟩

theorem m_go2_run {C : rCx} (hC : cOK C) {Q : Int32 → rS → Prop} {a1 : Int32} {σ : rS} (F : w_go2_0 C Q a1 σ) : cI C 10 m_go2 [.ref (co C), .int a1] σ Q := m_I (m_ent _ 3) (t_go2_0 hC F)

