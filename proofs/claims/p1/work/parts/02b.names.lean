def tyX13 : Nat → FieldType := fun k => match k with
  | 0 => .int
  | 1 => .array .byte
  | 2 => .int
  | 3 => .int
  | 4 => .int
  | 5 => .array .byte
  | 6 => .array .int
  | 7 => .array .int
  | 8 => .array .long
  | 9 => .array .int
  | 10 => .int
  | 11 => .int
  | 12 => .int
  | 13 => .int
  | 14 => .boolean
  | 15 => .int
  | 16 => .int
  | 17 => .int
  | 18 => .int
  | 19 => .int
  | 20 => .array .int
  | 21 => .array .int
  | 22 => .array .int
  | 23 => .array .int
  | 24 => .array .int
  | 25 => .array .int
  | 26 => .array .int
  | 27 => .array .int
  | 28 => .array .int
  | 29 => .array .int
  | 30 => .array .int
  | 31 => .array .int
  | 32 => .array .int
  | 33 => .array .int
  | 34 => .array .int
  | 35 => .array .int
  | 36 => .array .int
  | 37 => .array .int
  | 38 => .array .int
  | 39 => .array .int
  | 40 => .int
  | 41 => .int
  | 42 => .int
  | 43 => .array .int
  | 44 => .array .int
  | 45 => .array .boolean
  | 46 => .int
  | 47 => .int
  | 48 => .int
  | 49 => .int
  | 50 => .array .int
  | 51 => .array .int
  | 52 => .array .int
  | 53 => .int
  | 54 => .array .int
  | 55 => .int
  | 56 => .array .int
  | 57 => .array .int
  | 58 => .int
  | 59 => .array .int
  | 60 => .array .int
  | 61 => .int
  | 62 => .int
  | 63 => .int
  | 64 => .array .int
  | 65 => .array .int
  | 66 => .int
  | 67 => .int
  | 68 => .array .int
  | 69 => .boolean
  | 70 => .int
  | 71 => .int
  | 72 => .int
  | 73 => .array .int
  | 74 => .array .int
  | 75 => .array .int
  | 76 => .array .int
  | 77 => .array .int
  | 78 => .array .int
  | 79 => .array .int
  | 80 => .array .int
  | 81 => .array .boolean
  | 82 => .array .int
  | 83 => .array .int
  | 84 => .array .int
  | 85 => .int
  | 86 => .array .long
  | 87 => .array .boolean
  | 88 => .int
  | 89 => .int
  | 90 => .array .int
  | 91 => .array .int
  | 92 => .int
  | 93 => .array .int
  | 94 => .boolean
  | 95 => .array .boolean
  | 96 => .array .boolean
  | 97 => .array .int
  | 98 => .array .int
  | 99 => .array .int
  | 100 => .int
  | 101 => .array .int
  | 102 => .array .int
  | 103 => .boolean
  | 104 => .int
  | 105 => .array .int
  | 106 => .int
  | 107 => .int
  | 108 => .int
  | 109 => .int
  | 110 => .long
  | 111 => .array .int
  | 112 => .long
  | 113 => .boolean
  | 114 => .boolean
  | 115 => .array .int
  | 116 => .array .int
  | 117 => .array .int
  | 118 => .array .int
  | 119 => .array .int
  | 120 => .array .boolean
  | 121 => .array .int
  | 122 => .array .int
  | 123 => .array .int
  | 124 => .int
  | _ => .int
theorem nmX13 : ∀ a, a < 126 → ∀ b, b < 126 → a ≠ b → (TX13 a).2.1 ≠ (TX13 b).2.1 := by decide +kernel
theorem tyX13_ok : ∀ k, k < 126 → parseFieldDescriptor (TX13 k).2.2.1 = some (tyX13 k) := by decide +kernel
abbrev cX13_init : ByteArray := prog_15_method_2_code
def yX13_init : MethodName := ⟨RX13, "<init>", "()V"⟩
theorem dX13_init_0 : decode cX13_init 0 = .ok (.aload_n 0, 1) := by decide +kernel
theorem dX13_init_1 : decode cX13_init 1 = .ok (.invokespecial 7, 3) := by decide +kernel
theorem dX13_init_4 : decode cX13_init 4 = .ok (.aload_n 0, 1) := by decide +kernel
theorem dX13_init_5 : decode cX13_init 5 = .ok (.ldc 13, 2) := by decide +kernel
theorem dX13_init_7 : decode cX13_init 7 = .ok (.newarray .byte, 2) := by decide +kernel
theorem dX13_init_9 : decode cX13_init 9 = .ok (.putfield 14, 3) := by decide +kernel
theorem dX13_init_12 : decode cX13_init 12 = .ok (.aload_n 0, 1) := by decide +kernel
theorem dX13_init_13 : decode cX13_init 13 = .ok (.ldc 18, 2) := by decide +kernel
theorem dX13_init_15 : decode cX13_init 15 = .ok (.newarray .byte, 2) := by decide +kernel
theorem dX13_init_17 : decode cX13_init 17 = .ok (.putfield 19, 3) := by decide +kernel
theorem dX13_init_20 : decode cX13_init 20 = .ok (.aload_n 0, 1) := by decide +kernel
theorem dX13_init_21 : decode cX13_init 21 = .ok (.ldc 18, 2) := by decide +kernel
theorem dX13_init_23 : decode cX13_init 23 = .ok (.newarray .int, 2) := by decide +kernel
theorem dX13_init_25 : decode cX13_init 25 = .ok (.putfield 22, 3) := by decide +kernel
theorem dX13_init_28 : decode cX13_init 28 = .ok (.aload_n 0, 1) := by decide +kernel
theorem dX13_init_29 : decode cX13_init 29 = .ok (.ldc 18, 2) := by decide +kernel
theorem dX13_init_31 : decode cX13_init 31 = .ok (.newarray .int, 2) := by decide +kernel
theorem dX13_init_33 : decode cX13_init 33 = .ok (.putfield 26, 3) := by decide +kernel
theorem dX13_init_36 : decode cX13_init 36 = .ok (.aload_n 0, 1) := by decide +kernel
theorem dX13_init_37 : decode cX13_init 37 = .ok (.ldc 18, 2) := by decide +kernel
theorem dX13_init_39 : decode cX13_init 39 = .ok (.newarray .long, 2) := by decide +kernel
theorem dX13_init_41 : decode cX13_init 41 = .ok (.putfield 29, 3) := by decide +kernel
theorem dX13_init_44 : decode cX13_init 44 = .ok (.aload_n 0, 1) := by decide +kernel
theorem dX13_init_45 : decode cX13_init 45 = .ok (.ldc 18, 2) := by decide +kernel
theorem dX13_init_47 : decode cX13_init 47 = .ok (.newarray .int, 2) := by decide +kernel
theorem dX13_init_49 : decode cX13_init 49 = .ok (.putfield 33, 3) := by decide +kernel
theorem dX13_init_52 : decode cX13_init 52 = .ok (.aload_n 0, 1) := by decide +kernel
theorem dX13_init_53 : decode cX13_init 53 = .ok (.bipush 10, 2) := by decide +kernel
theorem dX13_init_55 : decode cX13_init 55 = .ok (.newarray .int, 2) := by decide +kernel
theorem dX13_init_57 : decode cX13_init 57 = .ok (.putfield 36, 3) := by decide +kernel
theorem dX13_init_60 : decode cX13_init 60 = .ok (.aload_n 0, 1) := by decide +kernel
theorem dX13_init_61 : decode cX13_init 61 = .ok (.bipush 10, 2) := by decide +kernel
theorem dX13_init_63 : decode cX13_init 63 = .ok (.newarray .int, 2) := by decide +kernel
theorem dX13_init_65 : decode cX13_init 65 = .ok (.putfield 39, 3) := by decide +kernel
theorem dX13_init_68 : decode cX13_init 68 = .ok (.aload_n 0, 1) := by decide +kernel
theorem dX13_init_69 : decode cX13_init 69 = .ok (.iconst 3, 1) := by decide +kernel
theorem dX13_init_70 : decode cX13_init 70 = .ok (.newarray .int, 2) := by decide +kernel
theorem dX13_init_72 : decode cX13_init 72 = .ok (.putfield 42, 3) := by decide +kernel
theorem dX13_init_75 : decode cX13_init 75 = .ok (.aload_n 0, 1) := by decide +kernel
theorem dX13_init_76 : decode cX13_init 76 = .ok (.iconst 3, 1) := by decide +kernel
theorem dX13_init_77 : decode cX13_init 77 = .ok (.newarray .int, 2) := by decide +kernel
theorem dX13_init_79 : decode cX13_init 79 = .ok (.putfield 45, 3) := by decide +kernel
theorem dX13_init_82 : decode cX13_init 82 = .ok (.aload_n 0, 1) := by decide +kernel
theorem dX13_init_83 : decode cX13_init 83 = .ok (.iconst 3, 1) := by decide +kernel
theorem dX13_init_84 : decode cX13_init 84 = .ok (.newarray .int, 2) := by decide +kernel
theorem dX13_init_86 : decode cX13_init 86 = .ok (.putfield 48, 3) := by decide +kernel
theorem dX13_init_89 : decode cX13_init 89 = .ok (.aload_n 0, 1) := by decide +kernel
theorem dX13_init_90 : decode cX13_init 90 = .ok (.bipush 10, 2) := by decide +kernel
theorem dX13_init_92 : decode cX13_init 92 = .ok (.newarray .int, 2) := by decide +kernel
theorem dX13_init_94 : decode cX13_init 94 = .ok (.putfield 51, 3) := by decide +kernel
theorem dX13_init_97 : decode cX13_init 97 = .ok (.aload_n 0, 1) := by decide +kernel
theorem dX13_init_98 : decode cX13_init 98 = .ok (.bipush 10, 2) := by decide +kernel
theorem dX13_init_100 : decode cX13_init 100 = .ok (.newarray .int, 2) := by decide +kernel
theorem dX13_init_102 : decode cX13_init 102 = .ok (.putfield 54, 3) := by decide +kernel
theorem dX13_init_105 : decode cX13_init 105 = .ok (.aload_n 0, 1) := by decide +kernel
theorem dX13_init_106 : decode cX13_init 106 = .ok (.bipush 10, 2) := by decide +kernel
theorem dX13_init_108 : decode cX13_init 108 = .ok (.newarray .int, 2) := by decide +kernel
theorem dX13_init_110 : decode cX13_init 110 = .ok (.putfield 57, 3) := by decide +kernel
theorem dX13_init_113 : decode cX13_init 113 = .ok (.aload_n 0, 1) := by decide +kernel
theorem dX13_init_114 : decode cX13_init 114 = .ok (.bipush 80, 2) := by decide +kernel
theorem dX13_init_116 : decode cX13_init 116 = .ok (.newarray .int, 2) := by decide +kernel
theorem dX13_init_118 : decode cX13_init 118 = .ok (.putfield 60, 3) := by decide +kernel
theorem dX13_init_121 : decode cX13_init 121 = .ok (.aload_n 0, 1) := by decide +kernel
theorem dX13_init_122 : decode cX13_init 122 = .ok (.bipush 10, 2) := by decide +kernel
theorem dX13_init_124 : decode cX13_init 124 = .ok (.newarray .int, 2) := by decide +kernel
theorem dX13_init_126 : decode cX13_init 126 = .ok (.putfield 63, 3) := by decide +kernel
theorem dX13_init_129 : decode cX13_init 129 = .ok (.aload_n 0, 1) := by decide +kernel
theorem dX13_init_130 : decode cX13_init 130 = .ok (.sipush 150, 3) := by decide +kernel
theorem dX13_init_133 : decode cX13_init 133 = .ok (.newarray .int, 2) := by decide +kernel
theorem dX13_init_135 : decode cX13_init 135 = .ok (.putfield 66, 3) := by decide +kernel
theorem dX13_init_138 : decode cX13_init 138 = .ok (.aload_n 0, 1) := by decide +kernel
theorem dX13_init_139 : decode cX13_init 139 = .ok (.sipush 150, 3) := by decide +kernel
theorem dX13_init_142 : decode cX13_init 142 = .ok (.newarray .int, 2) := by decide +kernel
theorem dX13_init_144 : decode cX13_init 144 = .ok (.putfield 69, 3) := by decide +kernel
theorem dX13_init_147 : decode cX13_init 147 = .ok (.aload_n 0, 1) := by decide +kernel
theorem dX13_init_148 : decode cX13_init 148 = .ok (.sipush 150, 3) := by decide +kernel
theorem dX13_init_151 : decode cX13_init 151 = .ok (.newarray .int, 2) := by decide +kernel
theorem dX13_init_153 : decode cX13_init 153 = .ok (.putfield 72, 3) := by decide +kernel
theorem dX13_init_156 : decode cX13_init 156 = .ok (.aload_n 0, 1) := by decide +kernel
theorem dX13_init_157 : decode cX13_init 157 = .ok (.sipush 150, 3) := by decide +kernel
theorem dX13_init_160 : decode cX13_init 160 = .ok (.newarray .int, 2) := by decide +kernel
theorem dX13_init_162 : decode cX13_init 162 = .ok (.putfield 75, 3) := by decide +kernel
theorem dX13_init_165 : decode cX13_init 165 = .ok (.aload_n 0, 1) := by decide +kernel
theorem dX13_init_166 : decode cX13_init 166 = .ok (.sipush 150, 3) := by decide +kernel
theorem dX13_init_169 : decode cX13_init 169 = .ok (.newarray .int, 2) := by decide +kernel
theorem dX13_init_171 : decode cX13_init 171 = .ok (.putfield 78, 3) := by decide +kernel
theorem dX13_init_174 : decode cX13_init 174 = .ok (.aload_n 0, 1) := by decide +kernel
theorem dX13_init_175 : decode cX13_init 175 = .ok (.sipush 150, 3) := by decide +kernel
theorem dX13_init_178 : decode cX13_init 178 = .ok (.newarray .int, 2) := by decide +kernel
theorem dX13_init_180 : decode cX13_init 180 = .ok (.putfield 81, 3) := by decide +kernel
theorem dX13_init_183 : decode cX13_init 183 = .ok (.aload_n 0, 1) := by decide +kernel
theorem dX13_init_184 : decode cX13_init 184 = .ok (.sipush 150, 3) := by decide +kernel
theorem dX13_init_187 : decode cX13_init 187 = .ok (.newarray .int, 2) := by decide +kernel
theorem dX13_init_189 : decode cX13_init 189 = .ok (.putfield 84, 3) := by decide +kernel
theorem dX13_init_192 : decode cX13_init 192 = .ok (.aload_n 0, 1) := by decide +kernel
theorem dX13_init_193 : decode cX13_init 193 = .ok (.sipush 150, 3) := by decide +kernel
theorem dX13_init_196 : decode cX13_init 196 = .ok (.newarray .int, 2) := by decide +kernel
theorem dX13_init_198 : decode cX13_init 198 = .ok (.putfield 87, 3) := by decide +kernel
theorem dX13_init_201 : decode cX13_init 201 = .ok (.aload_n 0, 1) := by decide +kernel
theorem dX13_init_202 : decode cX13_init 202 = .ok (.sipush 150, 3) := by decide +kernel
theorem dX13_init_205 : decode cX13_init 205 = .ok (.newarray .int, 2) := by decide +kernel
theorem dX13_init_207 : decode cX13_init 207 = .ok (.putfield 90, 3) := by decide +kernel
theorem dX13_init_210 : decode cX13_init 210 = .ok (.aload_n 0, 1) := by decide +kernel
theorem dX13_init_211 : decode cX13_init 211 = .ok (.ldc 18, 2) := by decide +kernel
theorem dX13_init_213 : decode cX13_init 213 = .ok (.newarray .int, 2) := by decide +kernel
theorem dX13_init_215 : decode cX13_init 215 = .ok (.putfield 93, 3) := by decide +kernel
theorem dX13_init_218 : decode cX13_init 218 = .ok (.aload_n 0, 1) := by decide +kernel
theorem dX13_init_219 : decode cX13_init 219 = .ok (.bipush 64, 2) := by decide +kernel
theorem dX13_init_221 : decode cX13_init 221 = .ok (.newarray .int, 2) := by decide +kernel
theorem dX13_init_223 : decode cX13_init 223 = .ok (.putfield 96, 3) := by decide +kernel
theorem dX13_init_226 : decode cX13_init 226 = .ok (.aload_n 0, 1) := by decide +kernel
theorem dX13_init_227 : decode cX13_init 227 = .ok (.bipush 64, 2) := by decide +kernel
theorem dX13_init_229 : decode cX13_init 229 = .ok (.newarray .int, 2) := by decide +kernel
theorem dX13_init_231 : decode cX13_init 231 = .ok (.putfield 99, 3) := by decide +kernel
theorem dX13_init_234 : decode cX13_init 234 = .ok (.aload_n 0, 1) := by decide +kernel
theorem dX13_init_235 : decode cX13_init 235 = .ok (.bipush 64, 2) := by decide +kernel
theorem dX13_init_237 : decode cX13_init 237 = .ok (.newarray .boolean, 2) := by decide +kernel
theorem dX13_init_239 : decode cX13_init 239 = .ok (.putfield 102, 3) := by decide +kernel
theorem dX13_init_242 : decode cX13_init 242 = .ok (.aload_n 0, 1) := by decide +kernel
theorem dX13_init_243 : decode cX13_init 243 = .ok (.ldc 106, 2) := by decide +kernel
theorem dX13_init_245 : decode cX13_init 245 = .ok (.newarray .int, 2) := by decide +kernel
theorem dX13_init_247 : decode cX13_init 247 = .ok (.putfield 107, 3) := by decide +kernel
theorem dX13_init_250 : decode cX13_init 250 = .ok (.aload_n 0, 1) := by decide +kernel
theorem dX13_init_251 : decode cX13_init 251 = .ok (.ldc 106, 2) := by decide +kernel
theorem dX13_init_253 : decode cX13_init 253 = .ok (.newarray .int, 2) := by decide +kernel
theorem dX13_init_255 : decode cX13_init 255 = .ok (.putfield 110, 3) := by decide +kernel
theorem dX13_init_258 : decode cX13_init 258 = .ok (.aload_n 0, 1) := by decide +kernel
theorem dX13_init_259 : decode cX13_init 259 = .ok (.ldc 106, 2) := by decide +kernel
theorem dX13_init_261 : decode cX13_init 261 = .ok (.newarray .int, 2) := by decide +kernel
theorem dX13_init_263 : decode cX13_init 263 = .ok (.putfield 113, 3) := by decide +kernel
theorem dX13_init_266 : decode cX13_init 266 = .ok (.aload_n 0, 1) := by decide +kernel
theorem dX13_init_267 : decode cX13_init 267 = .ok (.sipush 2048, 3) := by decide +kernel
theorem dX13_init_270 : decode cX13_init 270 = .ok (.newarray .int, 2) := by decide +kernel
theorem dX13_init_272 : decode cX13_init 272 = .ok (.putfield 116, 3) := by decide +kernel
theorem dX13_init_275 : decode cX13_init 275 = .ok (.aload_n 0, 1) := by decide +kernel
theorem dX13_init_276 : decode cX13_init 276 = .ok (.bipush 8, 2) := by decide +kernel
theorem dX13_init_278 : decode cX13_init 278 = .ok (.newarray .int, 2) := by decide +kernel
theorem dX13_init_280 : decode cX13_init 280 = .ok (.putfield 119, 3) := by decide +kernel
theorem dX13_init_283 : decode cX13_init 283 = .ok (.aload_n 0, 1) := by decide +kernel
theorem dX13_init_284 : decode cX13_init 284 = .ok (.bipush 34, 2) := by decide +kernel
theorem dX13_init_286 : decode cX13_init 286 = .ok (.newarray .int, 2) := by decide +kernel
theorem dX13_init_288 : decode cX13_init 288 = .ok (.putfield 122, 3) := by decide +kernel
theorem dX13_init_291 : decode cX13_init 291 = .ok (.aload_n 0, 1) := by decide +kernel
theorem dX13_init_292 : decode cX13_init 292 = .ok (.bipush 12, 2) := by decide +kernel
theorem dX13_init_294 : decode cX13_init 294 = .ok (.newarray .int, 2) := by decide +kernel
theorem dX13_init_296 : decode cX13_init 296 = .ok (.putfield 125, 3) := by decide +kernel
theorem dX13_init_299 : decode cX13_init 299 = .ok (.aload_n 0, 1) := by decide +kernel
theorem dX13_init_300 : decode cX13_init 300 = .ok (.bipush 96, 2) := by decide +kernel
theorem dX13_init_302 : decode cX13_init 302 = .ok (.newarray .int, 2) := by decide +kernel
theorem dX13_init_304 : decode cX13_init 304 = .ok (.putfield 128, 3) := by decide +kernel
theorem dX13_init_307 : decode cX13_init 307 = .ok (.aload_n 0, 1) := by decide +kernel
theorem dX13_init_308 : decode cX13_init 308 = .ok (.bipush 64, 2) := by decide +kernel
theorem dX13_init_310 : decode cX13_init 310 = .ok (.newarray .int, 2) := by decide +kernel
theorem dX13_init_312 : decode cX13_init 312 = .ok (.putfield 131, 3) := by decide +kernel
theorem dX13_init_315 : decode cX13_init 315 = .ok (.aload_n 0, 1) := by decide +kernel
theorem dX13_init_316 : decode cX13_init 316 = .ok (.bipush 64, 2) := by decide +kernel
theorem dX13_init_318 : decode cX13_init 318 = .ok (.newarray .int, 2) := by decide +kernel
theorem dX13_init_320 : decode cX13_init 320 = .ok (.putfield 134, 3) := by decide +kernel
theorem dX13_init_323 : decode cX13_init 323 = .ok (.aload_n 0, 1) := by decide +kernel
theorem dX13_init_324 : decode cX13_init 324 = .ok (.iconst 4, 1) := by decide +kernel
theorem dX13_init_325 : decode cX13_init 325 = .ok (.newarray .int, 2) := by decide +kernel
theorem dX13_init_327 : decode cX13_init 327 = .ok (.putfield 137, 3) := by decide +kernel
theorem dX13_init_330 : decode cX13_init 330 = .ok (.aload_n 0, 1) := by decide +kernel
theorem dX13_init_331 : decode cX13_init 331 = .ok (.ldc 140, 2) := by decide +kernel
theorem dX13_init_333 : decode cX13_init 333 = .ok (.newarray .int, 2) := by decide +kernel
theorem dX13_init_335 : decode cX13_init 335 = .ok (.putfield 141, 3) := by decide +kernel
theorem dX13_init_338 : decode cX13_init 338 = .ok (.aload_n 0, 1) := by decide +kernel
theorem dX13_init_339 : decode cX13_init 339 = .ok (.sipush 1000, 3) := by decide +kernel
theorem dX13_init_342 : decode cX13_init 342 = .ok (.newarray .int, 2) := by decide +kernel
theorem dX13_init_344 : decode cX13_init 344 = .ok (.putfield 144, 3) := by decide +kernel
theorem dX13_init_347 : decode cX13_init 347 = .ok (.aload_n 0, 1) := by decide +kernel
theorem dX13_init_348 : decode cX13_init 348 = .ok (.ldc 147, 2) := by decide +kernel
theorem dX13_init_350 : decode cX13_init 350 = .ok (.newarray .int, 2) := by decide +kernel
theorem dX13_init_352 : decode cX13_init 352 = .ok (.putfield 148, 3) := by decide +kernel
theorem dX13_init_355 : decode cX13_init 355 = .ok (.aload_n 0, 1) := by decide +kernel
theorem dX13_init_356 : decode cX13_init 356 = .ok (.sipush 1001, 3) := by decide +kernel
theorem dX13_init_359 : decode cX13_init 359 = .ok (.newarray .int, 2) := by decide +kernel
theorem dX13_init_361 : decode cX13_init 361 = .ok (.putfield 151, 3) := by decide +kernel
theorem dX13_init_364 : decode cX13_init 364 = .ok (.aload_n 0, 1) := by decide +kernel
theorem dX13_init_365 : decode cX13_init 365 = .ok (.sipush 20000, 3) := by decide +kernel
theorem dX13_init_368 : decode cX13_init 368 = .ok (.newarray .int, 2) := by decide +kernel
theorem dX13_init_370 : decode cX13_init 370 = .ok (.putfield 154, 3) := by decide +kernel
theorem dX13_init_373 : decode cX13_init 373 = .ok (.aload_n 0, 1) := by decide +kernel
theorem dX13_init_374 : decode cX13_init 374 = .ok (.sipush 20000, 3) := by decide +kernel
theorem dX13_init_377 : decode cX13_init 377 = .ok (.newarray .int, 2) := by decide +kernel
theorem dX13_init_379 : decode cX13_init 379 = .ok (.putfield 157, 3) := by decide +kernel
theorem dX13_init_382 : decode cX13_init 382 = .ok (.aload_n 0, 1) := by decide +kernel
theorem dX13_init_383 : decode cX13_init 383 = .ok (.sipush 20000, 3) := by decide +kernel
theorem dX13_init_386 : decode cX13_init 386 = .ok (.newarray .int, 2) := by decide +kernel
theorem dX13_init_388 : decode cX13_init 388 = .ok (.putfield 160, 3) := by decide +kernel
theorem dX13_init_391 : decode cX13_init 391 = .ok (.aload_n 0, 1) := by decide +kernel
theorem dX13_init_392 : decode cX13_init 392 = .ok (.sipush 1000, 3) := by decide +kernel
theorem dX13_init_395 : decode cX13_init 395 = .ok (.newarray .int, 2) := by decide +kernel
theorem dX13_init_397 : decode cX13_init 397 = .ok (.putfield 163, 3) := by decide +kernel
theorem dX13_init_400 : decode cX13_init 400 = .ok (.aload_n 0, 1) := by decide +kernel
theorem dX13_init_401 : decode cX13_init 401 = .ok (.sipush 1000, 3) := by decide +kernel
theorem dX13_init_404 : decode cX13_init 404 = .ok (.newarray .boolean, 2) := by decide +kernel
theorem dX13_init_406 : decode cX13_init 406 = .ok (.putfield 166, 3) := by decide +kernel
theorem dX13_init_409 : decode cX13_init 409 = .ok (.aload_n 0, 1) := by decide +kernel
theorem dX13_init_410 : decode cX13_init 410 = .ok (.sipush 1000, 3) := by decide +kernel
theorem dX13_init_413 : decode cX13_init 413 = .ok (.newarray .int, 2) := by decide +kernel
theorem dX13_init_415 : decode cX13_init 415 = .ok (.putfield 169, 3) := by decide +kernel
theorem dX13_init_418 : decode cX13_init 418 = .ok (.aload_n 0, 1) := by decide +kernel
theorem dX13_init_419 : decode cX13_init 419 = .ok (.sipush 1000, 3) := by decide +kernel
theorem dX13_init_422 : decode cX13_init 422 = .ok (.newarray .int, 2) := by decide +kernel
theorem dX13_init_424 : decode cX13_init 424 = .ok (.putfield 172, 3) := by decide +kernel
theorem dX13_init_427 : decode cX13_init 427 = .ok (.aload_n 0, 1) := by decide +kernel
theorem dX13_init_428 : decode cX13_init 428 = .ok (.sipush 143, 3) := by decide +kernel
theorem dX13_init_431 : decode cX13_init 431 = .ok (.newarray .int, 2) := by decide +kernel
theorem dX13_init_433 : decode cX13_init 433 = .ok (.putfield 175, 3) := by decide +kernel
theorem dX13_init_436 : decode cX13_init 436 = .ok (.aload_n 0, 1) := by decide +kernel
theorem dX13_init_437 : decode cX13_init 437 = .ok (.sipush 16000, 3) := by decide +kernel
theorem dX13_init_440 : decode cX13_init 440 = .ok (.newarray .long, 2) := by decide +kernel
theorem dX13_init_442 : decode cX13_init 442 = .ok (.putfield 178, 3) := by decide +kernel
theorem dX13_init_445 : decode cX13_init 445 = .ok (.aload_n 0, 1) := by decide +kernel
theorem dX13_init_446 : decode cX13_init 446 = .ok (.sipush 1000, 3) := by decide +kernel
theorem dX13_init_449 : decode cX13_init 449 = .ok (.newarray .boolean, 2) := by decide +kernel
theorem dX13_init_451 : decode cX13_init 451 = .ok (.putfield 181, 3) := by decide +kernel
theorem dX13_init_454 : decode cX13_init 454 = .ok (.aload_n 0, 1) := by decide +kernel
theorem dX13_init_455 : decode cX13_init 455 = .ok (.ldc 184, 2) := by decide +kernel
theorem dX13_init_457 : decode cX13_init 457 = .ok (.newarray .int, 2) := by decide +kernel
theorem dX13_init_459 : decode cX13_init 459 = .ok (.putfield 185, 3) := by decide +kernel
theorem dX13_init_462 : decode cX13_init 462 = .ok (.aload_n 0, 1) := by decide +kernel
theorem dX13_init_463 : decode cX13_init 463 = .ok (.bipush 30, 2) := by decide +kernel
theorem dX13_init_465 : decode cX13_init 465 = .ok (.newarray .int, 2) := by decide +kernel
theorem dX13_init_467 : decode cX13_init 467 = .ok (.putfield 188, 3) := by decide +kernel
theorem dX13_init_470 : decode cX13_init 470 = .ok (.aload_n 0, 1) := by decide +kernel
theorem dX13_init_471 : decode cX13_init 471 = .ok (.ldc 191, 2) := by decide +kernel
theorem dX13_init_473 : decode cX13_init 473 = .ok (.newarray .int, 2) := by decide +kernel
theorem dX13_init_475 : decode cX13_init 475 = .ok (.putfield 192, 3) := by decide +kernel
theorem dX13_init_478 : decode cX13_init 478 = .ok (.aload_n 0, 1) := by decide +kernel
theorem dX13_init_479 : decode cX13_init 479 = .ok (.sipush 1000, 3) := by decide +kernel
theorem dX13_init_482 : decode cX13_init 482 = .ok (.newarray .boolean, 2) := by decide +kernel
theorem dX13_init_484 : decode cX13_init 484 = .ok (.putfield 195, 3) := by decide +kernel
theorem dX13_init_487 : decode cX13_init 487 = .ok (.aload_n 0, 1) := by decide +kernel
theorem dX13_init_488 : decode cX13_init 488 = .ok (.sipush 1000, 3) := by decide +kernel
theorem dX13_init_491 : decode cX13_init 491 = .ok (.newarray .boolean, 2) := by decide +kernel
theorem dX13_init_493 : decode cX13_init 493 = .ok (.putfield 198, 3) := by decide +kernel
theorem dX13_init_496 : decode cX13_init 496 = .ok (.aload_n 0, 1) := by decide +kernel
theorem dX13_init_497 : decode cX13_init 497 = .ok (.sipush 1000, 3) := by decide +kernel
theorem dX13_init_500 : decode cX13_init 500 = .ok (.newarray .int, 2) := by decide +kernel
theorem dX13_init_502 : decode cX13_init 502 = .ok (.putfield 201, 3) := by decide +kernel
theorem dX13_init_505 : decode cX13_init 505 = .ok (.aload_n 0, 1) := by decide +kernel
theorem dX13_init_506 : decode cX13_init 506 = .ok (.sipush 1000, 3) := by decide +kernel
theorem dX13_init_509 : decode cX13_init 509 = .ok (.newarray .int, 2) := by decide +kernel
theorem dX13_init_511 : decode cX13_init 511 = .ok (.putfield 204, 3) := by decide +kernel
theorem dX13_init_514 : decode cX13_init 514 = .ok (.aload_n 0, 1) := by decide +kernel
theorem dX13_init_515 : decode cX13_init 515 = .ok (.sipush 1000, 3) := by decide +kernel
theorem dX13_init_518 : decode cX13_init 518 = .ok (.newarray .int, 2) := by decide +kernel
theorem dX13_init_520 : decode cX13_init 520 = .ok (.putfield 207, 3) := by decide +kernel
theorem dX13_init_523 : decode cX13_init 523 = .ok (.aload_n 0, 1) := by decide +kernel
theorem dX13_init_524 : decode cX13_init 524 = .ok (.sipush 1000, 3) := by decide +kernel
theorem dX13_init_527 : decode cX13_init 527 = .ok (.newarray .int, 2) := by decide +kernel
theorem dX13_init_529 : decode cX13_init 529 = .ok (.putfield 210, 3) := by decide +kernel
theorem dX13_init_532 : decode cX13_init 532 = .ok (.aload_n 0, 1) := by decide +kernel
theorem dX13_init_533 : decode cX13_init 533 = .ok (.ldc 213, 2) := by decide +kernel
theorem dX13_init_535 : decode cX13_init 535 = .ok (.newarray .int, 2) := by decide +kernel
theorem dX13_init_537 : decode cX13_init 537 = .ok (.putfield 214, 3) := by decide +kernel
theorem dX13_init_540 : decode cX13_init 540 = .ok (.aload_n 0, 1) := by decide +kernel
theorem dX13_init_541 : decode cX13_init 541 = .ok (.sipush 200, 3) := by decide +kernel
theorem dX13_init_544 : decode cX13_init 544 = .ok (.newarray .int, 2) := by decide +kernel
theorem dX13_init_546 : decode cX13_init 546 = .ok (.putfield 217, 3) := by decide +kernel
theorem dX13_init_549 : decode cX13_init 549 = .ok (.aload_n 0, 1) := by decide +kernel
theorem dX13_init_550 : decode cX13_init 550 = .ok (.iconst (-1), 1) := by decide +kernel
theorem dX13_init_551 : decode cX13_init 551 = .ok (.putfield 220, 3) := by decide +kernel
theorem dX13_init_554 : decode cX13_init 554 = .ok (.aload_n 0, 1) := by decide +kernel
theorem dX13_init_555 : decode cX13_init 555 = .ok (.bipush 34, 2) := by decide +kernel
theorem dX13_init_557 : decode cX13_init 557 = .ok (.newarray .int, 2) := by decide +kernel
theorem dX13_init_559 : decode cX13_init 559 = .ok (.putfield 223, 3) := by decide +kernel
theorem dX13_init_562 : decode cX13_init 562 = .ok (.aload_n 0, 1) := by decide +kernel
theorem dX13_init_563 : decode cX13_init 563 = .ok (.ldc 213, 2) := by decide +kernel
theorem dX13_init_565 : decode cX13_init 565 = .ok (.newarray .int, 2) := by decide +kernel
theorem dX13_init_567 : decode cX13_init 567 = .ok (.putfield 226, 3) := by decide +kernel
theorem dX13_init_570 : decode cX13_init 570 = .ok (.aload_n 0, 1) := by decide +kernel
theorem dX13_init_571 : decode cX13_init 571 = .ok (.sipush 1000, 3) := by decide +kernel
theorem dX13_init_574 : decode cX13_init 574 = .ok (.newarray .int, 2) := by decide +kernel
theorem dX13_init_576 : decode cX13_init 576 = .ok (.putfield 229, 3) := by decide +kernel
theorem dX13_init_579 : decode cX13_init 579 = .ok (.aload_n 0, 1) := by decide +kernel
theorem dX13_init_580 : decode cX13_init 580 = .ok (.ldc 213, 2) := by decide +kernel
theorem dX13_init_582 : decode cX13_init 582 = .ok (.newarray .int, 2) := by decide +kernel
theorem dX13_init_584 : decode cX13_init 584 = .ok (.putfield 232, 3) := by decide +kernel
theorem dX13_init_587 : decode cX13_init 587 = .ok (.aload_n 0, 1) := by decide +kernel
theorem dX13_init_588 : decode cX13_init 588 = .ok (.sipush 1000, 3) := by decide +kernel
theorem dX13_init_591 : decode cX13_init 591 = .ok (.newarray .int, 2) := by decide +kernel
theorem dX13_init_593 : decode cX13_init 593 = .ok (.putfield 235, 3) := by decide +kernel
theorem dX13_init_596 : decode cX13_init 596 = .ok (.aload_n 0, 1) := by decide +kernel
theorem dX13_init_597 : decode cX13_init 597 = .ok (.sipush 1000, 3) := by decide +kernel
theorem dX13_init_600 : decode cX13_init 600 = .ok (.newarray .int, 2) := by decide +kernel
theorem dX13_init_602 : decode cX13_init 602 = .ok (.putfield 238, 3) := by decide +kernel
theorem dX13_init_605 : decode cX13_init 605 = .ok (.aload_n 0, 1) := by decide +kernel
theorem dX13_init_606 : decode cX13_init 606 = .ok (.sipush 1000, 3) := by decide +kernel
theorem dX13_init_609 : decode cX13_init 609 = .ok (.newarray .boolean, 2) := by decide +kernel
theorem dX13_init_611 : decode cX13_init 611 = .ok (.putfield 241, 3) := by decide +kernel
theorem dX13_init_614 : decode cX13_init 614 = .ok (.aload_n 0, 1) := by decide +kernel
theorem dX13_init_615 : decode cX13_init 615 = .ok (.sipush 1000, 3) := by decide +kernel
theorem dX13_init_618 : decode cX13_init 618 = .ok (.newarray .int, 2) := by decide +kernel
theorem dX13_init_620 : decode cX13_init 620 = .ok (.putfield 244, 3) := by decide +kernel
theorem dX13_init_623 : decode cX13_init 623 = .ok (.aload_n 0, 1) := by decide +kernel
theorem dX13_init_624 : decode cX13_init 624 = .ok (.sipush 1000, 3) := by decide +kernel
theorem dX13_init_627 : decode cX13_init 627 = .ok (.newarray .int, 2) := by decide +kernel
theorem dX13_init_629 : decode cX13_init 629 = .ok (.putfield 247, 3) := by decide +kernel
theorem dX13_init_632 : decode cX13_init 632 = .ok (.aload_n 0, 1) := by decide +kernel
theorem dX13_init_633 : decode cX13_init 633 = .ok (.sipush 1000, 3) := by decide +kernel
theorem dX13_init_636 : decode cX13_init 636 = .ok (.newarray .int, 2) := by decide +kernel
theorem dX13_init_638 : decode cX13_init 638 = .ok (.putfield 250, 3) := by decide +kernel
theorem dX13_init_641 : decode cX13_init 641 = .ok (.return_, 1) := by decide +kernel
