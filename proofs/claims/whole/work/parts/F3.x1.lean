set_option maxHeartbeats 1600000
/-! the reference's constructor: its run -/
theorem dxi_0 : decode cX13_init 0 = .ok (.aload_n 0, 1) := by decide +kernel
theorem dxi_1 : decode cX13_init 1 = .ok (.invokespecial 7, 3) := by decide +kernel
theorem dxi_4 : decode cX13_init 4 = .ok (.aload_n 0, 1) := by decide +kernel
theorem dxi_5 : decode cX13_init 5 = .ok (.ldc 13, 2) := by decide +kernel
theorem dxi_7 : decode cX13_init 7 = .ok (.newarray .byte, 2) := by decide +kernel
theorem dxi_9 : decode cX13_init 9 = .ok (.putfield 14, 3) := by decide +kernel
theorem dxi_12 : decode cX13_init 12 = .ok (.aload_n 0, 1) := by decide +kernel
theorem dxi_13 : decode cX13_init 13 = .ok (.ldc 18, 2) := by decide +kernel
theorem dxi_15 : decode cX13_init 15 = .ok (.newarray .byte, 2) := by decide +kernel
theorem dxi_17 : decode cX13_init 17 = .ok (.putfield 19, 3) := by decide +kernel
theorem dxi_20 : decode cX13_init 20 = .ok (.aload_n 0, 1) := by decide +kernel
theorem dxi_21 : decode cX13_init 21 = .ok (.ldc 18, 2) := by decide +kernel
theorem dxi_23 : decode cX13_init 23 = .ok (.newarray .int, 2) := by decide +kernel
theorem dxi_25 : decode cX13_init 25 = .ok (.putfield 22, 3) := by decide +kernel
theorem dxi_28 : decode cX13_init 28 = .ok (.aload_n 0, 1) := by decide +kernel
theorem dxi_29 : decode cX13_init 29 = .ok (.ldc 18, 2) := by decide +kernel
theorem dxi_31 : decode cX13_init 31 = .ok (.newarray .int, 2) := by decide +kernel
theorem dxi_33 : decode cX13_init 33 = .ok (.putfield 26, 3) := by decide +kernel
theorem dxi_36 : decode cX13_init 36 = .ok (.aload_n 0, 1) := by decide +kernel
theorem dxi_37 : decode cX13_init 37 = .ok (.ldc 18, 2) := by decide +kernel
theorem dxi_39 : decode cX13_init 39 = .ok (.newarray .long, 2) := by decide +kernel
theorem dxi_41 : decode cX13_init 41 = .ok (.putfield 29, 3) := by decide +kernel
theorem dxi_44 : decode cX13_init 44 = .ok (.aload_n 0, 1) := by decide +kernel
theorem dxi_45 : decode cX13_init 45 = .ok (.ldc 18, 2) := by decide +kernel
theorem dxi_47 : decode cX13_init 47 = .ok (.newarray .int, 2) := by decide +kernel
theorem dxi_49 : decode cX13_init 49 = .ok (.putfield 33, 3) := by decide +kernel
theorem dxi_52 : decode cX13_init 52 = .ok (.aload_n 0, 1) := by decide +kernel
theorem dxi_53 : decode cX13_init 53 = .ok (.bipush 10, 2) := by decide +kernel
theorem dxi_55 : decode cX13_init 55 = .ok (.newarray .int, 2) := by decide +kernel
theorem dxi_57 : decode cX13_init 57 = .ok (.putfield 36, 3) := by decide +kernel
theorem dxi_60 : decode cX13_init 60 = .ok (.aload_n 0, 1) := by decide +kernel
theorem dxi_61 : decode cX13_init 61 = .ok (.bipush 10, 2) := by decide +kernel
theorem dxi_63 : decode cX13_init 63 = .ok (.newarray .int, 2) := by decide +kernel
theorem dxi_65 : decode cX13_init 65 = .ok (.putfield 39, 3) := by decide +kernel
theorem dxi_68 : decode cX13_init 68 = .ok (.aload_n 0, 1) := by decide +kernel
theorem dxi_69 : decode cX13_init 69 = .ok (.iconst 3, 1) := by decide +kernel
theorem dxi_70 : decode cX13_init 70 = .ok (.newarray .int, 2) := by decide +kernel
theorem dxi_72 : decode cX13_init 72 = .ok (.putfield 42, 3) := by decide +kernel
theorem dxi_75 : decode cX13_init 75 = .ok (.aload_n 0, 1) := by decide +kernel
theorem dxi_76 : decode cX13_init 76 = .ok (.iconst 3, 1) := by decide +kernel
theorem dxi_77 : decode cX13_init 77 = .ok (.newarray .int, 2) := by decide +kernel
theorem dxi_79 : decode cX13_init 79 = .ok (.putfield 45, 3) := by decide +kernel
theorem dxi_82 : decode cX13_init 82 = .ok (.aload_n 0, 1) := by decide +kernel
theorem dxi_83 : decode cX13_init 83 = .ok (.iconst 3, 1) := by decide +kernel
theorem dxi_84 : decode cX13_init 84 = .ok (.newarray .int, 2) := by decide +kernel
theorem dxi_86 : decode cX13_init 86 = .ok (.putfield 48, 3) := by decide +kernel
theorem dxi_89 : decode cX13_init 89 = .ok (.aload_n 0, 1) := by decide +kernel
theorem dxi_90 : decode cX13_init 90 = .ok (.bipush 10, 2) := by decide +kernel
theorem dxi_92 : decode cX13_init 92 = .ok (.newarray .int, 2) := by decide +kernel
theorem dxi_94 : decode cX13_init 94 = .ok (.putfield 51, 3) := by decide +kernel
theorem dxi_97 : decode cX13_init 97 = .ok (.aload_n 0, 1) := by decide +kernel
theorem dxi_98 : decode cX13_init 98 = .ok (.bipush 10, 2) := by decide +kernel
theorem dxi_100 : decode cX13_init 100 = .ok (.newarray .int, 2) := by decide +kernel
theorem dxi_102 : decode cX13_init 102 = .ok (.putfield 54, 3) := by decide +kernel
theorem dxi_105 : decode cX13_init 105 = .ok (.aload_n 0, 1) := by decide +kernel
theorem dxi_106 : decode cX13_init 106 = .ok (.bipush 10, 2) := by decide +kernel
theorem dxi_108 : decode cX13_init 108 = .ok (.newarray .int, 2) := by decide +kernel
theorem dxi_110 : decode cX13_init 110 = .ok (.putfield 57, 3) := by decide +kernel
theorem dxi_113 : decode cX13_init 113 = .ok (.aload_n 0, 1) := by decide +kernel
theorem dxi_114 : decode cX13_init 114 = .ok (.bipush 80, 2) := by decide +kernel
theorem dxi_116 : decode cX13_init 116 = .ok (.newarray .int, 2) := by decide +kernel
theorem dxi_118 : decode cX13_init 118 = .ok (.putfield 60, 3) := by decide +kernel
theorem dxi_121 : decode cX13_init 121 = .ok (.aload_n 0, 1) := by decide +kernel
theorem dxi_122 : decode cX13_init 122 = .ok (.bipush 10, 2) := by decide +kernel
theorem dxi_124 : decode cX13_init 124 = .ok (.newarray .int, 2) := by decide +kernel
theorem dxi_126 : decode cX13_init 126 = .ok (.putfield 63, 3) := by decide +kernel
theorem dxi_129 : decode cX13_init 129 = .ok (.aload_n 0, 1) := by decide +kernel
theorem dxi_130 : decode cX13_init 130 = .ok (.sipush 150, 3) := by decide +kernel
theorem dxi_133 : decode cX13_init 133 = .ok (.newarray .int, 2) := by decide +kernel
theorem dxi_135 : decode cX13_init 135 = .ok (.putfield 66, 3) := by decide +kernel
theorem dxi_138 : decode cX13_init 138 = .ok (.aload_n 0, 1) := by decide +kernel
theorem dxi_139 : decode cX13_init 139 = .ok (.sipush 150, 3) := by decide +kernel
theorem dxi_142 : decode cX13_init 142 = .ok (.newarray .int, 2) := by decide +kernel
theorem dxi_144 : decode cX13_init 144 = .ok (.putfield 69, 3) := by decide +kernel
theorem dxi_147 : decode cX13_init 147 = .ok (.aload_n 0, 1) := by decide +kernel
theorem dxi_148 : decode cX13_init 148 = .ok (.sipush 150, 3) := by decide +kernel
theorem dxi_151 : decode cX13_init 151 = .ok (.newarray .int, 2) := by decide +kernel
theorem dxi_153 : decode cX13_init 153 = .ok (.putfield 72, 3) := by decide +kernel
theorem dxi_156 : decode cX13_init 156 = .ok (.aload_n 0, 1) := by decide +kernel
theorem dxi_157 : decode cX13_init 157 = .ok (.sipush 150, 3) := by decide +kernel
theorem dxi_160 : decode cX13_init 160 = .ok (.newarray .int, 2) := by decide +kernel
theorem dxi_162 : decode cX13_init 162 = .ok (.putfield 75, 3) := by decide +kernel
theorem dxi_165 : decode cX13_init 165 = .ok (.aload_n 0, 1) := by decide +kernel
theorem dxi_166 : decode cX13_init 166 = .ok (.sipush 150, 3) := by decide +kernel
theorem dxi_169 : decode cX13_init 169 = .ok (.newarray .int, 2) := by decide +kernel
theorem dxi_171 : decode cX13_init 171 = .ok (.putfield 78, 3) := by decide +kernel
theorem dxi_174 : decode cX13_init 174 = .ok (.aload_n 0, 1) := by decide +kernel
theorem dxi_175 : decode cX13_init 175 = .ok (.sipush 150, 3) := by decide +kernel
theorem dxi_178 : decode cX13_init 178 = .ok (.newarray .int, 2) := by decide +kernel
theorem dxi_180 : decode cX13_init 180 = .ok (.putfield 81, 3) := by decide +kernel
theorem dxi_183 : decode cX13_init 183 = .ok (.aload_n 0, 1) := by decide +kernel
theorem dxi_184 : decode cX13_init 184 = .ok (.sipush 150, 3) := by decide +kernel
theorem dxi_187 : decode cX13_init 187 = .ok (.newarray .int, 2) := by decide +kernel
theorem dxi_189 : decode cX13_init 189 = .ok (.putfield 84, 3) := by decide +kernel
theorem dxi_192 : decode cX13_init 192 = .ok (.aload_n 0, 1) := by decide +kernel
theorem dxi_193 : decode cX13_init 193 = .ok (.sipush 150, 3) := by decide +kernel
theorem dxi_196 : decode cX13_init 196 = .ok (.newarray .int, 2) := by decide +kernel
theorem dxi_198 : decode cX13_init 198 = .ok (.putfield 87, 3) := by decide +kernel
theorem dxi_201 : decode cX13_init 201 = .ok (.aload_n 0, 1) := by decide +kernel
theorem dxi_202 : decode cX13_init 202 = .ok (.sipush 150, 3) := by decide +kernel
theorem dxi_205 : decode cX13_init 205 = .ok (.newarray .int, 2) := by decide +kernel
theorem dxi_207 : decode cX13_init 207 = .ok (.putfield 90, 3) := by decide +kernel
theorem dxi_210 : decode cX13_init 210 = .ok (.aload_n 0, 1) := by decide +kernel
theorem dxi_211 : decode cX13_init 211 = .ok (.ldc 18, 2) := by decide +kernel
theorem dxi_213 : decode cX13_init 213 = .ok (.newarray .int, 2) := by decide +kernel
theorem dxi_215 : decode cX13_init 215 = .ok (.putfield 93, 3) := by decide +kernel
theorem dxi_218 : decode cX13_init 218 = .ok (.aload_n 0, 1) := by decide +kernel
theorem dxi_219 : decode cX13_init 219 = .ok (.bipush 64, 2) := by decide +kernel
theorem dxi_221 : decode cX13_init 221 = .ok (.newarray .int, 2) := by decide +kernel
theorem dxi_223 : decode cX13_init 223 = .ok (.putfield 96, 3) := by decide +kernel
theorem dxi_226 : decode cX13_init 226 = .ok (.aload_n 0, 1) := by decide +kernel
theorem dxi_227 : decode cX13_init 227 = .ok (.bipush 64, 2) := by decide +kernel
theorem dxi_229 : decode cX13_init 229 = .ok (.newarray .int, 2) := by decide +kernel
theorem dxi_231 : decode cX13_init 231 = .ok (.putfield 99, 3) := by decide +kernel
theorem dxi_234 : decode cX13_init 234 = .ok (.aload_n 0, 1) := by decide +kernel
theorem dxi_235 : decode cX13_init 235 = .ok (.bipush 64, 2) := by decide +kernel
theorem dxi_237 : decode cX13_init 237 = .ok (.newarray .boolean, 2) := by decide +kernel
theorem dxi_239 : decode cX13_init 239 = .ok (.putfield 102, 3) := by decide +kernel
theorem dxi_242 : decode cX13_init 242 = .ok (.aload_n 0, 1) := by decide +kernel
theorem dxi_243 : decode cX13_init 243 = .ok (.ldc 106, 2) := by decide +kernel
theorem dxi_245 : decode cX13_init 245 = .ok (.newarray .int, 2) := by decide +kernel
theorem dxi_247 : decode cX13_init 247 = .ok (.putfield 107, 3) := by decide +kernel
theorem dxi_250 : decode cX13_init 250 = .ok (.aload_n 0, 1) := by decide +kernel
theorem dxi_251 : decode cX13_init 251 = .ok (.ldc 106, 2) := by decide +kernel
theorem dxi_253 : decode cX13_init 253 = .ok (.newarray .int, 2) := by decide +kernel
theorem dxi_255 : decode cX13_init 255 = .ok (.putfield 110, 3) := by decide +kernel
theorem dxi_258 : decode cX13_init 258 = .ok (.aload_n 0, 1) := by decide +kernel
theorem dxi_259 : decode cX13_init 259 = .ok (.ldc 106, 2) := by decide +kernel
theorem dxi_261 : decode cX13_init 261 = .ok (.newarray .int, 2) := by decide +kernel
theorem dxi_263 : decode cX13_init 263 = .ok (.putfield 113, 3) := by decide +kernel
theorem dxi_266 : decode cX13_init 266 = .ok (.aload_n 0, 1) := by decide +kernel
theorem dxi_267 : decode cX13_init 267 = .ok (.sipush 2048, 3) := by decide +kernel
theorem dxi_270 : decode cX13_init 270 = .ok (.newarray .int, 2) := by decide +kernel
theorem dxi_272 : decode cX13_init 272 = .ok (.putfield 116, 3) := by decide +kernel
theorem dxi_275 : decode cX13_init 275 = .ok (.aload_n 0, 1) := by decide +kernel
theorem dxi_276 : decode cX13_init 276 = .ok (.bipush 8, 2) := by decide +kernel
theorem dxi_278 : decode cX13_init 278 = .ok (.newarray .int, 2) := by decide +kernel
theorem dxi_280 : decode cX13_init 280 = .ok (.putfield 119, 3) := by decide +kernel
theorem dxi_283 : decode cX13_init 283 = .ok (.aload_n 0, 1) := by decide +kernel
theorem dxi_284 : decode cX13_init 284 = .ok (.bipush 34, 2) := by decide +kernel
theorem dxi_286 : decode cX13_init 286 = .ok (.newarray .int, 2) := by decide +kernel
theorem dxi_288 : decode cX13_init 288 = .ok (.putfield 122, 3) := by decide +kernel
theorem dxi_291 : decode cX13_init 291 = .ok (.aload_n 0, 1) := by decide +kernel
theorem dxi_292 : decode cX13_init 292 = .ok (.bipush 12, 2) := by decide +kernel
theorem dxi_294 : decode cX13_init 294 = .ok (.newarray .int, 2) := by decide +kernel
theorem dxi_296 : decode cX13_init 296 = .ok (.putfield 125, 3) := by decide +kernel
theorem dxi_299 : decode cX13_init 299 = .ok (.aload_n 0, 1) := by decide +kernel
theorem dxi_300 : decode cX13_init 300 = .ok (.bipush 96, 2) := by decide +kernel
theorem dxi_302 : decode cX13_init 302 = .ok (.newarray .int, 2) := by decide +kernel
theorem dxi_304 : decode cX13_init 304 = .ok (.putfield 128, 3) := by decide +kernel
theorem dxi_307 : decode cX13_init 307 = .ok (.aload_n 0, 1) := by decide +kernel
theorem dxi_308 : decode cX13_init 308 = .ok (.bipush 64, 2) := by decide +kernel
theorem dxi_310 : decode cX13_init 310 = .ok (.newarray .int, 2) := by decide +kernel
theorem dxi_312 : decode cX13_init 312 = .ok (.putfield 131, 3) := by decide +kernel
theorem dxi_315 : decode cX13_init 315 = .ok (.aload_n 0, 1) := by decide +kernel
theorem dxi_316 : decode cX13_init 316 = .ok (.bipush 64, 2) := by decide +kernel
theorem dxi_318 : decode cX13_init 318 = .ok (.newarray .int, 2) := by decide +kernel
theorem dxi_320 : decode cX13_init 320 = .ok (.putfield 134, 3) := by decide +kernel
theorem dxi_323 : decode cX13_init 323 = .ok (.aload_n 0, 1) := by decide +kernel
theorem dxi_324 : decode cX13_init 324 = .ok (.iconst 4, 1) := by decide +kernel
theorem dxi_325 : decode cX13_init 325 = .ok (.newarray .int, 2) := by decide +kernel
theorem dxi_327 : decode cX13_init 327 = .ok (.putfield 137, 3) := by decide +kernel
theorem dxi_330 : decode cX13_init 330 = .ok (.aload_n 0, 1) := by decide +kernel
theorem dxi_331 : decode cX13_init 331 = .ok (.ldc 140, 2) := by decide +kernel
theorem dxi_333 : decode cX13_init 333 = .ok (.newarray .int, 2) := by decide +kernel
theorem dxi_335 : decode cX13_init 335 = .ok (.putfield 141, 3) := by decide +kernel
theorem dxi_338 : decode cX13_init 338 = .ok (.aload_n 0, 1) := by decide +kernel
theorem dxi_339 : decode cX13_init 339 = .ok (.sipush 1000, 3) := by decide +kernel
theorem dxi_342 : decode cX13_init 342 = .ok (.newarray .int, 2) := by decide +kernel
theorem dxi_344 : decode cX13_init 344 = .ok (.putfield 144, 3) := by decide +kernel
theorem dxi_347 : decode cX13_init 347 = .ok (.aload_n 0, 1) := by decide +kernel
theorem dxi_348 : decode cX13_init 348 = .ok (.ldc 147, 2) := by decide +kernel
theorem dxi_350 : decode cX13_init 350 = .ok (.newarray .int, 2) := by decide +kernel
theorem dxi_352 : decode cX13_init 352 = .ok (.putfield 148, 3) := by decide +kernel
theorem dxi_355 : decode cX13_init 355 = .ok (.aload_n 0, 1) := by decide +kernel
theorem dxi_356 : decode cX13_init 356 = .ok (.sipush 1001, 3) := by decide +kernel
theorem dxi_359 : decode cX13_init 359 = .ok (.newarray .int, 2) := by decide +kernel
theorem dxi_361 : decode cX13_init 361 = .ok (.putfield 151, 3) := by decide +kernel
theorem dxi_364 : decode cX13_init 364 = .ok (.aload_n 0, 1) := by decide +kernel
theorem dxi_365 : decode cX13_init 365 = .ok (.sipush 20000, 3) := by decide +kernel
theorem dxi_368 : decode cX13_init 368 = .ok (.newarray .int, 2) := by decide +kernel
theorem dxi_370 : decode cX13_init 370 = .ok (.putfield 154, 3) := by decide +kernel
theorem dxi_373 : decode cX13_init 373 = .ok (.aload_n 0, 1) := by decide +kernel
theorem dxi_374 : decode cX13_init 374 = .ok (.sipush 20000, 3) := by decide +kernel
theorem dxi_377 : decode cX13_init 377 = .ok (.newarray .int, 2) := by decide +kernel
theorem dxi_379 : decode cX13_init 379 = .ok (.putfield 157, 3) := by decide +kernel
theorem dxi_382 : decode cX13_init 382 = .ok (.aload_n 0, 1) := by decide +kernel
theorem dxi_383 : decode cX13_init 383 = .ok (.sipush 20000, 3) := by decide +kernel
theorem dxi_386 : decode cX13_init 386 = .ok (.newarray .int, 2) := by decide +kernel
theorem dxi_388 : decode cX13_init 388 = .ok (.putfield 160, 3) := by decide +kernel
theorem dxi_391 : decode cX13_init 391 = .ok (.aload_n 0, 1) := by decide +kernel
theorem dxi_392 : decode cX13_init 392 = .ok (.sipush 1000, 3) := by decide +kernel
theorem dxi_395 : decode cX13_init 395 = .ok (.newarray .int, 2) := by decide +kernel
theorem dxi_397 : decode cX13_init 397 = .ok (.putfield 163, 3) := by decide +kernel
theorem dxi_400 : decode cX13_init 400 = .ok (.aload_n 0, 1) := by decide +kernel
theorem dxi_401 : decode cX13_init 401 = .ok (.sipush 1000, 3) := by decide +kernel
theorem dxi_404 : decode cX13_init 404 = .ok (.newarray .boolean, 2) := by decide +kernel
theorem dxi_406 : decode cX13_init 406 = .ok (.putfield 166, 3) := by decide +kernel
theorem dxi_409 : decode cX13_init 409 = .ok (.aload_n 0, 1) := by decide +kernel
theorem dxi_410 : decode cX13_init 410 = .ok (.sipush 1000, 3) := by decide +kernel
theorem dxi_413 : decode cX13_init 413 = .ok (.newarray .int, 2) := by decide +kernel
theorem dxi_415 : decode cX13_init 415 = .ok (.putfield 169, 3) := by decide +kernel
theorem dxi_418 : decode cX13_init 418 = .ok (.aload_n 0, 1) := by decide +kernel
theorem dxi_419 : decode cX13_init 419 = .ok (.sipush 1000, 3) := by decide +kernel
theorem dxi_422 : decode cX13_init 422 = .ok (.newarray .int, 2) := by decide +kernel
theorem dxi_424 : decode cX13_init 424 = .ok (.putfield 172, 3) := by decide +kernel
theorem dxi_427 : decode cX13_init 427 = .ok (.aload_n 0, 1) := by decide +kernel
theorem dxi_428 : decode cX13_init 428 = .ok (.sipush 143, 3) := by decide +kernel
theorem dxi_431 : decode cX13_init 431 = .ok (.newarray .int, 2) := by decide +kernel
theorem dxi_433 : decode cX13_init 433 = .ok (.putfield 175, 3) := by decide +kernel
theorem dxi_436 : decode cX13_init 436 = .ok (.aload_n 0, 1) := by decide +kernel
theorem dxi_437 : decode cX13_init 437 = .ok (.sipush 16000, 3) := by decide +kernel
theorem dxi_440 : decode cX13_init 440 = .ok (.newarray .long, 2) := by decide +kernel
theorem dxi_442 : decode cX13_init 442 = .ok (.putfield 178, 3) := by decide +kernel
theorem dxi_445 : decode cX13_init 445 = .ok (.aload_n 0, 1) := by decide +kernel
theorem dxi_446 : decode cX13_init 446 = .ok (.sipush 1000, 3) := by decide +kernel
theorem dxi_449 : decode cX13_init 449 = .ok (.newarray .boolean, 2) := by decide +kernel
theorem dxi_451 : decode cX13_init 451 = .ok (.putfield 181, 3) := by decide +kernel
theorem dxi_454 : decode cX13_init 454 = .ok (.aload_n 0, 1) := by decide +kernel
theorem dxi_455 : decode cX13_init 455 = .ok (.ldc 184, 2) := by decide +kernel
theorem dxi_457 : decode cX13_init 457 = .ok (.newarray .int, 2) := by decide +kernel
theorem dxi_459 : decode cX13_init 459 = .ok (.putfield 185, 3) := by decide +kernel
theorem dxi_462 : decode cX13_init 462 = .ok (.aload_n 0, 1) := by decide +kernel
theorem dxi_463 : decode cX13_init 463 = .ok (.bipush 30, 2) := by decide +kernel
theorem dxi_465 : decode cX13_init 465 = .ok (.newarray .int, 2) := by decide +kernel
theorem dxi_467 : decode cX13_init 467 = .ok (.putfield 188, 3) := by decide +kernel
theorem dxi_470 : decode cX13_init 470 = .ok (.aload_n 0, 1) := by decide +kernel
theorem dxi_471 : decode cX13_init 471 = .ok (.ldc 191, 2) := by decide +kernel
theorem dxi_473 : decode cX13_init 473 = .ok (.newarray .int, 2) := by decide +kernel
theorem dxi_475 : decode cX13_init 475 = .ok (.putfield 192, 3) := by decide +kernel
theorem dxi_478 : decode cX13_init 478 = .ok (.aload_n 0, 1) := by decide +kernel
theorem dxi_479 : decode cX13_init 479 = .ok (.sipush 1000, 3) := by decide +kernel
theorem dxi_482 : decode cX13_init 482 = .ok (.newarray .boolean, 2) := by decide +kernel
theorem dxi_484 : decode cX13_init 484 = .ok (.putfield 195, 3) := by decide +kernel
theorem dxi_487 : decode cX13_init 487 = .ok (.aload_n 0, 1) := by decide +kernel
theorem dxi_488 : decode cX13_init 488 = .ok (.sipush 1000, 3) := by decide +kernel
theorem dxi_491 : decode cX13_init 491 = .ok (.newarray .boolean, 2) := by decide +kernel
theorem dxi_493 : decode cX13_init 493 = .ok (.putfield 198, 3) := by decide +kernel
theorem dxi_496 : decode cX13_init 496 = .ok (.aload_n 0, 1) := by decide +kernel
theorem dxi_497 : decode cX13_init 497 = .ok (.sipush 1000, 3) := by decide +kernel
theorem dxi_500 : decode cX13_init 500 = .ok (.newarray .int, 2) := by decide +kernel
theorem dxi_502 : decode cX13_init 502 = .ok (.putfield 201, 3) := by decide +kernel
theorem dxi_505 : decode cX13_init 505 = .ok (.aload_n 0, 1) := by decide +kernel
theorem dxi_506 : decode cX13_init 506 = .ok (.sipush 1000, 3) := by decide +kernel
theorem dxi_509 : decode cX13_init 509 = .ok (.newarray .int, 2) := by decide +kernel
theorem dxi_511 : decode cX13_init 511 = .ok (.putfield 204, 3) := by decide +kernel
theorem dxi_514 : decode cX13_init 514 = .ok (.aload_n 0, 1) := by decide +kernel
theorem dxi_515 : decode cX13_init 515 = .ok (.sipush 1000, 3) := by decide +kernel
theorem dxi_518 : decode cX13_init 518 = .ok (.newarray .int, 2) := by decide +kernel
theorem dxi_520 : decode cX13_init 520 = .ok (.putfield 207, 3) := by decide +kernel
theorem dxi_523 : decode cX13_init 523 = .ok (.aload_n 0, 1) := by decide +kernel
theorem dxi_524 : decode cX13_init 524 = .ok (.sipush 1000, 3) := by decide +kernel
theorem dxi_527 : decode cX13_init 527 = .ok (.newarray .int, 2) := by decide +kernel
theorem dxi_529 : decode cX13_init 529 = .ok (.putfield 210, 3) := by decide +kernel
theorem dxi_532 : decode cX13_init 532 = .ok (.aload_n 0, 1) := by decide +kernel
theorem dxi_533 : decode cX13_init 533 = .ok (.ldc 213, 2) := by decide +kernel
theorem dxi_535 : decode cX13_init 535 = .ok (.newarray .int, 2) := by decide +kernel
theorem dxi_537 : decode cX13_init 537 = .ok (.putfield 214, 3) := by decide +kernel
theorem dxi_540 : decode cX13_init 540 = .ok (.aload_n 0, 1) := by decide +kernel
theorem dxi_541 : decode cX13_init 541 = .ok (.sipush 200, 3) := by decide +kernel
theorem dxi_544 : decode cX13_init 544 = .ok (.newarray .int, 2) := by decide +kernel
theorem dxi_546 : decode cX13_init 546 = .ok (.putfield 217, 3) := by decide +kernel
theorem dxi_549 : decode cX13_init 549 = .ok (.aload_n 0, 1) := by decide +kernel
theorem dxi_550 : decode cX13_init 550 = .ok (.iconst (-1), 1) := by decide +kernel
theorem dxi_551 : decode cX13_init 551 = .ok (.putfield 220, 3) := by decide +kernel
theorem dxi_554 : decode cX13_init 554 = .ok (.aload_n 0, 1) := by decide +kernel
theorem dxi_555 : decode cX13_init 555 = .ok (.bipush 34, 2) := by decide +kernel
theorem dxi_557 : decode cX13_init 557 = .ok (.newarray .int, 2) := by decide +kernel
theorem dxi_559 : decode cX13_init 559 = .ok (.putfield 223, 3) := by decide +kernel
theorem dxi_562 : decode cX13_init 562 = .ok (.aload_n 0, 1) := by decide +kernel
theorem dxi_563 : decode cX13_init 563 = .ok (.ldc 213, 2) := by decide +kernel
theorem dxi_565 : decode cX13_init 565 = .ok (.newarray .int, 2) := by decide +kernel
theorem dxi_567 : decode cX13_init 567 = .ok (.putfield 226, 3) := by decide +kernel
theorem dxi_570 : decode cX13_init 570 = .ok (.aload_n 0, 1) := by decide +kernel
theorem dxi_571 : decode cX13_init 571 = .ok (.sipush 1000, 3) := by decide +kernel
theorem dxi_574 : decode cX13_init 574 = .ok (.newarray .int, 2) := by decide +kernel
theorem dxi_576 : decode cX13_init 576 = .ok (.putfield 229, 3) := by decide +kernel
theorem dxi_579 : decode cX13_init 579 = .ok (.aload_n 0, 1) := by decide +kernel
theorem dxi_580 : decode cX13_init 580 = .ok (.ldc 213, 2) := by decide +kernel
theorem dxi_582 : decode cX13_init 582 = .ok (.newarray .int, 2) := by decide +kernel
theorem dxi_584 : decode cX13_init 584 = .ok (.putfield 232, 3) := by decide +kernel
theorem dxi_587 : decode cX13_init 587 = .ok (.aload_n 0, 1) := by decide +kernel
theorem dxi_588 : decode cX13_init 588 = .ok (.sipush 1000, 3) := by decide +kernel
theorem dxi_591 : decode cX13_init 591 = .ok (.newarray .int, 2) := by decide +kernel
theorem dxi_593 : decode cX13_init 593 = .ok (.putfield 235, 3) := by decide +kernel
theorem dxi_596 : decode cX13_init 596 = .ok (.aload_n 0, 1) := by decide +kernel
theorem dxi_597 : decode cX13_init 597 = .ok (.sipush 1000, 3) := by decide +kernel
theorem dxi_600 : decode cX13_init 600 = .ok (.newarray .int, 2) := by decide +kernel
theorem dxi_602 : decode cX13_init 602 = .ok (.putfield 238, 3) := by decide +kernel
theorem dxi_605 : decode cX13_init 605 = .ok (.aload_n 0, 1) := by decide +kernel
theorem dxi_606 : decode cX13_init 606 = .ok (.sipush 1000, 3) := by decide +kernel
theorem dxi_609 : decode cX13_init 609 = .ok (.newarray .boolean, 2) := by decide +kernel
theorem dxi_611 : decode cX13_init 611 = .ok (.putfield 241, 3) := by decide +kernel
theorem dxi_614 : decode cX13_init 614 = .ok (.aload_n 0, 1) := by decide +kernel
theorem dxi_615 : decode cX13_init 615 = .ok (.sipush 1000, 3) := by decide +kernel
theorem dxi_618 : decode cX13_init 618 = .ok (.newarray .int, 2) := by decide +kernel
theorem dxi_620 : decode cX13_init 620 = .ok (.putfield 244, 3) := by decide +kernel
theorem dxi_623 : decode cX13_init 623 = .ok (.aload_n 0, 1) := by decide +kernel
theorem dxi_624 : decode cX13_init 624 = .ok (.sipush 1000, 3) := by decide +kernel
theorem dxi_627 : decode cX13_init 627 = .ok (.newarray .int, 2) := by decide +kernel
theorem dxi_629 : decode cX13_init 629 = .ok (.putfield 247, 3) := by decide +kernel
theorem dxi_632 : decode cX13_init 632 = .ok (.aload_n 0, 1) := by decide +kernel
theorem dxi_633 : decode cX13_init 633 = .ok (.sipush 1000, 3) := by decide +kernel
theorem dxi_636 : decode cX13_init 636 = .ok (.newarray .int, 2) := by decide +kernel
theorem dxi_638 : decode cX13_init 638 = .ok (.putfield 250, 3) := by decide +kernel
theorem dxi_641 : decode cX13_init 641 = .ok (.return_, 1) := by decide +kernel
theorem xc_09 {sa : Nat → Nat} {TL : List (Nat × Nat × List Int32)} {b d o : Nat} {hb h : dH} (hbo : b ≤ o) (H : xS9 hb o 0 false h) (K : ∀ h', xS9 hb o 10 false h' → xG9 sa TL b d hb o 82 [] h' 10 720932) : xG9 sa TL b d hb o 4 [] h 0 0 := by
  refine xg_p9 (pc' := 5) (st' := [.ref o]) dxi_4 rfl ?_
  refine xl_9 (pc' := 7) (st' := [.int 65536, .ref o]) dxi_5 rfl rfl rfl ?_
  refine xr_9 (nI := 65536) (z0 := .inl fun _ => 0) (pc2 := 9) (pc' := 12) (cs' := 1) (ss' := 65536) H hbo rfl (by decide) dxi_7 rfl rfl (by decide) dxi_9 (by decide +kernel) (by decide) (fun w => ⟨rfl, rfl⟩) (fun h0 H0 => ?_)
  refine xg_p9 (pc' := 13) (st' := [.ref o]) dxi_12 rfl ?_
  refine xl_9 (pc' := 15) (st' := [.int 131074, .ref o]) dxi_13 rfl rfl rfl ?_
  refine xr_9 (nI := 131074) (z0 := .inl fun _ => 0) (pc2 := 17) (pc' := 20) (cs' := 2) (ss' := 196610) H0 hbo rfl (by decide) dxi_15 rfl rfl (by decide) dxi_17 (by decide +kernel) (by decide) (fun w => ⟨rfl, rfl⟩) (fun h1 H1 => ?_)
  refine xg_p9 (pc' := 21) (st' := [.ref o]) dxi_20 rfl ?_
  refine xl_9 (pc' := 23) (st' := [.int 131074, .ref o]) dxi_21 rfl rfl rfl ?_
  refine xr_9 (nI := 131074) (z0 := .inl fun _ => 0) (pc2 := 25) (pc' := 28) (cs' := 3) (ss' := 327684) H1 hbo rfl (by decide) dxi_23 rfl rfl (by decide) dxi_25 (by decide +kernel) (by decide) (fun w => ⟨rfl, rfl⟩) (fun h2 H2 => ?_)
  refine xg_p9 (pc' := 29) (st' := [.ref o]) dxi_28 rfl ?_
  refine xl_9 (pc' := 31) (st' := [.int 131074, .ref o]) dxi_29 rfl rfl rfl ?_
  refine xr_9 (nI := 131074) (z0 := .inl fun _ => 0) (pc2 := 33) (pc' := 36) (cs' := 4) (ss' := 458758) H2 hbo rfl (by decide) dxi_31 rfl rfl (by decide) dxi_33 (by decide +kernel) (by decide) (fun w => ⟨rfl, rfl⟩) (fun h3 H3 => ?_)
  refine xg_p9 (pc' := 37) (st' := [.ref o]) dxi_36 rfl ?_
  refine xl_9 (pc' := 39) (st' := [.int 131074, .ref o]) dxi_37 rfl rfl rfl ?_
  refine xr_9 (nI := 131074) (z0 := .inr (.inl fun _ => 0)) (pc2 := 41) (pc' := 44) (cs' := 5) (ss' := 589832) H3 hbo rfl (by decide) dxi_39 rfl rfl (by decide) dxi_41 (by decide +kernel) (by decide) (fun w => ⟨rfl, rfl⟩) (fun h4 H4 => ?_)
  refine xg_p9 (pc' := 45) (st' := [.ref o]) dxi_44 rfl ?_
  refine xl_9 (pc' := 47) (st' := [.int 131074, .ref o]) dxi_45 rfl rfl rfl ?_
  refine xr_9 (nI := 131074) (z0 := .inl fun _ => 0) (pc2 := 49) (pc' := 52) (cs' := 6) (ss' := 720906) H4 hbo rfl (by decide) dxi_47 rfl rfl (by decide) dxi_49 (by decide +kernel) (by decide) (fun w => ⟨rfl, rfl⟩) (fun h5 H5 => ?_)
  refine xg_p9 (pc' := 53) (st' := [.ref o]) dxi_52 rfl ?_
  refine xg_p9 (pc' := 55) (st' := [.int 10, .ref o]) dxi_53 (congrArg (fun v => some (55, dent [.ref o], [Value.int v, Value.ref o])) (by decide : (Int8.ofInt (10)).toInt32 = (10 : Int32))) ?_
  refine xr_9 (nI := 10) (z0 := .inl fun _ => 0) (pc2 := 57) (pc' := 60) (cs' := 7) (ss' := 720916) H5 hbo rfl (by decide) dxi_55 rfl rfl (by decide) dxi_57 (by decide +kernel) (by decide) (fun w => ⟨rfl, rfl⟩) (fun h6 H6 => ?_)
  refine xg_p9 (pc' := 61) (st' := [.ref o]) dxi_60 rfl ?_
  refine xg_p9 (pc' := 63) (st' := [.int 10, .ref o]) dxi_61 (congrArg (fun v => some (63, dent [.ref o], [Value.int v, Value.ref o])) (by decide : (Int8.ofInt (10)).toInt32 = (10 : Int32))) ?_
  refine xr_9 (nI := 10) (z0 := .inl fun _ => 0) (pc2 := 65) (pc' := 68) (cs' := 8) (ss' := 720926) H6 hbo rfl (by decide) dxi_63 rfl rfl (by decide) dxi_65 (by decide +kernel) (by decide) (fun w => ⟨rfl, rfl⟩) (fun h7 H7 => ?_)
  refine xg_p9 (pc' := 69) (st' := [.ref o]) dxi_68 rfl ?_
  refine xg_p9 (pc' := 70) (st' := [.int 3, .ref o]) dxi_69 (congrArg (fun v => some (70, dent [.ref o], [Value.int v, Value.ref o])) (by decide : Int32.ofInt (3) = (3 : Int32))) ?_
  refine xr_9 (nI := 3) (z0 := .inl fun _ => 0) (pc2 := 72) (pc' := 75) (cs' := 9) (ss' := 720929) H7 hbo rfl (by decide) dxi_70 rfl rfl (by decide) dxi_72 (by decide +kernel) (by decide) (fun w => ⟨rfl, rfl⟩) (fun h8 H8 => ?_)
  refine xg_p9 (pc' := 76) (st' := [.ref o]) dxi_75 rfl ?_
  refine xg_p9 (pc' := 77) (st' := [.int 3, .ref o]) dxi_76 (congrArg (fun v => some (77, dent [.ref o], [Value.int v, Value.ref o])) (by decide : Int32.ofInt (3) = (3 : Int32))) ?_
  refine xr_9 (nI := 3) (z0 := .inl fun _ => 0) (pc2 := 79) (pc' := 82) (cs' := 10) (ss' := 720932) H8 hbo rfl (by decide) dxi_77 rfl rfl (by decide) dxi_79 (by decide +kernel) (by decide) (fun w => ⟨rfl, rfl⟩) (fun h9 H9 => ?_)
  exact K _ H9
theorem xc_19 {sa : Nat → Nat} {TL : List (Nat × Nat × List Int32)} {b d o : Nat} {hb h : dH} (hbo : b ≤ o) (H : xS9 hb o 10 false h) (K : ∀ h', xS9 hb o 20 false h' → xG9 sa TL b d hb o 165 [] h' 20 721655) : xG9 sa TL b d hb o 82 [] h 10 720932 := by
  refine xg_p9 (pc' := 83) (st' := [.ref o]) dxi_82 rfl ?_
  refine xg_p9 (pc' := 84) (st' := [.int 3, .ref o]) dxi_83 (congrArg (fun v => some (84, dent [.ref o], [Value.int v, Value.ref o])) (by decide : Int32.ofInt (3) = (3 : Int32))) ?_
  refine xr_9 (nI := 3) (z0 := .inl fun _ => 0) (pc2 := 86) (pc' := 89) (cs' := 11) (ss' := 720935) H hbo rfl (by decide) dxi_84 rfl rfl (by decide) dxi_86 (by decide +kernel) (by decide) (fun w => ⟨rfl, rfl⟩) (fun h10 H10 => ?_)
  refine xg_p9 (pc' := 90) (st' := [.ref o]) dxi_89 rfl ?_
  refine xg_p9 (pc' := 92) (st' := [.int 10, .ref o]) dxi_90 (congrArg (fun v => some (92, dent [.ref o], [Value.int v, Value.ref o])) (by decide : (Int8.ofInt (10)).toInt32 = (10 : Int32))) ?_
  refine xr_9 (nI := 10) (z0 := .inl fun _ => 0) (pc2 := 94) (pc' := 97) (cs' := 12) (ss' := 720945) H10 hbo rfl (by decide) dxi_92 rfl rfl (by decide) dxi_94 (by decide +kernel) (by decide) (fun w => ⟨rfl, rfl⟩) (fun h11 H11 => ?_)
  refine xg_p9 (pc' := 98) (st' := [.ref o]) dxi_97 rfl ?_
  refine xg_p9 (pc' := 100) (st' := [.int 10, .ref o]) dxi_98 (congrArg (fun v => some (100, dent [.ref o], [Value.int v, Value.ref o])) (by decide : (Int8.ofInt (10)).toInt32 = (10 : Int32))) ?_
  refine xr_9 (nI := 10) (z0 := .inl fun _ => 0) (pc2 := 102) (pc' := 105) (cs' := 13) (ss' := 720955) H11 hbo rfl (by decide) dxi_100 rfl rfl (by decide) dxi_102 (by decide +kernel) (by decide) (fun w => ⟨rfl, rfl⟩) (fun h12 H12 => ?_)
  refine xg_p9 (pc' := 106) (st' := [.ref o]) dxi_105 rfl ?_
  refine xg_p9 (pc' := 108) (st' := [.int 10, .ref o]) dxi_106 (congrArg (fun v => some (108, dent [.ref o], [Value.int v, Value.ref o])) (by decide : (Int8.ofInt (10)).toInt32 = (10 : Int32))) ?_
  refine xr_9 (nI := 10) (z0 := .inl fun _ => 0) (pc2 := 110) (pc' := 113) (cs' := 14) (ss' := 720965) H12 hbo rfl (by decide) dxi_108 rfl rfl (by decide) dxi_110 (by decide +kernel) (by decide) (fun w => ⟨rfl, rfl⟩) (fun h13 H13 => ?_)
  refine xg_p9 (pc' := 114) (st' := [.ref o]) dxi_113 rfl ?_
  refine xg_p9 (pc' := 116) (st' := [.int 80, .ref o]) dxi_114 (congrArg (fun v => some (116, dent [.ref o], [Value.int v, Value.ref o])) (by decide : (Int8.ofInt (80)).toInt32 = (80 : Int32))) ?_
  refine xr_9 (nI := 80) (z0 := .inl fun _ => 0) (pc2 := 118) (pc' := 121) (cs' := 15) (ss' := 721045) H13 hbo rfl (by decide) dxi_116 rfl rfl (by decide) dxi_118 (by decide +kernel) (by decide) (fun w => ⟨rfl, rfl⟩) (fun h14 H14 => ?_)
  refine xg_p9 (pc' := 122) (st' := [.ref o]) dxi_121 rfl ?_
  refine xg_p9 (pc' := 124) (st' := [.int 10, .ref o]) dxi_122 (congrArg (fun v => some (124, dent [.ref o], [Value.int v, Value.ref o])) (by decide : (Int8.ofInt (10)).toInt32 = (10 : Int32))) ?_
  refine xr_9 (nI := 10) (z0 := .inl fun _ => 0) (pc2 := 126) (pc' := 129) (cs' := 16) (ss' := 721055) H14 hbo rfl (by decide) dxi_124 rfl rfl (by decide) dxi_126 (by decide +kernel) (by decide) (fun w => ⟨rfl, rfl⟩) (fun h15 H15 => ?_)
  refine xg_p9 (pc' := 130) (st' := [.ref o]) dxi_129 rfl ?_
  refine xg_p9 (pc' := 133) (st' := [.int 150, .ref o]) dxi_130 (congrArg (fun v => some (133, dent [.ref o], [Value.int v, Value.ref o])) (by decide : (Int16.ofInt (150)).toInt32 = (150 : Int32))) ?_
  refine xr_9 (nI := 150) (z0 := .inl fun _ => 0) (pc2 := 135) (pc' := 138) (cs' := 17) (ss' := 721205) H15 hbo rfl (by decide) dxi_133 rfl rfl (by decide) dxi_135 (by decide +kernel) (by decide) (fun w => ⟨rfl, rfl⟩) (fun h16 H16 => ?_)
  refine xg_p9 (pc' := 139) (st' := [.ref o]) dxi_138 rfl ?_
  refine xg_p9 (pc' := 142) (st' := [.int 150, .ref o]) dxi_139 (congrArg (fun v => some (142, dent [.ref o], [Value.int v, Value.ref o])) (by decide : (Int16.ofInt (150)).toInt32 = (150 : Int32))) ?_
  refine xr_9 (nI := 150) (z0 := .inl fun _ => 0) (pc2 := 144) (pc' := 147) (cs' := 18) (ss' := 721355) H16 hbo rfl (by decide) dxi_142 rfl rfl (by decide) dxi_144 (by decide +kernel) (by decide) (fun w => ⟨rfl, rfl⟩) (fun h17 H17 => ?_)
  refine xg_p9 (pc' := 148) (st' := [.ref o]) dxi_147 rfl ?_
  refine xg_p9 (pc' := 151) (st' := [.int 150, .ref o]) dxi_148 (congrArg (fun v => some (151, dent [.ref o], [Value.int v, Value.ref o])) (by decide : (Int16.ofInt (150)).toInt32 = (150 : Int32))) ?_
  refine xr_9 (nI := 150) (z0 := .inl fun _ => 0) (pc2 := 153) (pc' := 156) (cs' := 19) (ss' := 721505) H17 hbo rfl (by decide) dxi_151 rfl rfl (by decide) dxi_153 (by decide +kernel) (by decide) (fun w => ⟨rfl, rfl⟩) (fun h18 H18 => ?_)
  refine xg_p9 (pc' := 157) (st' := [.ref o]) dxi_156 rfl ?_
  refine xg_p9 (pc' := 160) (st' := [.int 150, .ref o]) dxi_157 (congrArg (fun v => some (160, dent [.ref o], [Value.int v, Value.ref o])) (by decide : (Int16.ofInt (150)).toInt32 = (150 : Int32))) ?_
  refine xr_9 (nI := 150) (z0 := .inl fun _ => 0) (pc2 := 162) (pc' := 165) (cs' := 20) (ss' := 721655) H18 hbo rfl (by decide) dxi_160 rfl rfl (by decide) dxi_162 (by decide +kernel) (by decide) (fun w => ⟨rfl, rfl⟩) (fun h19 H19 => ?_)
  exact K _ H19
theorem xc_29 {sa : Nat → Nat} {TL : List (Nat × Nat × List Int32)} {b d o : Nat} {hb h : dH} (hbo : b ≤ o) (H : xS9 hb o 20 false h) (K : ∀ h', xS9 hb o 30 false h' → xG9 sa TL b d hb o 250 [] h' 30 919671) : xG9 sa TL b d hb o 165 [] h 20 721655 := by
  refine xg_p9 (pc' := 166) (st' := [.ref o]) dxi_165 rfl ?_
  refine xg_p9 (pc' := 169) (st' := [.int 150, .ref o]) dxi_166 (congrArg (fun v => some (169, dent [.ref o], [Value.int v, Value.ref o])) (by decide : (Int16.ofInt (150)).toInt32 = (150 : Int32))) ?_
  refine xr_9 (nI := 150) (z0 := .inl fun _ => 0) (pc2 := 171) (pc' := 174) (cs' := 21) (ss' := 721805) H hbo rfl (by decide) dxi_169 rfl rfl (by decide) dxi_171 (by decide +kernel) (by decide) (fun w => ⟨rfl, rfl⟩) (fun h20 H20 => ?_)
  refine xg_p9 (pc' := 175) (st' := [.ref o]) dxi_174 rfl ?_
  refine xg_p9 (pc' := 178) (st' := [.int 150, .ref o]) dxi_175 (congrArg (fun v => some (178, dent [.ref o], [Value.int v, Value.ref o])) (by decide : (Int16.ofInt (150)).toInt32 = (150 : Int32))) ?_
  refine xr_9 (nI := 150) (z0 := .inl fun _ => 0) (pc2 := 180) (pc' := 183) (cs' := 22) (ss' := 721955) H20 hbo rfl (by decide) dxi_178 rfl rfl (by decide) dxi_180 (by decide +kernel) (by decide) (fun w => ⟨rfl, rfl⟩) (fun h21 H21 => ?_)
  refine xg_p9 (pc' := 184) (st' := [.ref o]) dxi_183 rfl ?_
  refine xg_p9 (pc' := 187) (st' := [.int 150, .ref o]) dxi_184 (congrArg (fun v => some (187, dent [.ref o], [Value.int v, Value.ref o])) (by decide : (Int16.ofInt (150)).toInt32 = (150 : Int32))) ?_
  refine xr_9 (nI := 150) (z0 := .inl fun _ => 0) (pc2 := 189) (pc' := 192) (cs' := 23) (ss' := 722105) H21 hbo rfl (by decide) dxi_187 rfl rfl (by decide) dxi_189 (by decide +kernel) (by decide) (fun w => ⟨rfl, rfl⟩) (fun h22 H22 => ?_)
  refine xg_p9 (pc' := 193) (st' := [.ref o]) dxi_192 rfl ?_
  refine xg_p9 (pc' := 196) (st' := [.int 150, .ref o]) dxi_193 (congrArg (fun v => some (196, dent [.ref o], [Value.int v, Value.ref o])) (by decide : (Int16.ofInt (150)).toInt32 = (150 : Int32))) ?_
  refine xr_9 (nI := 150) (z0 := .inl fun _ => 0) (pc2 := 198) (pc' := 201) (cs' := 24) (ss' := 722255) H22 hbo rfl (by decide) dxi_196 rfl rfl (by decide) dxi_198 (by decide +kernel) (by decide) (fun w => ⟨rfl, rfl⟩) (fun h23 H23 => ?_)
  refine xg_p9 (pc' := 202) (st' := [.ref o]) dxi_201 rfl ?_
  refine xg_p9 (pc' := 205) (st' := [.int 150, .ref o]) dxi_202 (congrArg (fun v => some (205, dent [.ref o], [Value.int v, Value.ref o])) (by decide : (Int16.ofInt (150)).toInt32 = (150 : Int32))) ?_
  refine xr_9 (nI := 150) (z0 := .inl fun _ => 0) (pc2 := 207) (pc' := 210) (cs' := 25) (ss' := 722405) H23 hbo rfl (by decide) dxi_205 rfl rfl (by decide) dxi_207 (by decide +kernel) (by decide) (fun w => ⟨rfl, rfl⟩) (fun h24 H24 => ?_)
  refine xg_p9 (pc' := 211) (st' := [.ref o]) dxi_210 rfl ?_
  refine xl_9 (pc' := 213) (st' := [.int 131074, .ref o]) dxi_211 rfl rfl rfl ?_
  refine xr_9 (nI := 131074) (z0 := .inl fun _ => 0) (pc2 := 215) (pc' := 218) (cs' := 26) (ss' := 853479) H24 hbo rfl (by decide) dxi_213 rfl rfl (by decide) dxi_215 (by decide +kernel) (by decide) (fun w => ⟨rfl, rfl⟩) (fun h25 H25 => ?_)
  refine xg_p9 (pc' := 219) (st' := [.ref o]) dxi_218 rfl ?_
  refine xg_p9 (pc' := 221) (st' := [.int 64, .ref o]) dxi_219 (congrArg (fun v => some (221, dent [.ref o], [Value.int v, Value.ref o])) (by decide : (Int8.ofInt (64)).toInt32 = (64 : Int32))) ?_
  refine xr_9 (nI := 64) (z0 := .inl fun _ => 0) (pc2 := 223) (pc' := 226) (cs' := 27) (ss' := 853543) H25 hbo rfl (by decide) dxi_221 rfl rfl (by decide) dxi_223 (by decide +kernel) (by decide) (fun w => ⟨rfl, rfl⟩) (fun h26 H26 => ?_)
  refine xg_p9 (pc' := 227) (st' := [.ref o]) dxi_226 rfl ?_
  refine xg_p9 (pc' := 229) (st' := [.int 64, .ref o]) dxi_227 (congrArg (fun v => some (229, dent [.ref o], [Value.int v, Value.ref o])) (by decide : (Int8.ofInt (64)).toInt32 = (64 : Int32))) ?_
  refine xr_9 (nI := 64) (z0 := .inl fun _ => 0) (pc2 := 231) (pc' := 234) (cs' := 28) (ss' := 853607) H26 hbo rfl (by decide) dxi_229 rfl rfl (by decide) dxi_231 (by decide +kernel) (by decide) (fun w => ⟨rfl, rfl⟩) (fun h27 H27 => ?_)
  refine xg_p9 (pc' := 235) (st' := [.ref o]) dxi_234 rfl ?_
  refine xg_p9 (pc' := 237) (st' := [.int 64, .ref o]) dxi_235 (congrArg (fun v => some (237, dent [.ref o], [Value.int v, Value.ref o])) (by decide : (Int8.ofInt (64)).toInt32 = (64 : Int32))) ?_
  refine xr_9 (nI := 64) (z0 := .inl fun _ => 0) (pc2 := 239) (pc' := 242) (cs' := 29) (ss' := 853671) H27 hbo rfl (by decide) dxi_237 rfl rfl (by decide) dxi_239 (by decide +kernel) (by decide) (fun w => ⟨rfl, rfl⟩) (fun h28 H28 => ?_)
  refine xg_p9 (pc' := 243) (st' := [.ref o]) dxi_242 rfl ?_
  refine xl_9 (pc' := 245) (st' := [.int 66000, .ref o]) dxi_243 rfl rfl rfl ?_
  refine xr_9 (nI := 66000) (z0 := .inl fun _ => 0) (pc2 := 247) (pc' := 250) (cs' := 30) (ss' := 919671) H28 hbo rfl (by decide) dxi_245 rfl rfl (by decide) dxi_247 (by decide +kernel) (by decide) (fun w => ⟨rfl, rfl⟩) (fun h29 H29 => ?_)
  exact K _ H29
theorem xc_39 {sa : Nat → Nat} {TL : List (Nat × Nat × List Int32)} {b d o : Nat} {hb h : dH} (hbo : b ≤ o) (H : xS9 hb o 30 false h) (K : ∀ h', xS9 hb o 40 false h' → xG9 sa TL b d hb o 330 [] h' 40 1054001) : xG9 sa TL b d hb o 250 [] h 30 919671 := by
  refine xg_p9 (pc' := 251) (st' := [.ref o]) dxi_250 rfl ?_
  refine xl_9 (pc' := 253) (st' := [.int 66000, .ref o]) dxi_251 rfl rfl rfl ?_
  refine xr_9 (nI := 66000) (z0 := .inl fun _ => 0) (pc2 := 255) (pc' := 258) (cs' := 31) (ss' := 985671) H hbo rfl (by decide) dxi_253 rfl rfl (by decide) dxi_255 (by decide +kernel) (by decide) (fun w => ⟨rfl, rfl⟩) (fun h30 H30 => ?_)
  refine xg_p9 (pc' := 259) (st' := [.ref o]) dxi_258 rfl ?_
  refine xl_9 (pc' := 261) (st' := [.int 66000, .ref o]) dxi_259 rfl rfl rfl ?_
  refine xr_9 (nI := 66000) (z0 := .inl fun _ => 0) (pc2 := 263) (pc' := 266) (cs' := 32) (ss' := 1051671) H30 hbo rfl (by decide) dxi_261 rfl rfl (by decide) dxi_263 (by decide +kernel) (by decide) (fun w => ⟨rfl, rfl⟩) (fun h31 H31 => ?_)
  refine xg_p9 (pc' := 267) (st' := [.ref o]) dxi_266 rfl ?_
  refine xg_p9 (pc' := 270) (st' := [.int 2048, .ref o]) dxi_267 (congrArg (fun v => some (270, dent [.ref o], [Value.int v, Value.ref o])) (by decide : (Int16.ofInt (2048)).toInt32 = (2048 : Int32))) ?_
  refine xr_9 (nI := 2048) (z0 := .inl fun _ => 0) (pc2 := 272) (pc' := 275) (cs' := 33) (ss' := 1053719) H31 hbo rfl (by decide) dxi_270 rfl rfl (by decide) dxi_272 (by decide +kernel) (by decide) (fun w => ⟨rfl, rfl⟩) (fun h32 H32 => ?_)
  refine xg_p9 (pc' := 276) (st' := [.ref o]) dxi_275 rfl ?_
  refine xg_p9 (pc' := 278) (st' := [.int 8, .ref o]) dxi_276 (congrArg (fun v => some (278, dent [.ref o], [Value.int v, Value.ref o])) (by decide : (Int8.ofInt (8)).toInt32 = (8 : Int32))) ?_
  refine xr_9 (nI := 8) (z0 := .inl fun _ => 0) (pc2 := 280) (pc' := 283) (cs' := 34) (ss' := 1053727) H32 hbo rfl (by decide) dxi_278 rfl rfl (by decide) dxi_280 (by decide +kernel) (by decide) (fun w => ⟨rfl, rfl⟩) (fun h33 H33 => ?_)
  refine xg_p9 (pc' := 284) (st' := [.ref o]) dxi_283 rfl ?_
  refine xg_p9 (pc' := 286) (st' := [.int 34, .ref o]) dxi_284 (congrArg (fun v => some (286, dent [.ref o], [Value.int v, Value.ref o])) (by decide : (Int8.ofInt (34)).toInt32 = (34 : Int32))) ?_
  refine xr_9 (nI := 34) (z0 := .inl fun _ => 0) (pc2 := 288) (pc' := 291) (cs' := 35) (ss' := 1053761) H33 hbo rfl (by decide) dxi_286 rfl rfl (by decide) dxi_288 (by decide +kernel) (by decide) (fun w => ⟨rfl, rfl⟩) (fun h34 H34 => ?_)
  refine xg_p9 (pc' := 292) (st' := [.ref o]) dxi_291 rfl ?_
  refine xg_p9 (pc' := 294) (st' := [.int 12, .ref o]) dxi_292 (congrArg (fun v => some (294, dent [.ref o], [Value.int v, Value.ref o])) (by decide : (Int8.ofInt (12)).toInt32 = (12 : Int32))) ?_
  refine xr_9 (nI := 12) (z0 := .inl fun _ => 0) (pc2 := 296) (pc' := 299) (cs' := 36) (ss' := 1053773) H34 hbo rfl (by decide) dxi_294 rfl rfl (by decide) dxi_296 (by decide +kernel) (by decide) (fun w => ⟨rfl, rfl⟩) (fun h35 H35 => ?_)
  refine xg_p9 (pc' := 300) (st' := [.ref o]) dxi_299 rfl ?_
  refine xg_p9 (pc' := 302) (st' := [.int 96, .ref o]) dxi_300 (congrArg (fun v => some (302, dent [.ref o], [Value.int v, Value.ref o])) (by decide : (Int8.ofInt (96)).toInt32 = (96 : Int32))) ?_
  refine xr_9 (nI := 96) (z0 := .inl fun _ => 0) (pc2 := 304) (pc' := 307) (cs' := 37) (ss' := 1053869) H35 hbo rfl (by decide) dxi_302 rfl rfl (by decide) dxi_304 (by decide +kernel) (by decide) (fun w => ⟨rfl, rfl⟩) (fun h36 H36 => ?_)
  refine xg_p9 (pc' := 308) (st' := [.ref o]) dxi_307 rfl ?_
  refine xg_p9 (pc' := 310) (st' := [.int 64, .ref o]) dxi_308 (congrArg (fun v => some (310, dent [.ref o], [Value.int v, Value.ref o])) (by decide : (Int8.ofInt (64)).toInt32 = (64 : Int32))) ?_
  refine xr_9 (nI := 64) (z0 := .inl fun _ => 0) (pc2 := 312) (pc' := 315) (cs' := 38) (ss' := 1053933) H36 hbo rfl (by decide) dxi_310 rfl rfl (by decide) dxi_312 (by decide +kernel) (by decide) (fun w => ⟨rfl, rfl⟩) (fun h37 H37 => ?_)
  refine xg_p9 (pc' := 316) (st' := [.ref o]) dxi_315 rfl ?_
  refine xg_p9 (pc' := 318) (st' := [.int 64, .ref o]) dxi_316 (congrArg (fun v => some (318, dent [.ref o], [Value.int v, Value.ref o])) (by decide : (Int8.ofInt (64)).toInt32 = (64 : Int32))) ?_
  refine xr_9 (nI := 64) (z0 := .inl fun _ => 0) (pc2 := 320) (pc' := 323) (cs' := 39) (ss' := 1053997) H37 hbo rfl (by decide) dxi_318 rfl rfl (by decide) dxi_320 (by decide +kernel) (by decide) (fun w => ⟨rfl, rfl⟩) (fun h38 H38 => ?_)
  refine xg_p9 (pc' := 324) (st' := [.ref o]) dxi_323 rfl ?_
  refine xg_p9 (pc' := 325) (st' := [.int 4, .ref o]) dxi_324 (congrArg (fun v => some (325, dent [.ref o], [Value.int v, Value.ref o])) (by decide : Int32.ofInt (4) = (4 : Int32))) ?_
  refine xr_9 (nI := 4) (z0 := .inl fun _ => 0) (pc2 := 327) (pc' := 330) (cs' := 40) (ss' := 1054001) H38 hbo rfl (by decide) dxi_325 rfl rfl (by decide) dxi_327 (by decide +kernel) (by decide) (fun w => ⟨rfl, rfl⟩) (fun h39 H39 => ?_)
  exact K _ H39
theorem xc_49 {sa : Nat → Nat} {TL : List (Nat × Nat × List Int32)} {b d o : Nat} {hb h : dH} (hbo : b ≤ o) (H : xS9 hb o 40 false h) (K : ∀ h', xS9 hb o 50 false h' → xG9 sa TL b d hb o 418 [] h' 50 1297002) : xG9 sa TL b d hb o 330 [] h 40 1054001 := by
  refine xg_p9 (pc' := 331) (st' := [.ref o]) dxi_330 rfl ?_
  refine xl_9 (pc' := 333) (st' := [.int 143000, .ref o]) dxi_331 rfl rfl rfl ?_
  refine xr_9 (nI := 143000) (z0 := .inl fun _ => 0) (pc2 := 335) (pc' := 338) (cs' := 41) (ss' := 1197001) H hbo rfl (by decide) dxi_333 rfl rfl (by decide) dxi_335 (by decide +kernel) (by decide) (fun w => ⟨rfl, rfl⟩) (fun h40 H40 => ?_)
  refine xg_p9 (pc' := 339) (st' := [.ref o]) dxi_338 rfl ?_
  refine xg_p9 (pc' := 342) (st' := [.int 1000, .ref o]) dxi_339 (congrArg (fun v => some (342, dent [.ref o], [Value.int v, Value.ref o])) (by decide : (Int16.ofInt (1000)).toInt32 = (1000 : Int32))) ?_
  refine xr_9 (nI := 1000) (z0 := .inl fun _ => 0) (pc2 := 344) (pc' := 347) (cs' := 42) (ss' := 1198001) H40 hbo rfl (by decide) dxi_342 rfl rfl (by decide) dxi_344 (by decide +kernel) (by decide) (fun w => ⟨rfl, rfl⟩) (fun h41 H41 => ?_)
  refine xg_p9 (pc' := 348) (st' := [.ref o]) dxi_347 rfl ?_
  refine xl_9 (pc' := 350) (st' := [.int 35000, .ref o]) dxi_348 rfl rfl rfl ?_
  refine xr_9 (nI := 35000) (z0 := .inl fun _ => 0) (pc2 := 352) (pc' := 355) (cs' := 43) (ss' := 1233001) H41 hbo rfl (by decide) dxi_350 rfl rfl (by decide) dxi_352 (by decide +kernel) (by decide) (fun w => ⟨rfl, rfl⟩) (fun h42 H42 => ?_)
  refine xg_p9 (pc' := 356) (st' := [.ref o]) dxi_355 rfl ?_
  refine xg_p9 (pc' := 359) (st' := [.int 1001, .ref o]) dxi_356 (congrArg (fun v => some (359, dent [.ref o], [Value.int v, Value.ref o])) (by decide : (Int16.ofInt (1001)).toInt32 = (1001 : Int32))) ?_
  refine xr_9 (nI := 1001) (z0 := .inl fun _ => 0) (pc2 := 361) (pc' := 364) (cs' := 44) (ss' := 1234002) H42 hbo rfl (by decide) dxi_359 rfl rfl (by decide) dxi_361 (by decide +kernel) (by decide) (fun w => ⟨rfl, rfl⟩) (fun h43 H43 => ?_)
  refine xg_p9 (pc' := 365) (st' := [.ref o]) dxi_364 rfl ?_
  refine xg_p9 (pc' := 368) (st' := [.int 20000, .ref o]) dxi_365 (congrArg (fun v => some (368, dent [.ref o], [Value.int v, Value.ref o])) (by decide : (Int16.ofInt (20000)).toInt32 = (20000 : Int32))) ?_
  refine xr_9 (nI := 20000) (z0 := .inl fun _ => 0) (pc2 := 370) (pc' := 373) (cs' := 45) (ss' := 1254002) H43 hbo rfl (by decide) dxi_368 rfl rfl (by decide) dxi_370 (by decide +kernel) (by decide) (fun w => ⟨rfl, rfl⟩) (fun h44 H44 => ?_)
  refine xg_p9 (pc' := 374) (st' := [.ref o]) dxi_373 rfl ?_
  refine xg_p9 (pc' := 377) (st' := [.int 20000, .ref o]) dxi_374 (congrArg (fun v => some (377, dent [.ref o], [Value.int v, Value.ref o])) (by decide : (Int16.ofInt (20000)).toInt32 = (20000 : Int32))) ?_
  refine xr_9 (nI := 20000) (z0 := .inl fun _ => 0) (pc2 := 379) (pc' := 382) (cs' := 46) (ss' := 1274002) H44 hbo rfl (by decide) dxi_377 rfl rfl (by decide) dxi_379 (by decide +kernel) (by decide) (fun w => ⟨rfl, rfl⟩) (fun h45 H45 => ?_)
  refine xg_p9 (pc' := 383) (st' := [.ref o]) dxi_382 rfl ?_
  refine xg_p9 (pc' := 386) (st' := [.int 20000, .ref o]) dxi_383 (congrArg (fun v => some (386, dent [.ref o], [Value.int v, Value.ref o])) (by decide : (Int16.ofInt (20000)).toInt32 = (20000 : Int32))) ?_
  refine xr_9 (nI := 20000) (z0 := .inl fun _ => 0) (pc2 := 388) (pc' := 391) (cs' := 47) (ss' := 1294002) H45 hbo rfl (by decide) dxi_386 rfl rfl (by decide) dxi_388 (by decide +kernel) (by decide) (fun w => ⟨rfl, rfl⟩) (fun h46 H46 => ?_)
  refine xg_p9 (pc' := 392) (st' := [.ref o]) dxi_391 rfl ?_
  refine xg_p9 (pc' := 395) (st' := [.int 1000, .ref o]) dxi_392 (congrArg (fun v => some (395, dent [.ref o], [Value.int v, Value.ref o])) (by decide : (Int16.ofInt (1000)).toInt32 = (1000 : Int32))) ?_
  refine xr_9 (nI := 1000) (z0 := .inl fun _ => 0) (pc2 := 397) (pc' := 400) (cs' := 48) (ss' := 1295002) H46 hbo rfl (by decide) dxi_395 rfl rfl (by decide) dxi_397 (by decide +kernel) (by decide) (fun w => ⟨rfl, rfl⟩) (fun h47 H47 => ?_)
  refine xg_p9 (pc' := 401) (st' := [.ref o]) dxi_400 rfl ?_
  refine xg_p9 (pc' := 404) (st' := [.int 1000, .ref o]) dxi_401 (congrArg (fun v => some (404, dent [.ref o], [Value.int v, Value.ref o])) (by decide : (Int16.ofInt (1000)).toInt32 = (1000 : Int32))) ?_
  refine xr_9 (nI := 1000) (z0 := .inl fun _ => 0) (pc2 := 406) (pc' := 409) (cs' := 49) (ss' := 1296002) H47 hbo rfl (by decide) dxi_404 rfl rfl (by decide) dxi_406 (by decide +kernel) (by decide) (fun w => ⟨rfl, rfl⟩) (fun h48 H48 => ?_)
  refine xg_p9 (pc' := 410) (st' := [.ref o]) dxi_409 rfl ?_
  refine xg_p9 (pc' := 413) (st' := [.int 1000, .ref o]) dxi_410 (congrArg (fun v => some (413, dent [.ref o], [Value.int v, Value.ref o])) (by decide : (Int16.ofInt (1000)).toInt32 = (1000 : Int32))) ?_
  refine xr_9 (nI := 1000) (z0 := .inl fun _ => 0) (pc2 := 415) (pc' := 418) (cs' := 50) (ss' := 1297002) H48 hbo rfl (by decide) dxi_413 rfl rfl (by decide) dxi_415 (by decide +kernel) (by decide) (fun w => ⟨rfl, rfl⟩) (fun h49 H49 => ?_)
  exact K _ H49
theorem xc_59 {sa : Nat → Nat} {TL : List (Nat × Nat × List Int32)} {b d o : Nat} {hb h : dH} (hbo : b ≤ o) (H : xS9 hb o 50 false h) (K : ∀ h', xS9 hb o 60 false h' → xG9 sa TL b d hb o 505 [] h' 60 3084175) : xG9 sa TL b d hb o 418 [] h 50 1297002 := by
  refine xg_p9 (pc' := 419) (st' := [.ref o]) dxi_418 rfl ?_
  refine xg_p9 (pc' := 422) (st' := [.int 1000, .ref o]) dxi_419 (congrArg (fun v => some (422, dent [.ref o], [Value.int v, Value.ref o])) (by decide : (Int16.ofInt (1000)).toInt32 = (1000 : Int32))) ?_
  refine xr_9 (nI := 1000) (z0 := .inl fun _ => 0) (pc2 := 424) (pc' := 427) (cs' := 51) (ss' := 1298002) H hbo rfl (by decide) dxi_422 rfl rfl (by decide) dxi_424 (by decide +kernel) (by decide) (fun w => ⟨rfl, rfl⟩) (fun h50 H50 => ?_)
  refine xg_p9 (pc' := 428) (st' := [.ref o]) dxi_427 rfl ?_
  refine xg_p9 (pc' := 431) (st' := [.int 143, .ref o]) dxi_428 (congrArg (fun v => some (431, dent [.ref o], [Value.int v, Value.ref o])) (by decide : (Int16.ofInt (143)).toInt32 = (143 : Int32))) ?_
  refine xr_9 (nI := 143) (z0 := .inl fun _ => 0) (pc2 := 433) (pc' := 436) (cs' := 52) (ss' := 1298145) H50 hbo rfl (by decide) dxi_431 rfl rfl (by decide) dxi_433 (by decide +kernel) (by decide) (fun w => ⟨rfl, rfl⟩) (fun h51 H51 => ?_)
  refine xg_p9 (pc' := 437) (st' := [.ref o]) dxi_436 rfl ?_
  refine xg_p9 (pc' := 440) (st' := [.int 16000, .ref o]) dxi_437 (congrArg (fun v => some (440, dent [.ref o], [Value.int v, Value.ref o])) (by decide : (Int16.ofInt (16000)).toInt32 = (16000 : Int32))) ?_
  refine xr_9 (nI := 16000) (z0 := .inr (.inl fun _ => 0)) (pc2 := 442) (pc' := 445) (cs' := 53) (ss' := 1314145) H51 hbo rfl (by decide) dxi_440 rfl rfl (by decide) dxi_442 (by decide +kernel) (by decide) (fun w => ⟨rfl, rfl⟩) (fun h52 H52 => ?_)
  refine xg_p9 (pc' := 446) (st' := [.ref o]) dxi_445 rfl ?_
  refine xg_p9 (pc' := 449) (st' := [.int 1000, .ref o]) dxi_446 (congrArg (fun v => some (449, dent [.ref o], [Value.int v, Value.ref o])) (by decide : (Int16.ofInt (1000)).toInt32 = (1000 : Int32))) ?_
  refine xr_9 (nI := 1000) (z0 := .inl fun _ => 0) (pc2 := 451) (pc' := 454) (cs' := 54) (ss' := 1315145) H52 hbo rfl (by decide) dxi_449 rfl rfl (by decide) dxi_451 (by decide +kernel) (by decide) (fun w => ⟨rfl, rfl⟩) (fun h53 H53 => ?_)
  refine xg_p9 (pc' := 455) (st' := [.ref o]) dxi_454 rfl ?_
  refine xl_9 (pc' := 457) (st' := [.int 1200000, .ref o]) dxi_455 rfl rfl rfl ?_
  refine xr_9 (nI := 1200000) (z0 := .inl fun _ => 0) (pc2 := 459) (pc' := 462) (cs' := 55) (ss' := 2515145) H53 hbo rfl (by decide) dxi_457 rfl rfl (by decide) dxi_459 (by decide +kernel) (by decide) (fun w => ⟨rfl, rfl⟩) (fun h54 H54 => ?_)
  refine xg_p9 (pc' := 463) (st' := [.ref o]) dxi_462 rfl ?_
  refine xg_p9 (pc' := 465) (st' := [.int 30, .ref o]) dxi_463 (congrArg (fun v => some (465, dent [.ref o], [Value.int v, Value.ref o])) (by decide : (Int8.ofInt (30)).toInt32 = (30 : Int32))) ?_
  refine xr_9 (nI := 30) (z0 := .inl fun _ => 0) (pc2 := 467) (pc' := 470) (cs' := 56) (ss' := 2515175) H54 hbo rfl (by decide) dxi_465 rfl rfl (by decide) dxi_467 (by decide +kernel) (by decide) (fun w => ⟨rfl, rfl⟩) (fun h55 H55 => ?_)
  refine xg_p9 (pc' := 471) (st' := [.ref o]) dxi_470 rfl ?_
  refine xl_9 (pc' := 473) (st' := [.int 566000, .ref o]) dxi_471 rfl rfl rfl ?_
  refine xr_9 (nI := 566000) (z0 := .inl fun _ => 0) (pc2 := 475) (pc' := 478) (cs' := 57) (ss' := 3081175) H55 hbo rfl (by decide) dxi_473 rfl rfl (by decide) dxi_475 (by decide +kernel) (by decide) (fun w => ⟨rfl, rfl⟩) (fun h56 H56 => ?_)
  refine xg_p9 (pc' := 479) (st' := [.ref o]) dxi_478 rfl ?_
  refine xg_p9 (pc' := 482) (st' := [.int 1000, .ref o]) dxi_479 (congrArg (fun v => some (482, dent [.ref o], [Value.int v, Value.ref o])) (by decide : (Int16.ofInt (1000)).toInt32 = (1000 : Int32))) ?_
  refine xr_9 (nI := 1000) (z0 := .inl fun _ => 0) (pc2 := 484) (pc' := 487) (cs' := 58) (ss' := 3082175) H56 hbo rfl (by decide) dxi_482 rfl rfl (by decide) dxi_484 (by decide +kernel) (by decide) (fun w => ⟨rfl, rfl⟩) (fun h57 H57 => ?_)
  refine xg_p9 (pc' := 488) (st' := [.ref o]) dxi_487 rfl ?_
  refine xg_p9 (pc' := 491) (st' := [.int 1000, .ref o]) dxi_488 (congrArg (fun v => some (491, dent [.ref o], [Value.int v, Value.ref o])) (by decide : (Int16.ofInt (1000)).toInt32 = (1000 : Int32))) ?_
  refine xr_9 (nI := 1000) (z0 := .inl fun _ => 0) (pc2 := 493) (pc' := 496) (cs' := 59) (ss' := 3083175) H57 hbo rfl (by decide) dxi_491 rfl rfl (by decide) dxi_493 (by decide +kernel) (by decide) (fun w => ⟨rfl, rfl⟩) (fun h58 H58 => ?_)
  refine xg_p9 (pc' := 497) (st' := [.ref o]) dxi_496 rfl ?_
  refine xg_p9 (pc' := 500) (st' := [.int 1000, .ref o]) dxi_497 (congrArg (fun v => some (500, dent [.ref o], [Value.int v, Value.ref o])) (by decide : (Int16.ofInt (1000)).toInt32 = (1000 : Int32))) ?_
  refine xr_9 (nI := 1000) (z0 := .inl fun _ => 0) (pc2 := 502) (pc' := 505) (cs' := 60) (ss' := 3084175) H58 hbo rfl (by decide) dxi_500 rfl rfl (by decide) dxi_502 (by decide +kernel) (by decide) (fun w => ⟨rfl, rfl⟩) (fun h59 H59 => ?_)
  exact K _ H59
theorem xc_69 {sa : Nat → Nat} {TL : List (Nat × Nat × List Int32)} {b d o : Nat} {hb h : dH} (hbo : b ≤ o) (H : xS9 hb o 60 false h) (K : ∀ h', xS9 hb o 69 true h' → xG9 sa TL b d hb o 587 [] h' 69 3190409) : xG9 sa TL b d hb o 505 [] h 60 3084175 := by
  refine xg_p9 (pc' := 506) (st' := [.ref o]) dxi_505 rfl ?_
  refine xg_p9 (pc' := 509) (st' := [.int 1000, .ref o]) dxi_506 (congrArg (fun v => some (509, dent [.ref o], [Value.int v, Value.ref o])) (by decide : (Int16.ofInt (1000)).toInt32 = (1000 : Int32))) ?_
  refine xr_9 (nI := 1000) (z0 := .inl fun _ => 0) (pc2 := 511) (pc' := 514) (cs' := 61) (ss' := 3085175) H hbo rfl (by decide) dxi_509 rfl rfl (by decide) dxi_511 (by decide +kernel) (by decide) (fun w => ⟨rfl, rfl⟩) (fun h60 H60 => ?_)
  refine xg_p9 (pc' := 515) (st' := [.ref o]) dxi_514 rfl ?_
  refine xg_p9 (pc' := 518) (st' := [.int 1000, .ref o]) dxi_515 (congrArg (fun v => some (518, dent [.ref o], [Value.int v, Value.ref o])) (by decide : (Int16.ofInt (1000)).toInt32 = (1000 : Int32))) ?_
  refine xr_9 (nI := 1000) (z0 := .inl fun _ => 0) (pc2 := 520) (pc' := 523) (cs' := 62) (ss' := 3086175) H60 hbo rfl (by decide) dxi_518 rfl rfl (by decide) dxi_520 (by decide +kernel) (by decide) (fun w => ⟨rfl, rfl⟩) (fun h61 H61 => ?_)
  refine xg_p9 (pc' := 524) (st' := [.ref o]) dxi_523 rfl ?_
  refine xg_p9 (pc' := 527) (st' := [.int 1000, .ref o]) dxi_524 (congrArg (fun v => some (527, dent [.ref o], [Value.int v, Value.ref o])) (by decide : (Int16.ofInt (1000)).toInt32 = (1000 : Int32))) ?_
  refine xr_9 (nI := 1000) (z0 := .inl fun _ => 0) (pc2 := 529) (pc' := 532) (cs' := 63) (ss' := 3087175) H61 hbo rfl (by decide) dxi_527 rfl rfl (by decide) dxi_529 (by decide +kernel) (by decide) (fun w => ⟨rfl, rfl⟩) (fun h62 H62 => ?_)
  refine xg_p9 (pc' := 533) (st' := [.ref o]) dxi_532 rfl ?_
  refine xl_9 (pc' := 535) (st' := [.int 34000, .ref o]) dxi_533 rfl rfl rfl ?_
  refine xr_9 (nI := 34000) (z0 := .inl fun _ => 0) (pc2 := 537) (pc' := 540) (cs' := 64) (ss' := 3121175) H62 hbo rfl (by decide) dxi_535 rfl rfl (by decide) dxi_537 (by decide +kernel) (by decide) (fun w => ⟨rfl, rfl⟩) (fun h63 H63 => ?_)
  refine xg_p9 (pc' := 541) (st' := [.ref o]) dxi_540 rfl ?_
  refine xg_p9 (pc' := 544) (st' := [.int 200, .ref o]) dxi_541 (congrArg (fun v => some (544, dent [.ref o], [Value.int v, Value.ref o])) (by decide : (Int16.ofInt (200)).toInt32 = (200 : Int32))) ?_
  refine xr_9 (nI := 200) (z0 := .inl fun _ => 0) (pc2 := 546) (pc' := 549) (cs' := 65) (ss' := 3121375) H63 hbo rfl (by decide) dxi_544 rfl rfl (by decide) dxi_546 (by decide +kernel) (by decide) (fun w => ⟨rfl, rfl⟩) (fun h64 H64 => ?_)
  refine xg_p9 (pc' := 550) (st' := [.ref o]) dxi_549 rfl ?_
  refine xg_p9 (pc' := 551) (st' := [.int (-1), .ref o]) dxi_550 (congrArg (fun v => some (551, dent [.ref o], [Value.int v, Value.ref o])) (by decide : Int32.ofInt (-1) = ((-1) : Int32))) ?_
  refine xm_9 H64 hbo dxi_551 (by decide +kernel) ⟨rfl, rfl⟩ (by decide +kernel) (fun hm Hm => ?_)
  refine xg_p9 (pc' := 555) (st' := [.ref o]) dxi_554 rfl ?_
  refine xg_p9 (pc' := 557) (st' := [.int 34, .ref o]) dxi_555 (congrArg (fun v => some (557, dent [.ref o], [Value.int v, Value.ref o])) (by decide : (Int8.ofInt (34)).toInt32 = (34 : Int32))) ?_
  refine xr_9 (nI := 34) (z0 := .inl fun _ => 0) (pc2 := 559) (pc' := 562) (cs' := 66) (ss' := 3121409) Hm hbo rfl (by decide) dxi_557 rfl rfl (by decide) dxi_559 (by decide +kernel) (by decide) (fun w => ⟨rfl, rfl⟩) (fun h65 H65 => ?_)
  refine xg_p9 (pc' := 563) (st' := [.ref o]) dxi_562 rfl ?_
  refine xl_9 (pc' := 565) (st' := [.int 34000, .ref o]) dxi_563 rfl rfl rfl ?_
  refine xr_9 (nI := 34000) (z0 := .inl fun _ => 0) (pc2 := 567) (pc' := 570) (cs' := 67) (ss' := 3155409) H65 hbo rfl (by decide) dxi_565 rfl rfl (by decide) dxi_567 (by decide +kernel) (by decide) (fun w => ⟨rfl, rfl⟩) (fun h66 H66 => ?_)
  refine xg_p9 (pc' := 571) (st' := [.ref o]) dxi_570 rfl ?_
  refine xg_p9 (pc' := 574) (st' := [.int 1000, .ref o]) dxi_571 (congrArg (fun v => some (574, dent [.ref o], [Value.int v, Value.ref o])) (by decide : (Int16.ofInt (1000)).toInt32 = (1000 : Int32))) ?_
  refine xr_9 (nI := 1000) (z0 := .inl fun _ => 0) (pc2 := 576) (pc' := 579) (cs' := 68) (ss' := 3156409) H66 hbo rfl (by decide) dxi_574 rfl rfl (by decide) dxi_576 (by decide +kernel) (by decide) (fun w => ⟨rfl, rfl⟩) (fun h67 H67 => ?_)
  refine xg_p9 (pc' := 580) (st' := [.ref o]) dxi_579 rfl ?_
  refine xl_9 (pc' := 582) (st' := [.int 34000, .ref o]) dxi_580 rfl rfl rfl ?_
  refine xr_9 (nI := 34000) (z0 := .inl fun _ => 0) (pc2 := 584) (pc' := 587) (cs' := 69) (ss' := 3190409) H67 hbo rfl (by decide) dxi_582 rfl rfl (by decide) dxi_584 (by decide +kernel) (by decide) (fun w => ⟨rfl, rfl⟩) (fun h68 H68 => ?_)
  exact K _ H68
theorem xc_79 {sa : Nat → Nat} {TL : List (Nat × Nat × List Int32)} {b d o : Nat} {hb h : dH} (hbo : b ≤ o) (H : xS9 hb o 69 true h) (K : ∀ h', xS9 hb o 75 true h' → xG9 sa TL b d hb o 641 [] h' 75 3196409) : xG9 sa TL b d hb o 587 [] h 69 3190409 := by
  refine xg_p9 (pc' := 588) (st' := [.ref o]) dxi_587 rfl ?_
  refine xg_p9 (pc' := 591) (st' := [.int 1000, .ref o]) dxi_588 (congrArg (fun v => some (591, dent [.ref o], [Value.int v, Value.ref o])) (by decide : (Int16.ofInt (1000)).toInt32 = (1000 : Int32))) ?_
  refine xr_9 (nI := 1000) (z0 := .inl fun _ => 0) (pc2 := 593) (pc' := 596) (cs' := 70) (ss' := 3191409) H hbo rfl (by decide) dxi_591 rfl rfl (by decide) dxi_593 (by decide +kernel) (by decide) (fun w => ⟨rfl, rfl⟩) (fun h69 H69 => ?_)
  refine xg_p9 (pc' := 597) (st' := [.ref o]) dxi_596 rfl ?_
  refine xg_p9 (pc' := 600) (st' := [.int 1000, .ref o]) dxi_597 (congrArg (fun v => some (600, dent [.ref o], [Value.int v, Value.ref o])) (by decide : (Int16.ofInt (1000)).toInt32 = (1000 : Int32))) ?_
  refine xr_9 (nI := 1000) (z0 := .inl fun _ => 0) (pc2 := 602) (pc' := 605) (cs' := 71) (ss' := 3192409) H69 hbo rfl (by decide) dxi_600 rfl rfl (by decide) dxi_602 (by decide +kernel) (by decide) (fun w => ⟨rfl, rfl⟩) (fun h70 H70 => ?_)
  refine xg_p9 (pc' := 606) (st' := [.ref o]) dxi_605 rfl ?_
  refine xg_p9 (pc' := 609) (st' := [.int 1000, .ref o]) dxi_606 (congrArg (fun v => some (609, dent [.ref o], [Value.int v, Value.ref o])) (by decide : (Int16.ofInt (1000)).toInt32 = (1000 : Int32))) ?_
  refine xr_9 (nI := 1000) (z0 := .inl fun _ => 0) (pc2 := 611) (pc' := 614) (cs' := 72) (ss' := 3193409) H70 hbo rfl (by decide) dxi_609 rfl rfl (by decide) dxi_611 (by decide +kernel) (by decide) (fun w => ⟨rfl, rfl⟩) (fun h71 H71 => ?_)
  refine xg_p9 (pc' := 615) (st' := [.ref o]) dxi_614 rfl ?_
  refine xg_p9 (pc' := 618) (st' := [.int 1000, .ref o]) dxi_615 (congrArg (fun v => some (618, dent [.ref o], [Value.int v, Value.ref o])) (by decide : (Int16.ofInt (1000)).toInt32 = (1000 : Int32))) ?_
  refine xr_9 (nI := 1000) (z0 := .inl fun _ => 0) (pc2 := 620) (pc' := 623) (cs' := 73) (ss' := 3194409) H71 hbo rfl (by decide) dxi_618 rfl rfl (by decide) dxi_620 (by decide +kernel) (by decide) (fun w => ⟨rfl, rfl⟩) (fun h72 H72 => ?_)
  refine xg_p9 (pc' := 624) (st' := [.ref o]) dxi_623 rfl ?_
  refine xg_p9 (pc' := 627) (st' := [.int 1000, .ref o]) dxi_624 (congrArg (fun v => some (627, dent [.ref o], [Value.int v, Value.ref o])) (by decide : (Int16.ofInt (1000)).toInt32 = (1000 : Int32))) ?_
  refine xr_9 (nI := 1000) (z0 := .inl fun _ => 0) (pc2 := 629) (pc' := 632) (cs' := 74) (ss' := 3195409) H72 hbo rfl (by decide) dxi_627 rfl rfl (by decide) dxi_629 (by decide +kernel) (by decide) (fun w => ⟨rfl, rfl⟩) (fun h73 H73 => ?_)
  refine xg_p9 (pc' := 633) (st' := [.ref o]) dxi_632 rfl ?_
  refine xg_p9 (pc' := 636) (st' := [.int 1000, .ref o]) dxi_633 (congrArg (fun v => some (636, dent [.ref o], [Value.int v, Value.ref o])) (by decide : (Int16.ofInt (1000)).toInt32 = (1000 : Int32))) ?_
  refine xr_9 (nI := 1000) (z0 := .inl fun _ => 0) (pc2 := 638) (pc' := 641) (cs' := 75) (ss' := 3196409) H73 hbo rfl (by decide) dxi_636 rfl rfl (by decide) dxi_638 (by decide +kernel) (by decide) (fun w => ⟨rfl, rfl⟩) (fun h74 H74 => ?_)
  exact K _ H74
theorem x13_run9 {sa : Nat → Nat} {TL : List (Nat × Nat × List Int32)} {b d o : Nat} {hb h : dH} (hbo : b ≤ o) (H : xS9 hb o 0 false h) : xG9 sa TL b (d + 1) hb o 0 [] h 0 0 := by
  refine xg_p9 (pc' := 1) (st' := [.ref o]) dxi_0 rfl ?_
  refine xg_h9 (g := ([], h, 0, 0)) dxi_1 rfl ?_ ?_
  · show doi (dEE sa TL) (d + 1) 16 3 7 [.ref o] h 0 0 = _
    have e : eBI (dEE sa TL) 16 7 = some 0 := by
      show (tBI 16).lookup 7 = some 0
      decide +kernel
    unfold doi
    rw [if_pos e]
    show (if 3 = 3 ∧ 1 ≤ d + 1 ∧ (([] : List Value).map fun v => v.category).sum ≤ 8 then some (([] : List Value), h, 0, 0) else none) = _
    exact if_pos ⟨rfl, by omega, by decide⟩
  refine xc_09 hbo H (fun h0 H0 => ?_)
  refine xc_19 hbo H0 (fun h1 H1 => ?_)
  refine xc_29 hbo H1 (fun h2 H2 => ?_)
  refine xc_39 hbo H2 (fun h3 H3 => ?_)
  refine xc_49 hbo H3 (fun h4 H4 => ?_)
  refine xc_59 hbo H4 (fun h5 H5 => ?_)
  refine xc_69 hbo H5 (fun h6 H6 => ?_)
  refine xc_79 hbo H6 (fun h7 H7 => ?_)
  exact ⟨_, H7, go_ret (r := mX139) dxi_641 rfl rfl rfl⟩
