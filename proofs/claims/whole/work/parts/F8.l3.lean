set_option maxHeartbeats 1600000
/-! the law's body: its instructions -/
theorem dlw_0 : decode code 0 = .ok (.new 8, 3) := by decide +kernel
theorem dlw_3 : decode code 3 = .ok (.dup, 1) := by decide +kernel
theorem dlw_4 : decode code 4 = .ok (.invokespecial 90, 3) := by decide +kernel
theorem dlw_7 : decode code 7 = .ok (.astore_n 1, 1) := by decide +kernel
theorem dlw_8 : decode code 8 = .ok (.new 91, 3) := by decide +kernel
theorem dlw_11 : decode code 11 = .ok (.dup, 1) := by decide +kernel
theorem dlw_12 : decode code 12 = .ok (.invokespecial 93, 3) := by decide +kernel
theorem dlw_15 : decode code 15 = .ok (.astore_n 2, 1) := by decide +kernel
theorem dlw_16 : decode code 16 = .ok (.iconst 1, 1) := by decide +kernel
theorem dlw_17 : decode code 17 = .ok (.newarray .long, 2) := by decide +kernel
theorem dlw_19 : decode code 19 = .ok (.astore_n 3, 1) := by decide +kernel
theorem dlw_20 : decode code 20 = .ok (.iconst 0, 1) := by decide +kernel
theorem dlw_21 : decode code 21 = .ok (.istore 4, 2) := by decide +kernel
theorem dlw_23 : decode code 23 = .ok (.iload 4, 2) := by decide +kernel
theorem dlw_25 : decode code 25 = .ok (.aload_n 0, 1) := by decide +kernel
theorem dlw_26 : decode code 26 = .ok (.arraylength, 1) := by decide +kernel
theorem dlw_27 : decode code 27 = .ok (.bipush 6, 2) := by decide +kernel
theorem dlw_29 : decode code 29 = .ok (.isub, 1) := by decide +kernel
theorem dlw_30 : decode code 30 = .ok (.if_icmp .gt 1548, 3) := by decide +kernel
theorem dlw_33 : decode code 33 = .ok (.aload_n 0, 1) := by decide +kernel
theorem dlw_34 : decode code 34 = .ok (.iload 4, 2) := by decide +kernel
theorem dlw_36 : decode code 36 = .ok (.iaload, 1) := by decide +kernel
theorem dlw_37 : decode code 37 = .ok (.bipush 31, 2) := by decide +kernel
theorem dlw_39 : decode code 39 = .ok (.iand, 1) := by decide +kernel
theorem dlw_40 : decode code 40 = .ok (.tableswitch 1532 0 23 #[112, 216, 252, 265, 278, 334, 390, 458, 538, 618, 686, 754, 810, 854, 898, 966, 1022, 1090, 1146, 1159, 1259, 1315, 1370, 1445], 112) := by decide +kernel
theorem dlw_152 : decode code 152 = .ok (.aload_n 1, 1) := by decide +kernel
theorem dlw_153 : decode code 153 = .ok (.aload_n 0, 1) := by decide +kernel
theorem dlw_154 : decode code 154 = .ok (.iload 4, 2) := by decide +kernel
theorem dlw_156 : decode code 156 = .ok (.iconst 1, 1) := by decide +kernel
theorem dlw_157 : decode code 157 = .ok (.iadd, 1) := by decide +kernel
theorem dlw_158 : decode code 158 = .ok (.iaload, 1) := by decide +kernel
theorem dlw_159 : decode code 159 = .ok (.aload_n 0, 1) := by decide +kernel
theorem dlw_160 : decode code 160 = .ok (.iload 4, 2) := by decide +kernel
theorem dlw_162 : decode code 162 = .ok (.iconst 2, 1) := by decide +kernel
theorem dlw_163 : decode code 163 = .ok (.iadd, 1) := by decide +kernel
theorem dlw_164 : decode code 164 = .ok (.iaload, 1) := by decide +kernel
theorem dlw_165 : decode code 165 = .ok (.aload_n 0, 1) := by decide +kernel
theorem dlw_166 : decode code 166 = .ok (.iload 4, 2) := by decide +kernel
theorem dlw_168 : decode code 168 = .ok (.iconst 3, 1) := by decide +kernel
theorem dlw_169 : decode code 169 = .ok (.iadd, 1) := by decide +kernel
theorem dlw_170 : decode code 170 = .ok (.iaload, 1) := by decide +kernel
theorem dlw_171 : decode code 171 = .ok (.aload_n 0, 1) := by decide +kernel
theorem dlw_172 : decode code 172 = .ok (.iload 4, 2) := by decide +kernel
theorem dlw_174 : decode code 174 = .ok (.iconst 4, 1) := by decide +kernel
theorem dlw_175 : decode code 175 = .ok (.iadd, 1) := by decide +kernel
theorem dlw_176 : decode code 176 = .ok (.iaload, 1) := by decide +kernel
theorem dlw_177 : decode code 177 = .ok (.aload_n 0, 1) := by decide +kernel
theorem dlw_178 : decode code 178 = .ok (.iload 4, 2) := by decide +kernel
theorem dlw_180 : decode code 180 = .ok (.iconst 5, 1) := by decide +kernel
theorem dlw_181 : decode code 181 = .ok (.iadd, 1) := by decide +kernel
theorem dlw_182 : decode code 182 = .ok (.iaload, 1) := by decide +kernel
theorem dlw_183 : decode code 183 = .ok (.aload_n 3, 1) := by decide +kernel
theorem dlw_184 : decode code 184 = .ok (.invokestatic 94, 3) := by decide +kernel
theorem dlw_187 : decode code 187 = .ok (.istore 5, 2) := by decide +kernel
theorem dlw_189 : decode code 189 = .ok (.aload_n 2, 1) := by decide +kernel
theorem dlw_190 : decode code 190 = .ok (.aload_n 0, 1) := by decide +kernel
theorem dlw_191 : decode code 191 = .ok (.iload 4, 2) := by decide +kernel
theorem dlw_193 : decode code 193 = .ok (.iconst 1, 1) := by decide +kernel
theorem dlw_194 : decode code 194 = .ok (.iadd, 1) := by decide +kernel
theorem dlw_195 : decode code 195 = .ok (.iaload, 1) := by decide +kernel
theorem dlw_196 : decode code 196 = .ok (.aload_n 0, 1) := by decide +kernel
theorem dlw_197 : decode code 197 = .ok (.iload 4, 2) := by decide +kernel
theorem dlw_199 : decode code 199 = .ok (.iconst 2, 1) := by decide +kernel
theorem dlw_200 : decode code 200 = .ok (.iadd, 1) := by decide +kernel
theorem dlw_201 : decode code 201 = .ok (.iaload, 1) := by decide +kernel
theorem dlw_202 : decode code 202 = .ok (.aload_n 0, 1) := by decide +kernel
theorem dlw_203 : decode code 203 = .ok (.iload 4, 2) := by decide +kernel
theorem dlw_205 : decode code 205 = .ok (.iconst 3, 1) := by decide +kernel
theorem dlw_206 : decode code 206 = .ok (.iadd, 1) := by decide +kernel
theorem dlw_207 : decode code 207 = .ok (.iaload, 1) := by decide +kernel
theorem dlw_208 : decode code 208 = .ok (.aload_n 0, 1) := by decide +kernel
theorem dlw_209 : decode code 209 = .ok (.iload 4, 2) := by decide +kernel
theorem dlw_211 : decode code 211 = .ok (.iconst 4, 1) := by decide +kernel
theorem dlw_212 : decode code 212 = .ok (.iadd, 1) := by decide +kernel
theorem dlw_213 : decode code 213 = .ok (.iaload, 1) := by decide +kernel
theorem dlw_214 : decode code 214 = .ok (.aload_n 0, 1) := by decide +kernel
theorem dlw_215 : decode code 215 = .ok (.iload 4, 2) := by decide +kernel
theorem dlw_217 : decode code 217 = .ok (.iconst 5, 1) := by decide +kernel
theorem dlw_218 : decode code 218 = .ok (.iadd, 1) := by decide +kernel
theorem dlw_219 : decode code 219 = .ok (.iaload, 1) := by decide +kernel
theorem dlw_220 : decode code 220 = .ok (.invokevirtual 99, 3) := by decide +kernel
theorem dlw_223 : decode code 223 = .ok (.istore 6, 2) := by decide +kernel
theorem dlw_225 : decode code 225 = .ok (.aload_n 2, 1) := by decide +kernel
theorem dlw_226 : decode code 226 = .ok (.invokevirtual 100, 3) := by decide +kernel
theorem dlw_229 : decode code 229 = .ok (.iload 5, 2) := by decide +kernel
theorem dlw_231 : decode code 231 = .ok (.if_icmp .eq 5, 3) := by decide +kernel
theorem dlw_234 : decode code 234 = .ok (.iconst 0, 1) := by decide +kernel
theorem dlw_235 : decode code 235 = .ok (.ireturn, 1) := by decide +kernel
theorem dlw_236 : decode code 236 = .ok (.iload 5, 2) := by decide +kernel
theorem dlw_238 : decode code 238 = .ok (.ifCond .ne 15, 3) := by decide +kernel
theorem dlw_241 : decode code 241 = .ok (.aload_n 3, 1) := by decide +kernel
theorem dlw_242 : decode code 242 = .ok (.iconst 0, 1) := by decide +kernel
theorem dlw_243 : decode code 243 = .ok (.laload, 1) := by decide +kernel
theorem dlw_244 : decode code 244 = .ok (.iload 6, 2) := by decide +kernel
theorem dlw_246 : decode code 246 = .ok (.i2l, 1) := by decide +kernel
theorem dlw_247 : decode code 247 = .ok (.lcmp, 1) := by decide +kernel
theorem dlw_248 : decode code 248 = .ok (.ifCond .eq 5, 3) := by decide +kernel
theorem dlw_251 : decode code 251 = .ok (.iconst 0, 1) := by decide +kernel
theorem dlw_252 : decode code 252 = .ok (.ireturn, 1) := by decide +kernel
theorem dlw_253 : decode code 253 = .ok (.goto 1319, 3) := by decide +kernel
theorem dlw_256 : decode code 256 = .ok (.aload_n 1, 1) := by decide +kernel
theorem dlw_257 : decode code 257 = .ok (.aload_n 0, 1) := by decide +kernel
theorem dlw_258 : decode code 258 = .ok (.iload 4, 2) := by decide +kernel
theorem dlw_260 : decode code 260 = .ok (.iconst 1, 1) := by decide +kernel
theorem dlw_261 : decode code 261 = .ok (.iadd, 1) := by decide +kernel
theorem dlw_262 : decode code 262 = .ok (.iaload, 1) := by decide +kernel
theorem dlw_263 : decode code 263 = .ok (.invokestatic 103, 3) := by decide +kernel
theorem dlw_266 : decode code 266 = .ok (.istore 5, 2) := by decide +kernel
theorem dlw_268 : decode code 268 = .ok (.aload_n 2, 1) := by decide +kernel
theorem dlw_269 : decode code 269 = .ok (.aload_n 0, 1) := by decide +kernel
theorem dlw_270 : decode code 270 = .ok (.iload 4, 2) := by decide +kernel
theorem dlw_272 : decode code 272 = .ok (.iconst 1, 1) := by decide +kernel
theorem dlw_273 : decode code 273 = .ok (.iadd, 1) := by decide +kernel
theorem dlw_274 : decode code 274 = .ok (.iaload, 1) := by decide +kernel
theorem dlw_275 : decode code 275 = .ok (.invokevirtual 106, 3) := by decide +kernel
theorem dlw_278 : decode code 278 = .ok (.aload_n 2, 1) := by decide +kernel
theorem dlw_279 : decode code 279 = .ok (.invokevirtual 100, 3) := by decide +kernel
theorem dlw_282 : decode code 282 = .ok (.iload 5, 2) := by decide +kernel
theorem dlw_284 : decode code 284 = .ok (.if_icmp .eq 5, 3) := by decide +kernel
theorem dlw_287 : decode code 287 = .ok (.iconst 0, 1) := by decide +kernel
theorem dlw_288 : decode code 288 = .ok (.ireturn, 1) := by decide +kernel
theorem dlw_289 : decode code 289 = .ok (.goto 1283, 3) := by decide +kernel
theorem dlw_292 : decode code 292 = .ok (.aload_n 1, 1) := by decide +kernel
theorem dlw_293 : decode code 293 = .ok (.invokevirtual 107, 3) := by decide +kernel
theorem dlw_296 : decode code 296 = .ok (.aload_n 2, 1) := by decide +kernel
theorem dlw_297 : decode code 297 = .ok (.invokevirtual 110, 3) := by decide +kernel
theorem dlw_300 : decode code 300 = .ok (.if_icmp .eq 1272, 3) := by decide +kernel
theorem dlw_303 : decode code 303 = .ok (.iconst 0, 1) := by decide +kernel
theorem dlw_304 : decode code 304 = .ok (.ireturn, 1) := by decide +kernel
theorem dlw_305 : decode code 305 = .ok (.aload_n 1, 1) := by decide +kernel
theorem dlw_306 : decode code 306 = .ok (.invokevirtual 111, 3) := by decide +kernel
theorem dlw_309 : decode code 309 = .ok (.aload_n 2, 1) := by decide +kernel
theorem dlw_310 : decode code 310 = .ok (.invokevirtual 114, 3) := by decide +kernel
theorem dlw_313 : decode code 313 = .ok (.if_icmp .eq 1259, 3) := by decide +kernel
theorem dlw_316 : decode code 316 = .ok (.iconst 0, 1) := by decide +kernel
theorem dlw_317 : decode code 317 = .ok (.ireturn, 1) := by decide +kernel
theorem dlw_318 : decode code 318 = .ok (.aload_n 1, 1) := by decide +kernel
theorem dlw_319 : decode code 319 = .ok (.aload_n 0, 1) := by decide +kernel
theorem dlw_320 : decode code 320 = .ok (.iload 4, 2) := by decide +kernel
theorem dlw_322 : decode code 322 = .ok (.iconst 1, 1) := by decide +kernel
theorem dlw_323 : decode code 323 = .ok (.iadd, 1) := by decide +kernel
theorem dlw_324 : decode code 324 = .ok (.iaload, 1) := by decide +kernel
theorem dlw_325 : decode code 325 = .ok (.aload_n 3, 1) := by decide +kernel
theorem dlw_326 : decode code 326 = .ok (.invokestatic 115, 3) := by decide +kernel
theorem dlw_329 : decode code 329 = .ok (.istore 5, 2) := by decide +kernel
theorem dlw_331 : decode code 331 = .ok (.aload_n 2, 1) := by decide +kernel
theorem dlw_332 : decode code 332 = .ok (.aload_n 0, 1) := by decide +kernel
theorem dlw_333 : decode code 333 = .ok (.iload 4, 2) := by decide +kernel
theorem dlw_335 : decode code 335 = .ok (.iconst 1, 1) := by decide +kernel
theorem dlw_336 : decode code 336 = .ok (.iadd, 1) := by decide +kernel
theorem dlw_337 : decode code 337 = .ok (.iaload, 1) := by decide +kernel
theorem dlw_338 : decode code 338 = .ok (.invokevirtual 118, 3) := by decide +kernel
theorem dlw_341 : decode code 341 = .ok (.istore 6, 2) := by decide +kernel
theorem dlw_343 : decode code 343 = .ok (.aload_n 2, 1) := by decide +kernel
theorem dlw_344 : decode code 344 = .ok (.invokevirtual 100, 3) := by decide +kernel
theorem dlw_347 : decode code 347 = .ok (.iload 5, 2) := by decide +kernel
theorem dlw_349 : decode code 349 = .ok (.if_icmp .eq 5, 3) := by decide +kernel
theorem dlw_352 : decode code 352 = .ok (.iconst 0, 1) := by decide +kernel
theorem dlw_353 : decode code 353 = .ok (.ireturn, 1) := by decide +kernel
theorem dlw_354 : decode code 354 = .ok (.iload 5, 2) := by decide +kernel
theorem dlw_356 : decode code 356 = .ok (.ifCond .ne 15, 3) := by decide +kernel
theorem dlw_359 : decode code 359 = .ok (.aload_n 3, 1) := by decide +kernel
theorem dlw_360 : decode code 360 = .ok (.iconst 0, 1) := by decide +kernel
theorem dlw_361 : decode code 361 = .ok (.laload, 1) := by decide +kernel
theorem dlw_362 : decode code 362 = .ok (.iload 6, 2) := by decide +kernel
theorem dlw_364 : decode code 364 = .ok (.i2l, 1) := by decide +kernel
theorem dlw_365 : decode code 365 = .ok (.lcmp, 1) := by decide +kernel
theorem dlw_366 : decode code 366 = .ok (.ifCond .eq 5, 3) := by decide +kernel
theorem dlw_369 : decode code 369 = .ok (.iconst 0, 1) := by decide +kernel
theorem dlw_370 : decode code 370 = .ok (.ireturn, 1) := by decide +kernel
theorem dlw_371 : decode code 371 = .ok (.goto 1201, 3) := by decide +kernel
theorem dlw_374 : decode code 374 = .ok (.aload_n 1, 1) := by decide +kernel
theorem dlw_375 : decode code 375 = .ok (.aload_n 0, 1) := by decide +kernel
theorem dlw_376 : decode code 376 = .ok (.iload 4, 2) := by decide +kernel
theorem dlw_378 : decode code 378 = .ok (.iconst 1, 1) := by decide +kernel
theorem dlw_379 : decode code 379 = .ok (.iadd, 1) := by decide +kernel
theorem dlw_380 : decode code 380 = .ok (.iaload, 1) := by decide +kernel
theorem dlw_381 : decode code 381 = .ok (.aload_n 3, 1) := by decide +kernel
theorem dlw_382 : decode code 382 = .ok (.invokestatic 119, 3) := by decide +kernel
theorem dlw_385 : decode code 385 = .ok (.istore 5, 2) := by decide +kernel
theorem dlw_387 : decode code 387 = .ok (.aload_n 2, 1) := by decide +kernel
theorem dlw_388 : decode code 388 = .ok (.aload_n 0, 1) := by decide +kernel
theorem dlw_389 : decode code 389 = .ok (.iload 4, 2) := by decide +kernel
theorem dlw_391 : decode code 391 = .ok (.iconst 1, 1) := by decide +kernel
theorem dlw_392 : decode code 392 = .ok (.iadd, 1) := by decide +kernel
theorem dlw_393 : decode code 393 = .ok (.iaload, 1) := by decide +kernel
theorem dlw_394 : decode code 394 = .ok (.invokevirtual 121, 3) := by decide +kernel
theorem dlw_397 : decode code 397 = .ok (.istore 6, 2) := by decide +kernel
theorem dlw_399 : decode code 399 = .ok (.aload_n 2, 1) := by decide +kernel
theorem dlw_400 : decode code 400 = .ok (.invokevirtual 100, 3) := by decide +kernel
theorem dlw_403 : decode code 403 = .ok (.iload 5, 2) := by decide +kernel
theorem dlw_405 : decode code 405 = .ok (.if_icmp .eq 5, 3) := by decide +kernel
theorem dlw_408 : decode code 408 = .ok (.iconst 0, 1) := by decide +kernel
theorem dlw_409 : decode code 409 = .ok (.ireturn, 1) := by decide +kernel
theorem dlw_410 : decode code 410 = .ok (.iload 5, 2) := by decide +kernel
theorem dlw_412 : decode code 412 = .ok (.ifCond .ne 15, 3) := by decide +kernel
theorem dlw_415 : decode code 415 = .ok (.aload_n 3, 1) := by decide +kernel
theorem dlw_416 : decode code 416 = .ok (.iconst 0, 1) := by decide +kernel
theorem dlw_417 : decode code 417 = .ok (.laload, 1) := by decide +kernel
theorem dlw_418 : decode code 418 = .ok (.iload 6, 2) := by decide +kernel
theorem dlw_420 : decode code 420 = .ok (.i2l, 1) := by decide +kernel
theorem dlw_421 : decode code 421 = .ok (.lcmp, 1) := by decide +kernel
theorem dlw_422 : decode code 422 = .ok (.ifCond .eq 5, 3) := by decide +kernel
theorem dlw_425 : decode code 425 = .ok (.iconst 0, 1) := by decide +kernel
theorem dlw_426 : decode code 426 = .ok (.ireturn, 1) := by decide +kernel
theorem dlw_427 : decode code 427 = .ok (.goto 1145, 3) := by decide +kernel
theorem dlw_430 : decode code 430 = .ok (.aload_n 1, 1) := by decide +kernel
theorem dlw_431 : decode code 431 = .ok (.aload_n 0, 1) := by decide +kernel
theorem dlw_432 : decode code 432 = .ok (.iload 4, 2) := by decide +kernel
theorem dlw_434 : decode code 434 = .ok (.iconst 1, 1) := by decide +kernel
theorem dlw_435 : decode code 435 = .ok (.iadd, 1) := by decide +kernel
theorem dlw_436 : decode code 436 = .ok (.iaload, 1) := by decide +kernel
theorem dlw_437 : decode code 437 = .ok (.aload_n 0, 1) := by decide +kernel
theorem dlw_438 : decode code 438 = .ok (.iload 4, 2) := by decide +kernel
theorem dlw_440 : decode code 440 = .ok (.iconst 2, 1) := by decide +kernel
theorem dlw_441 : decode code 441 = .ok (.iadd, 1) := by decide +kernel
theorem dlw_442 : decode code 442 = .ok (.iaload, 1) := by decide +kernel
theorem dlw_443 : decode code 443 = .ok (.aload_n 3, 1) := by decide +kernel
theorem dlw_444 : decode code 444 = .ok (.invokestatic 122, 3) := by decide +kernel
theorem dlw_447 : decode code 447 = .ok (.istore 5, 2) := by decide +kernel
theorem dlw_449 : decode code 449 = .ok (.aload_n 2, 1) := by decide +kernel
theorem dlw_450 : decode code 450 = .ok (.aload_n 0, 1) := by decide +kernel
theorem dlw_451 : decode code 451 = .ok (.iload 4, 2) := by decide +kernel
theorem dlw_453 : decode code 453 = .ok (.iconst 1, 1) := by decide +kernel
theorem dlw_454 : decode code 454 = .ok (.iadd, 1) := by decide +kernel
theorem dlw_455 : decode code 455 = .ok (.iaload, 1) := by decide +kernel
theorem dlw_456 : decode code 456 = .ok (.aload_n 0, 1) := by decide +kernel
theorem dlw_457 : decode code 457 = .ok (.iload 4, 2) := by decide +kernel
theorem dlw_459 : decode code 459 = .ok (.iconst 2, 1) := by decide +kernel
theorem dlw_460 : decode code 460 = .ok (.iadd, 1) := by decide +kernel
theorem dlw_461 : decode code 461 = .ok (.iaload, 1) := by decide +kernel
theorem dlw_462 : decode code 462 = .ok (.invokevirtual 125, 3) := by decide +kernel
theorem dlw_465 : decode code 465 = .ok (.istore 6, 2) := by decide +kernel
theorem dlw_467 : decode code 467 = .ok (.aload_n 2, 1) := by decide +kernel
theorem dlw_468 : decode code 468 = .ok (.invokevirtual 100, 3) := by decide +kernel
theorem dlw_471 : decode code 471 = .ok (.iload 5, 2) := by decide +kernel
theorem dlw_473 : decode code 473 = .ok (.if_icmp .eq 5, 3) := by decide +kernel
theorem dlw_476 : decode code 476 = .ok (.iconst 0, 1) := by decide +kernel
theorem dlw_477 : decode code 477 = .ok (.ireturn, 1) := by decide +kernel
theorem dlw_478 : decode code 478 = .ok (.iload 5, 2) := by decide +kernel
theorem dlw_480 : decode code 480 = .ok (.ifCond .ne 15, 3) := by decide +kernel
theorem dlw_483 : decode code 483 = .ok (.aload_n 3, 1) := by decide +kernel
theorem dlw_484 : decode code 484 = .ok (.iconst 0, 1) := by decide +kernel
theorem dlw_485 : decode code 485 = .ok (.laload, 1) := by decide +kernel
theorem dlw_486 : decode code 486 = .ok (.iload 6, 2) := by decide +kernel
theorem dlw_488 : decode code 488 = .ok (.i2l, 1) := by decide +kernel
theorem dlw_489 : decode code 489 = .ok (.lcmp, 1) := by decide +kernel
theorem dlw_490 : decode code 490 = .ok (.ifCond .eq 5, 3) := by decide +kernel
theorem dlw_493 : decode code 493 = .ok (.iconst 0, 1) := by decide +kernel
theorem dlw_494 : decode code 494 = .ok (.ireturn, 1) := by decide +kernel
theorem dlw_495 : decode code 495 = .ok (.goto 1077, 3) := by decide +kernel
theorem dlw_498 : decode code 498 = .ok (.aload_n 1, 1) := by decide +kernel
theorem dlw_499 : decode code 499 = .ok (.aload_n 0, 1) := by decide +kernel
theorem dlw_500 : decode code 500 = .ok (.iload 4, 2) := by decide +kernel
theorem dlw_502 : decode code 502 = .ok (.iconst 1, 1) := by decide +kernel
theorem dlw_503 : decode code 503 = .ok (.iadd, 1) := by decide +kernel
theorem dlw_504 : decode code 504 = .ok (.iaload, 1) := by decide +kernel
theorem dlw_505 : decode code 505 = .ok (.aload_n 0, 1) := by decide +kernel
theorem dlw_506 : decode code 506 = .ok (.iload 4, 2) := by decide +kernel
theorem dlw_508 : decode code 508 = .ok (.iconst 2, 1) := by decide +kernel
theorem dlw_509 : decode code 509 = .ok (.iadd, 1) := by decide +kernel
theorem dlw_510 : decode code 510 = .ok (.iaload, 1) := by decide +kernel
theorem dlw_511 : decode code 511 = .ok (.aload_n 0, 1) := by decide +kernel
theorem dlw_512 : decode code 512 = .ok (.iload 4, 2) := by decide +kernel
theorem dlw_514 : decode code 514 = .ok (.iconst 3, 1) := by decide +kernel
theorem dlw_515 : decode code 515 = .ok (.iadd, 1) := by decide +kernel
theorem dlw_516 : decode code 516 = .ok (.iaload, 1) := by decide +kernel
theorem dlw_517 : decode code 517 = .ok (.aload_n 3, 1) := by decide +kernel
theorem dlw_518 : decode code 518 = .ok (.invokestatic 126, 3) := by decide +kernel
theorem dlw_521 : decode code 521 = .ok (.istore 5, 2) := by decide +kernel
theorem dlw_523 : decode code 523 = .ok (.aload_n 2, 1) := by decide +kernel
theorem dlw_524 : decode code 524 = .ok (.aload_n 0, 1) := by decide +kernel
theorem dlw_525 : decode code 525 = .ok (.iload 4, 2) := by decide +kernel
theorem dlw_527 : decode code 527 = .ok (.iconst 1, 1) := by decide +kernel
theorem dlw_528 : decode code 528 = .ok (.iadd, 1) := by decide +kernel
theorem dlw_529 : decode code 529 = .ok (.iaload, 1) := by decide +kernel
theorem dlw_530 : decode code 530 = .ok (.aload_n 0, 1) := by decide +kernel
theorem dlw_531 : decode code 531 = .ok (.iload 4, 2) := by decide +kernel
theorem dlw_533 : decode code 533 = .ok (.iconst 2, 1) := by decide +kernel
theorem dlw_534 : decode code 534 = .ok (.iadd, 1) := by decide +kernel
theorem dlw_535 : decode code 535 = .ok (.iaload, 1) := by decide +kernel
theorem dlw_536 : decode code 536 = .ok (.aload_n 0, 1) := by decide +kernel
theorem dlw_537 : decode code 537 = .ok (.iload 4, 2) := by decide +kernel
theorem dlw_539 : decode code 539 = .ok (.iconst 3, 1) := by decide +kernel
theorem dlw_540 : decode code 540 = .ok (.iadd, 1) := by decide +kernel
theorem dlw_541 : decode code 541 = .ok (.iaload, 1) := by decide +kernel
theorem dlw_542 : decode code 542 = .ok (.invokevirtual 129, 3) := by decide +kernel
theorem dlw_545 : decode code 545 = .ok (.istore 6, 2) := by decide +kernel
theorem dlw_547 : decode code 547 = .ok (.aload_n 2, 1) := by decide +kernel
theorem dlw_548 : decode code 548 = .ok (.invokevirtual 100, 3) := by decide +kernel
theorem dlw_551 : decode code 551 = .ok (.iload 5, 2) := by decide +kernel
theorem dlw_553 : decode code 553 = .ok (.if_icmp .eq 5, 3) := by decide +kernel
theorem dlw_556 : decode code 556 = .ok (.iconst 0, 1) := by decide +kernel
theorem dlw_557 : decode code 557 = .ok (.ireturn, 1) := by decide +kernel
theorem dlw_558 : decode code 558 = .ok (.iload 5, 2) := by decide +kernel
theorem dlw_560 : decode code 560 = .ok (.ifCond .ne 15, 3) := by decide +kernel
theorem dlw_563 : decode code 563 = .ok (.aload_n 3, 1) := by decide +kernel
theorem dlw_564 : decode code 564 = .ok (.iconst 0, 1) := by decide +kernel
theorem dlw_565 : decode code 565 = .ok (.laload, 1) := by decide +kernel
theorem dlw_566 : decode code 566 = .ok (.iload 6, 2) := by decide +kernel
theorem dlw_568 : decode code 568 = .ok (.i2l, 1) := by decide +kernel
theorem dlw_569 : decode code 569 = .ok (.lcmp, 1) := by decide +kernel
theorem dlw_570 : decode code 570 = .ok (.ifCond .eq 5, 3) := by decide +kernel
theorem dlw_573 : decode code 573 = .ok (.iconst 0, 1) := by decide +kernel
theorem dlw_574 : decode code 574 = .ok (.ireturn, 1) := by decide +kernel
theorem dlw_575 : decode code 575 = .ok (.goto 997, 3) := by decide +kernel
theorem dlw_578 : decode code 578 = .ok (.aload_n 1, 1) := by decide +kernel
theorem dlw_579 : decode code 579 = .ok (.aload_n 0, 1) := by decide +kernel
theorem dlw_580 : decode code 580 = .ok (.iload 4, 2) := by decide +kernel
theorem dlw_582 : decode code 582 = .ok (.iconst 1, 1) := by decide +kernel
theorem dlw_583 : decode code 583 = .ok (.iadd, 1) := by decide +kernel
theorem dlw_584 : decode code 584 = .ok (.iaload, 1) := by decide +kernel
theorem dlw_585 : decode code 585 = .ok (.aload_n 0, 1) := by decide +kernel
theorem dlw_586 : decode code 586 = .ok (.iload 4, 2) := by decide +kernel
theorem dlw_588 : decode code 588 = .ok (.iconst 2, 1) := by decide +kernel
theorem dlw_589 : decode code 589 = .ok (.iadd, 1) := by decide +kernel
theorem dlw_590 : decode code 590 = .ok (.iaload, 1) := by decide +kernel
theorem dlw_591 : decode code 591 = .ok (.aload_n 0, 1) := by decide +kernel
theorem dlw_592 : decode code 592 = .ok (.iload 4, 2) := by decide +kernel
theorem dlw_594 : decode code 594 = .ok (.iconst 3, 1) := by decide +kernel
theorem dlw_595 : decode code 595 = .ok (.iadd, 1) := by decide +kernel
theorem dlw_596 : decode code 596 = .ok (.iaload, 1) := by decide +kernel
theorem dlw_597 : decode code 597 = .ok (.aload_n 3, 1) := by decide +kernel
theorem dlw_598 : decode code 598 = .ok (.invokestatic 130, 3) := by decide +kernel
theorem dlw_601 : decode code 601 = .ok (.istore 5, 2) := by decide +kernel
theorem dlw_603 : decode code 603 = .ok (.aload_n 2, 1) := by decide +kernel
theorem dlw_604 : decode code 604 = .ok (.aload_n 0, 1) := by decide +kernel
theorem dlw_605 : decode code 605 = .ok (.iload 4, 2) := by decide +kernel
theorem dlw_607 : decode code 607 = .ok (.iconst 1, 1) := by decide +kernel
theorem dlw_608 : decode code 608 = .ok (.iadd, 1) := by decide +kernel
theorem dlw_609 : decode code 609 = .ok (.iaload, 1) := by decide +kernel
theorem dlw_610 : decode code 610 = .ok (.aload_n 0, 1) := by decide +kernel
theorem dlw_611 : decode code 611 = .ok (.iload 4, 2) := by decide +kernel
theorem dlw_613 : decode code 613 = .ok (.iconst 2, 1) := by decide +kernel
theorem dlw_614 : decode code 614 = .ok (.iadd, 1) := by decide +kernel
theorem dlw_615 : decode code 615 = .ok (.iaload, 1) := by decide +kernel
theorem dlw_616 : decode code 616 = .ok (.aload_n 0, 1) := by decide +kernel
theorem dlw_617 : decode code 617 = .ok (.iload 4, 2) := by decide +kernel
theorem dlw_619 : decode code 619 = .ok (.iconst 3, 1) := by decide +kernel
theorem dlw_620 : decode code 620 = .ok (.iadd, 1) := by decide +kernel
theorem dlw_621 : decode code 621 = .ok (.iaload, 1) := by decide +kernel
theorem dlw_622 : decode code 622 = .ok (.invokevirtual 132, 3) := by decide +kernel
theorem dlw_625 : decode code 625 = .ok (.istore 6, 2) := by decide +kernel
theorem dlw_627 : decode code 627 = .ok (.aload_n 2, 1) := by decide +kernel
theorem dlw_628 : decode code 628 = .ok (.invokevirtual 100, 3) := by decide +kernel
theorem dlw_631 : decode code 631 = .ok (.iload 5, 2) := by decide +kernel
theorem dlw_633 : decode code 633 = .ok (.if_icmp .eq 5, 3) := by decide +kernel
theorem dlw_636 : decode code 636 = .ok (.iconst 0, 1) := by decide +kernel
theorem dlw_637 : decode code 637 = .ok (.ireturn, 1) := by decide +kernel
theorem dlw_638 : decode code 638 = .ok (.iload 5, 2) := by decide +kernel
theorem dlw_640 : decode code 640 = .ok (.ifCond .ne 15, 3) := by decide +kernel
theorem dlw_643 : decode code 643 = .ok (.aload_n 3, 1) := by decide +kernel
theorem dlw_644 : decode code 644 = .ok (.iconst 0, 1) := by decide +kernel
theorem dlw_645 : decode code 645 = .ok (.laload, 1) := by decide +kernel
theorem dlw_646 : decode code 646 = .ok (.iload 6, 2) := by decide +kernel
theorem dlw_648 : decode code 648 = .ok (.i2l, 1) := by decide +kernel
theorem dlw_649 : decode code 649 = .ok (.lcmp, 1) := by decide +kernel
theorem dlw_650 : decode code 650 = .ok (.ifCond .eq 5, 3) := by decide +kernel
theorem dlw_653 : decode code 653 = .ok (.iconst 0, 1) := by decide +kernel
theorem dlw_654 : decode code 654 = .ok (.ireturn, 1) := by decide +kernel
theorem dlw_655 : decode code 655 = .ok (.goto 917, 3) := by decide +kernel
theorem dlw_658 : decode code 658 = .ok (.aload_n 1, 1) := by decide +kernel
theorem dlw_659 : decode code 659 = .ok (.aload_n 0, 1) := by decide +kernel
theorem dlw_660 : decode code 660 = .ok (.iload 4, 2) := by decide +kernel
theorem dlw_662 : decode code 662 = .ok (.iconst 1, 1) := by decide +kernel
theorem dlw_663 : decode code 663 = .ok (.iadd, 1) := by decide +kernel
theorem dlw_664 : decode code 664 = .ok (.iaload, 1) := by decide +kernel
theorem dlw_665 : decode code 665 = .ok (.aload_n 0, 1) := by decide +kernel
theorem dlw_666 : decode code 666 = .ok (.iload 4, 2) := by decide +kernel
theorem dlw_668 : decode code 668 = .ok (.iconst 2, 1) := by decide +kernel
theorem dlw_669 : decode code 669 = .ok (.iadd, 1) := by decide +kernel
theorem dlw_670 : decode code 670 = .ok (.iaload, 1) := by decide +kernel
theorem dlw_671 : decode code 671 = .ok (.aload_n 3, 1) := by decide +kernel
theorem dlw_672 : decode code 672 = .ok (.invokestatic 133, 3) := by decide +kernel
theorem dlw_675 : decode code 675 = .ok (.istore 5, 2) := by decide +kernel
theorem dlw_677 : decode code 677 = .ok (.aload_n 2, 1) := by decide +kernel
theorem dlw_678 : decode code 678 = .ok (.aload_n 0, 1) := by decide +kernel
theorem dlw_679 : decode code 679 = .ok (.iload 4, 2) := by decide +kernel
theorem dlw_681 : decode code 681 = .ok (.iconst 1, 1) := by decide +kernel
theorem dlw_682 : decode code 682 = .ok (.iadd, 1) := by decide +kernel
theorem dlw_683 : decode code 683 = .ok (.iaload, 1) := by decide +kernel
theorem dlw_684 : decode code 684 = .ok (.aload_n 0, 1) := by decide +kernel
theorem dlw_685 : decode code 685 = .ok (.iload 4, 2) := by decide +kernel
theorem dlw_687 : decode code 687 = .ok (.iconst 2, 1) := by decide +kernel
theorem dlw_688 : decode code 688 = .ok (.iadd, 1) := by decide +kernel
theorem dlw_689 : decode code 689 = .ok (.iaload, 1) := by decide +kernel
theorem dlw_690 : decode code 690 = .ok (.invokevirtual 135, 3) := by decide +kernel
theorem dlw_693 : decode code 693 = .ok (.istore 6, 2) := by decide +kernel
theorem dlw_695 : decode code 695 = .ok (.aload_n 2, 1) := by decide +kernel
theorem dlw_696 : decode code 696 = .ok (.invokevirtual 100, 3) := by decide +kernel
theorem dlw_699 : decode code 699 = .ok (.iload 5, 2) := by decide +kernel
theorem dlw_701 : decode code 701 = .ok (.if_icmp .eq 5, 3) := by decide +kernel
theorem dlw_704 : decode code 704 = .ok (.iconst 0, 1) := by decide +kernel
theorem dlw_705 : decode code 705 = .ok (.ireturn, 1) := by decide +kernel
theorem dlw_706 : decode code 706 = .ok (.iload 5, 2) := by decide +kernel
theorem dlw_708 : decode code 708 = .ok (.ifCond .ne 15, 3) := by decide +kernel
theorem dlw_711 : decode code 711 = .ok (.aload_n 3, 1) := by decide +kernel
theorem dlw_712 : decode code 712 = .ok (.iconst 0, 1) := by decide +kernel
theorem dlw_713 : decode code 713 = .ok (.laload, 1) := by decide +kernel
theorem dlw_714 : decode code 714 = .ok (.iload 6, 2) := by decide +kernel
theorem dlw_716 : decode code 716 = .ok (.i2l, 1) := by decide +kernel
theorem dlw_717 : decode code 717 = .ok (.lcmp, 1) := by decide +kernel
theorem dlw_718 : decode code 718 = .ok (.ifCond .eq 5, 3) := by decide +kernel
theorem dlw_721 : decode code 721 = .ok (.iconst 0, 1) := by decide +kernel
theorem dlw_722 : decode code 722 = .ok (.ireturn, 1) := by decide +kernel
theorem dlw_723 : decode code 723 = .ok (.goto 849, 3) := by decide +kernel
theorem dlw_726 : decode code 726 = .ok (.aload_n 1, 1) := by decide +kernel
theorem dlw_727 : decode code 727 = .ok (.aload_n 0, 1) := by decide +kernel
theorem dlw_728 : decode code 728 = .ok (.iload 4, 2) := by decide +kernel
theorem dlw_730 : decode code 730 = .ok (.iconst 1, 1) := by decide +kernel
theorem dlw_731 : decode code 731 = .ok (.iadd, 1) := by decide +kernel
theorem dlw_732 : decode code 732 = .ok (.iaload, 1) := by decide +kernel
theorem dlw_733 : decode code 733 = .ok (.aload_n 0, 1) := by decide +kernel
theorem dlw_734 : decode code 734 = .ok (.iload 4, 2) := by decide +kernel
theorem dlw_736 : decode code 736 = .ok (.iconst 2, 1) := by decide +kernel
theorem dlw_737 : decode code 737 = .ok (.iadd, 1) := by decide +kernel
theorem dlw_738 : decode code 738 = .ok (.iaload, 1) := by decide +kernel
theorem dlw_739 : decode code 739 = .ok (.aload_n 3, 1) := by decide +kernel
theorem dlw_740 : decode code 740 = .ok (.invokestatic 136, 3) := by decide +kernel
theorem dlw_743 : decode code 743 = .ok (.istore 5, 2) := by decide +kernel
theorem dlw_745 : decode code 745 = .ok (.aload_n 2, 1) := by decide +kernel
theorem dlw_746 : decode code 746 = .ok (.aload_n 0, 1) := by decide +kernel
theorem dlw_747 : decode code 747 = .ok (.iload 4, 2) := by decide +kernel
theorem dlw_749 : decode code 749 = .ok (.iconst 1, 1) := by decide +kernel
theorem dlw_750 : decode code 750 = .ok (.iadd, 1) := by decide +kernel
theorem dlw_751 : decode code 751 = .ok (.iaload, 1) := by decide +kernel
theorem dlw_752 : decode code 752 = .ok (.aload_n 0, 1) := by decide +kernel
theorem dlw_753 : decode code 753 = .ok (.iload 4, 2) := by decide +kernel
theorem dlw_755 : decode code 755 = .ok (.iconst 2, 1) := by decide +kernel
theorem dlw_756 : decode code 756 = .ok (.iadd, 1) := by decide +kernel
theorem dlw_757 : decode code 757 = .ok (.iaload, 1) := by decide +kernel
theorem dlw_758 : decode code 758 = .ok (.invokevirtual 138, 3) := by decide +kernel
theorem dlw_761 : decode code 761 = .ok (.istore 6, 2) := by decide +kernel
theorem dlw_763 : decode code 763 = .ok (.aload_n 2, 1) := by decide +kernel
theorem dlw_764 : decode code 764 = .ok (.invokevirtual 100, 3) := by decide +kernel
theorem dlw_767 : decode code 767 = .ok (.iload 5, 2) := by decide +kernel
theorem dlw_769 : decode code 769 = .ok (.if_icmp .eq 5, 3) := by decide +kernel
theorem dlw_772 : decode code 772 = .ok (.iconst 0, 1) := by decide +kernel
theorem dlw_773 : decode code 773 = .ok (.ireturn, 1) := by decide +kernel
theorem dlw_774 : decode code 774 = .ok (.iload 5, 2) := by decide +kernel
theorem dlw_776 : decode code 776 = .ok (.ifCond .ne 15, 3) := by decide +kernel
theorem dlw_779 : decode code 779 = .ok (.aload_n 3, 1) := by decide +kernel
theorem dlw_780 : decode code 780 = .ok (.iconst 0, 1) := by decide +kernel
theorem dlw_781 : decode code 781 = .ok (.laload, 1) := by decide +kernel
theorem dlw_782 : decode code 782 = .ok (.iload 6, 2) := by decide +kernel
theorem dlw_784 : decode code 784 = .ok (.i2l, 1) := by decide +kernel
theorem dlw_785 : decode code 785 = .ok (.lcmp, 1) := by decide +kernel
theorem dlw_786 : decode code 786 = .ok (.ifCond .eq 5, 3) := by decide +kernel
theorem dlw_789 : decode code 789 = .ok (.iconst 0, 1) := by decide +kernel
theorem dlw_790 : decode code 790 = .ok (.ireturn, 1) := by decide +kernel
theorem dlw_791 : decode code 791 = .ok (.goto 781, 3) := by decide +kernel
theorem dlw_794 : decode code 794 = .ok (.aload_n 1, 1) := by decide +kernel
theorem dlw_795 : decode code 795 = .ok (.aload_n 0, 1) := by decide +kernel
theorem dlw_796 : decode code 796 = .ok (.iload 4, 2) := by decide +kernel
theorem dlw_798 : decode code 798 = .ok (.iconst 1, 1) := by decide +kernel
theorem dlw_799 : decode code 799 = .ok (.iadd, 1) := by decide +kernel
theorem dlw_800 : decode code 800 = .ok (.iaload, 1) := by decide +kernel
theorem dlw_801 : decode code 801 = .ok (.aload_n 3, 1) := by decide +kernel
theorem dlw_802 : decode code 802 = .ok (.invokestatic 139, 3) := by decide +kernel
theorem dlw_805 : decode code 805 = .ok (.istore 5, 2) := by decide +kernel
theorem dlw_807 : decode code 807 = .ok (.aload_n 2, 1) := by decide +kernel
theorem dlw_808 : decode code 808 = .ok (.aload_n 0, 1) := by decide +kernel
theorem dlw_809 : decode code 809 = .ok (.iload 4, 2) := by decide +kernel
theorem dlw_811 : decode code 811 = .ok (.iconst 1, 1) := by decide +kernel
theorem dlw_812 : decode code 812 = .ok (.iadd, 1) := by decide +kernel
theorem dlw_813 : decode code 813 = .ok (.iaload, 1) := by decide +kernel
theorem dlw_814 : decode code 814 = .ok (.invokevirtual 141, 3) := by decide +kernel
theorem dlw_817 : decode code 817 = .ok (.istore 6, 2) := by decide +kernel
theorem dlw_819 : decode code 819 = .ok (.aload_n 2, 1) := by decide +kernel
theorem dlw_820 : decode code 820 = .ok (.invokevirtual 100, 3) := by decide +kernel
theorem dlw_823 : decode code 823 = .ok (.iload 5, 2) := by decide +kernel
theorem dlw_825 : decode code 825 = .ok (.if_icmp .eq 5, 3) := by decide +kernel
theorem dlw_828 : decode code 828 = .ok (.iconst 0, 1) := by decide +kernel
theorem dlw_829 : decode code 829 = .ok (.ireturn, 1) := by decide +kernel
theorem dlw_830 : decode code 830 = .ok (.iload 5, 2) := by decide +kernel
theorem dlw_832 : decode code 832 = .ok (.ifCond .ne 15, 3) := by decide +kernel
theorem dlw_835 : decode code 835 = .ok (.aload_n 3, 1) := by decide +kernel
theorem dlw_836 : decode code 836 = .ok (.iconst 0, 1) := by decide +kernel
theorem dlw_837 : decode code 837 = .ok (.laload, 1) := by decide +kernel
theorem dlw_838 : decode code 838 = .ok (.iload 6, 2) := by decide +kernel
theorem dlw_840 : decode code 840 = .ok (.i2l, 1) := by decide +kernel
theorem dlw_841 : decode code 841 = .ok (.lcmp, 1) := by decide +kernel
theorem dlw_842 : decode code 842 = .ok (.ifCond .eq 5, 3) := by decide +kernel
theorem dlw_845 : decode code 845 = .ok (.iconst 0, 1) := by decide +kernel
theorem dlw_846 : decode code 846 = .ok (.ireturn, 1) := by decide +kernel
theorem dlw_847 : decode code 847 = .ok (.goto 725, 3) := by decide +kernel
theorem dlw_850 : decode code 850 = .ok (.aload_n 1, 1) := by decide +kernel
theorem dlw_851 : decode code 851 = .ok (.aload_n 3, 1) := by decide +kernel
theorem dlw_852 : decode code 852 = .ok (.invokestatic 142, 3) := by decide +kernel
theorem dlw_855 : decode code 855 = .ok (.istore 5, 2) := by decide +kernel
theorem dlw_857 : decode code 857 = .ok (.aload_n 2, 1) := by decide +kernel
theorem dlw_858 : decode code 858 = .ok (.invokevirtual 145, 3) := by decide +kernel
theorem dlw_861 : decode code 861 = .ok (.istore 6, 2) := by decide +kernel
theorem dlw_863 : decode code 863 = .ok (.aload_n 2, 1) := by decide +kernel
theorem dlw_864 : decode code 864 = .ok (.invokevirtual 100, 3) := by decide +kernel
theorem dlw_867 : decode code 867 = .ok (.iload 5, 2) := by decide +kernel
theorem dlw_869 : decode code 869 = .ok (.if_icmp .eq 5, 3) := by decide +kernel
theorem dlw_872 : decode code 872 = .ok (.iconst 0, 1) := by decide +kernel
theorem dlw_873 : decode code 873 = .ok (.ireturn, 1) := by decide +kernel
theorem dlw_874 : decode code 874 = .ok (.iload 5, 2) := by decide +kernel
theorem dlw_876 : decode code 876 = .ok (.ifCond .ne 15, 3) := by decide +kernel
theorem dlw_879 : decode code 879 = .ok (.aload_n 3, 1) := by decide +kernel
theorem dlw_880 : decode code 880 = .ok (.iconst 0, 1) := by decide +kernel
theorem dlw_881 : decode code 881 = .ok (.laload, 1) := by decide +kernel
theorem dlw_882 : decode code 882 = .ok (.iload 6, 2) := by decide +kernel
theorem dlw_884 : decode code 884 = .ok (.i2l, 1) := by decide +kernel
theorem dlw_885 : decode code 885 = .ok (.lcmp, 1) := by decide +kernel
theorem dlw_886 : decode code 886 = .ok (.ifCond .eq 5, 3) := by decide +kernel
theorem dlw_889 : decode code 889 = .ok (.iconst 0, 1) := by decide +kernel
theorem dlw_890 : decode code 890 = .ok (.ireturn, 1) := by decide +kernel
theorem dlw_891 : decode code 891 = .ok (.goto 681, 3) := by decide +kernel
theorem dlw_894 : decode code 894 = .ok (.aload_n 1, 1) := by decide +kernel
theorem dlw_895 : decode code 895 = .ok (.aload_n 3, 1) := by decide +kernel
theorem dlw_896 : decode code 896 = .ok (.invokestatic 146, 3) := by decide +kernel
theorem dlw_899 : decode code 899 = .ok (.istore 5, 2) := by decide +kernel
theorem dlw_901 : decode code 901 = .ok (.aload_n 2, 1) := by decide +kernel
theorem dlw_902 : decode code 902 = .ok (.invokevirtual 148, 3) := by decide +kernel
theorem dlw_905 : decode code 905 = .ok (.istore 6, 2) := by decide +kernel
theorem dlw_907 : decode code 907 = .ok (.aload_n 2, 1) := by decide +kernel
theorem dlw_908 : decode code 908 = .ok (.invokevirtual 100, 3) := by decide +kernel
theorem dlw_911 : decode code 911 = .ok (.iload 5, 2) := by decide +kernel
theorem dlw_913 : decode code 913 = .ok (.if_icmp .eq 5, 3) := by decide +kernel
theorem dlw_916 : decode code 916 = .ok (.iconst 0, 1) := by decide +kernel
theorem dlw_917 : decode code 917 = .ok (.ireturn, 1) := by decide +kernel
theorem dlw_918 : decode code 918 = .ok (.iload 5, 2) := by decide +kernel
theorem dlw_920 : decode code 920 = .ok (.ifCond .ne 15, 3) := by decide +kernel
theorem dlw_923 : decode code 923 = .ok (.aload_n 3, 1) := by decide +kernel
theorem dlw_924 : decode code 924 = .ok (.iconst 0, 1) := by decide +kernel
theorem dlw_925 : decode code 925 = .ok (.laload, 1) := by decide +kernel
theorem dlw_926 : decode code 926 = .ok (.iload 6, 2) := by decide +kernel
theorem dlw_928 : decode code 928 = .ok (.i2l, 1) := by decide +kernel
theorem dlw_929 : decode code 929 = .ok (.lcmp, 1) := by decide +kernel
theorem dlw_930 : decode code 930 = .ok (.ifCond .eq 5, 3) := by decide +kernel
theorem dlw_933 : decode code 933 = .ok (.iconst 0, 1) := by decide +kernel
theorem dlw_934 : decode code 934 = .ok (.ireturn, 1) := by decide +kernel
theorem dlw_935 : decode code 935 = .ok (.goto 637, 3) := by decide +kernel
theorem dlw_938 : decode code 938 = .ok (.aload_n 1, 1) := by decide +kernel
theorem dlw_939 : decode code 939 = .ok (.aload_n 0, 1) := by decide +kernel
theorem dlw_940 : decode code 940 = .ok (.iload 4, 2) := by decide +kernel
theorem dlw_942 : decode code 942 = .ok (.iconst 1, 1) := by decide +kernel
theorem dlw_943 : decode code 943 = .ok (.iadd, 1) := by decide +kernel
theorem dlw_944 : decode code 944 = .ok (.iaload, 1) := by decide +kernel
theorem dlw_945 : decode code 945 = .ok (.aload_n 0, 1) := by decide +kernel
theorem dlw_946 : decode code 946 = .ok (.iload 4, 2) := by decide +kernel
theorem dlw_948 : decode code 948 = .ok (.iconst 2, 1) := by decide +kernel
theorem dlw_949 : decode code 949 = .ok (.iadd, 1) := by decide +kernel
theorem dlw_950 : decode code 950 = .ok (.iaload, 1) := by decide +kernel
theorem dlw_951 : decode code 951 = .ok (.aload_n 3, 1) := by decide +kernel
theorem dlw_952 : decode code 952 = .ok (.invokestatic 149, 3) := by decide +kernel
theorem dlw_955 : decode code 955 = .ok (.istore 5, 2) := by decide +kernel
theorem dlw_957 : decode code 957 = .ok (.aload_n 2, 1) := by decide +kernel
theorem dlw_958 : decode code 958 = .ok (.aload_n 0, 1) := by decide +kernel
theorem dlw_959 : decode code 959 = .ok (.iload 4, 2) := by decide +kernel
theorem dlw_961 : decode code 961 = .ok (.iconst 1, 1) := by decide +kernel
theorem dlw_962 : decode code 962 = .ok (.iadd, 1) := by decide +kernel
theorem dlw_963 : decode code 963 = .ok (.iaload, 1) := by decide +kernel
theorem dlw_964 : decode code 964 = .ok (.aload_n 0, 1) := by decide +kernel
theorem dlw_965 : decode code 965 = .ok (.iload 4, 2) := by decide +kernel
theorem dlw_967 : decode code 967 = .ok (.iconst 2, 1) := by decide +kernel
theorem dlw_968 : decode code 968 = .ok (.iadd, 1) := by decide +kernel
theorem dlw_969 : decode code 969 = .ok (.iaload, 1) := by decide +kernel
theorem dlw_970 : decode code 970 = .ok (.invokevirtual 151, 3) := by decide +kernel
theorem dlw_973 : decode code 973 = .ok (.istore 6, 2) := by decide +kernel
theorem dlw_975 : decode code 975 = .ok (.aload_n 2, 1) := by decide +kernel
theorem dlw_976 : decode code 976 = .ok (.invokevirtual 100, 3) := by decide +kernel
theorem dlw_979 : decode code 979 = .ok (.iload 5, 2) := by decide +kernel
theorem dlw_981 : decode code 981 = .ok (.if_icmp .eq 5, 3) := by decide +kernel
theorem dlw_984 : decode code 984 = .ok (.iconst 0, 1) := by decide +kernel
theorem dlw_985 : decode code 985 = .ok (.ireturn, 1) := by decide +kernel
theorem dlw_986 : decode code 986 = .ok (.iload 5, 2) := by decide +kernel
theorem dlw_988 : decode code 988 = .ok (.ifCond .ne 15, 3) := by decide +kernel
theorem dlw_991 : decode code 991 = .ok (.aload_n 3, 1) := by decide +kernel
theorem dlw_992 : decode code 992 = .ok (.iconst 0, 1) := by decide +kernel
theorem dlw_993 : decode code 993 = .ok (.laload, 1) := by decide +kernel
theorem dlw_994 : decode code 994 = .ok (.iload 6, 2) := by decide +kernel
theorem dlw_996 : decode code 996 = .ok (.i2l, 1) := by decide +kernel
theorem dlw_997 : decode code 997 = .ok (.lcmp, 1) := by decide +kernel
theorem dlw_998 : decode code 998 = .ok (.ifCond .eq 5, 3) := by decide +kernel
theorem dlw_1001 : decode code 1001 = .ok (.iconst 0, 1) := by decide +kernel
theorem dlw_1002 : decode code 1002 = .ok (.ireturn, 1) := by decide +kernel
theorem dlw_1003 : decode code 1003 = .ok (.goto 569, 3) := by decide +kernel
theorem dlw_1006 : decode code 1006 = .ok (.aload_n 1, 1) := by decide +kernel
theorem dlw_1007 : decode code 1007 = .ok (.aload_n 0, 1) := by decide +kernel
theorem dlw_1008 : decode code 1008 = .ok (.iload 4, 2) := by decide +kernel
theorem dlw_1010 : decode code 1010 = .ok (.iconst 1, 1) := by decide +kernel
theorem dlw_1011 : decode code 1011 = .ok (.iadd, 1) := by decide +kernel
theorem dlw_1012 : decode code 1012 = .ok (.iaload, 1) := by decide +kernel
theorem dlw_1013 : decode code 1013 = .ok (.aload_n 3, 1) := by decide +kernel
theorem dlw_1014 : decode code 1014 = .ok (.invokestatic 152, 3) := by decide +kernel
theorem dlw_1017 : decode code 1017 = .ok (.istore 5, 2) := by decide +kernel
theorem dlw_1019 : decode code 1019 = .ok (.aload_n 2, 1) := by decide +kernel
theorem dlw_1020 : decode code 1020 = .ok (.aload_n 0, 1) := by decide +kernel
theorem dlw_1021 : decode code 1021 = .ok (.iload 4, 2) := by decide +kernel
theorem dlw_1023 : decode code 1023 = .ok (.iconst 1, 1) := by decide +kernel
theorem dlw_1024 : decode code 1024 = .ok (.iadd, 1) := by decide +kernel
theorem dlw_1025 : decode code 1025 = .ok (.iaload, 1) := by decide +kernel
theorem dlw_1026 : decode code 1026 = .ok (.invokevirtual 154, 3) := by decide +kernel
theorem dlw_1029 : decode code 1029 = .ok (.istore 6, 2) := by decide +kernel
theorem dlw_1031 : decode code 1031 = .ok (.aload_n 2, 1) := by decide +kernel
theorem dlw_1032 : decode code 1032 = .ok (.invokevirtual 100, 3) := by decide +kernel
theorem dlw_1035 : decode code 1035 = .ok (.iload 5, 2) := by decide +kernel
theorem dlw_1037 : decode code 1037 = .ok (.if_icmp .eq 5, 3) := by decide +kernel
theorem dlw_1040 : decode code 1040 = .ok (.iconst 0, 1) := by decide +kernel
theorem dlw_1041 : decode code 1041 = .ok (.ireturn, 1) := by decide +kernel
theorem dlw_1042 : decode code 1042 = .ok (.iload 5, 2) := by decide +kernel
theorem dlw_1044 : decode code 1044 = .ok (.ifCond .ne 15, 3) := by decide +kernel
theorem dlw_1047 : decode code 1047 = .ok (.aload_n 3, 1) := by decide +kernel
theorem dlw_1048 : decode code 1048 = .ok (.iconst 0, 1) := by decide +kernel
theorem dlw_1049 : decode code 1049 = .ok (.laload, 1) := by decide +kernel
theorem dlw_1050 : decode code 1050 = .ok (.iload 6, 2) := by decide +kernel
theorem dlw_1052 : decode code 1052 = .ok (.i2l, 1) := by decide +kernel
theorem dlw_1053 : decode code 1053 = .ok (.lcmp, 1) := by decide +kernel
theorem dlw_1054 : decode code 1054 = .ok (.ifCond .eq 5, 3) := by decide +kernel
theorem dlw_1057 : decode code 1057 = .ok (.iconst 0, 1) := by decide +kernel
theorem dlw_1058 : decode code 1058 = .ok (.ireturn, 1) := by decide +kernel
theorem dlw_1059 : decode code 1059 = .ok (.goto 513, 3) := by decide +kernel
theorem dlw_1062 : decode code 1062 = .ok (.aload_n 1, 1) := by decide +kernel
theorem dlw_1063 : decode code 1063 = .ok (.aload_n 0, 1) := by decide +kernel
theorem dlw_1064 : decode code 1064 = .ok (.iload 4, 2) := by decide +kernel
theorem dlw_1066 : decode code 1066 = .ok (.iconst 1, 1) := by decide +kernel
theorem dlw_1067 : decode code 1067 = .ok (.iadd, 1) := by decide +kernel
theorem dlw_1068 : decode code 1068 = .ok (.iaload, 1) := by decide +kernel
theorem dlw_1069 : decode code 1069 = .ok (.aload_n 0, 1) := by decide +kernel
theorem dlw_1070 : decode code 1070 = .ok (.iload 4, 2) := by decide +kernel
theorem dlw_1072 : decode code 1072 = .ok (.iconst 2, 1) := by decide +kernel
theorem dlw_1073 : decode code 1073 = .ok (.iadd, 1) := by decide +kernel
theorem dlw_1074 : decode code 1074 = .ok (.iaload, 1) := by decide +kernel
theorem dlw_1075 : decode code 1075 = .ok (.aload_n 3, 1) := by decide +kernel
theorem dlw_1076 : decode code 1076 = .ok (.invokestatic 155, 3) := by decide +kernel
theorem dlw_1079 : decode code 1079 = .ok (.istore 5, 2) := by decide +kernel
theorem dlw_1081 : decode code 1081 = .ok (.aload_n 2, 1) := by decide +kernel
theorem dlw_1082 : decode code 1082 = .ok (.aload_n 0, 1) := by decide +kernel
theorem dlw_1083 : decode code 1083 = .ok (.iload 4, 2) := by decide +kernel
theorem dlw_1085 : decode code 1085 = .ok (.iconst 1, 1) := by decide +kernel
theorem dlw_1086 : decode code 1086 = .ok (.iadd, 1) := by decide +kernel
theorem dlw_1087 : decode code 1087 = .ok (.iaload, 1) := by decide +kernel
theorem dlw_1088 : decode code 1088 = .ok (.aload_n 0, 1) := by decide +kernel
theorem dlw_1089 : decode code 1089 = .ok (.iload 4, 2) := by decide +kernel
theorem dlw_1091 : decode code 1091 = .ok (.iconst 2, 1) := by decide +kernel
theorem dlw_1092 : decode code 1092 = .ok (.iadd, 1) := by decide +kernel
theorem dlw_1093 : decode code 1093 = .ok (.iaload, 1) := by decide +kernel
theorem dlw_1094 : decode code 1094 = .ok (.invokevirtual 157, 3) := by decide +kernel
theorem dlw_1097 : decode code 1097 = .ok (.istore 6, 2) := by decide +kernel
theorem dlw_1099 : decode code 1099 = .ok (.aload_n 2, 1) := by decide +kernel
theorem dlw_1100 : decode code 1100 = .ok (.invokevirtual 100, 3) := by decide +kernel
theorem dlw_1103 : decode code 1103 = .ok (.iload 5, 2) := by decide +kernel
theorem dlw_1105 : decode code 1105 = .ok (.if_icmp .eq 5, 3) := by decide +kernel
theorem dlw_1108 : decode code 1108 = .ok (.iconst 0, 1) := by decide +kernel
theorem dlw_1109 : decode code 1109 = .ok (.ireturn, 1) := by decide +kernel
theorem dlw_1110 : decode code 1110 = .ok (.iload 5, 2) := by decide +kernel
theorem dlw_1112 : decode code 1112 = .ok (.ifCond .ne 15, 3) := by decide +kernel
theorem dlw_1115 : decode code 1115 = .ok (.aload_n 3, 1) := by decide +kernel
theorem dlw_1116 : decode code 1116 = .ok (.iconst 0, 1) := by decide +kernel
theorem dlw_1117 : decode code 1117 = .ok (.laload, 1) := by decide +kernel
theorem dlw_1118 : decode code 1118 = .ok (.iload 6, 2) := by decide +kernel
theorem dlw_1120 : decode code 1120 = .ok (.i2l, 1) := by decide +kernel
theorem dlw_1121 : decode code 1121 = .ok (.lcmp, 1) := by decide +kernel
theorem dlw_1122 : decode code 1122 = .ok (.ifCond .eq 5, 3) := by decide +kernel
theorem dlw_1125 : decode code 1125 = .ok (.iconst 0, 1) := by decide +kernel
theorem dlw_1126 : decode code 1126 = .ok (.ireturn, 1) := by decide +kernel
theorem dlw_1127 : decode code 1127 = .ok (.goto 445, 3) := by decide +kernel
theorem dlw_1130 : decode code 1130 = .ok (.aload_n 1, 1) := by decide +kernel
theorem dlw_1131 : decode code 1131 = .ok (.aload_n 0, 1) := by decide +kernel
theorem dlw_1132 : decode code 1132 = .ok (.iload 4, 2) := by decide +kernel
theorem dlw_1134 : decode code 1134 = .ok (.iconst 1, 1) := by decide +kernel
theorem dlw_1135 : decode code 1135 = .ok (.iadd, 1) := by decide +kernel
theorem dlw_1136 : decode code 1136 = .ok (.iaload, 1) := by decide +kernel
theorem dlw_1137 : decode code 1137 = .ok (.aload_n 3, 1) := by decide +kernel
theorem dlw_1138 : decode code 1138 = .ok (.invokestatic 158, 3) := by decide +kernel
theorem dlw_1141 : decode code 1141 = .ok (.istore 5, 2) := by decide +kernel
theorem dlw_1143 : decode code 1143 = .ok (.aload_n 2, 1) := by decide +kernel
theorem dlw_1144 : decode code 1144 = .ok (.aload_n 0, 1) := by decide +kernel
theorem dlw_1145 : decode code 1145 = .ok (.iload 4, 2) := by decide +kernel
theorem dlw_1147 : decode code 1147 = .ok (.iconst 1, 1) := by decide +kernel
theorem dlw_1148 : decode code 1148 = .ok (.iadd, 1) := by decide +kernel
theorem dlw_1149 : decode code 1149 = .ok (.iaload, 1) := by decide +kernel
theorem dlw_1150 : decode code 1150 = .ok (.invokevirtual 160, 3) := by decide +kernel
theorem dlw_1153 : decode code 1153 = .ok (.istore 6, 2) := by decide +kernel
theorem dlw_1155 : decode code 1155 = .ok (.aload_n 2, 1) := by decide +kernel
theorem dlw_1156 : decode code 1156 = .ok (.invokevirtual 100, 3) := by decide +kernel
theorem dlw_1159 : decode code 1159 = .ok (.iload 5, 2) := by decide +kernel
theorem dlw_1161 : decode code 1161 = .ok (.if_icmp .eq 5, 3) := by decide +kernel
theorem dlw_1164 : decode code 1164 = .ok (.iconst 0, 1) := by decide +kernel
theorem dlw_1165 : decode code 1165 = .ok (.ireturn, 1) := by decide +kernel
theorem dlw_1166 : decode code 1166 = .ok (.iload 5, 2) := by decide +kernel
theorem dlw_1168 : decode code 1168 = .ok (.ifCond .ne 15, 3) := by decide +kernel
theorem dlw_1171 : decode code 1171 = .ok (.aload_n 3, 1) := by decide +kernel
theorem dlw_1172 : decode code 1172 = .ok (.iconst 0, 1) := by decide +kernel
theorem dlw_1173 : decode code 1173 = .ok (.laload, 1) := by decide +kernel
theorem dlw_1174 : decode code 1174 = .ok (.iload 6, 2) := by decide +kernel
theorem dlw_1176 : decode code 1176 = .ok (.i2l, 1) := by decide +kernel
theorem dlw_1177 : decode code 1177 = .ok (.lcmp, 1) := by decide +kernel
theorem dlw_1178 : decode code 1178 = .ok (.ifCond .eq 5, 3) := by decide +kernel
theorem dlw_1181 : decode code 1181 = .ok (.iconst 0, 1) := by decide +kernel
theorem dlw_1182 : decode code 1182 = .ok (.ireturn, 1) := by decide +kernel
theorem dlw_1183 : decode code 1183 = .ok (.goto 389, 3) := by decide +kernel
theorem dlw_1186 : decode code 1186 = .ok (.aload_n 1, 1) := by decide +kernel
theorem dlw_1187 : decode code 1187 = .ok (.invokevirtual 161, 3) := by decide +kernel
theorem dlw_1190 : decode code 1190 = .ok (.aload_n 2, 1) := by decide +kernel
theorem dlw_1191 : decode code 1191 = .ok (.invokevirtual 164, 3) := by decide +kernel
theorem dlw_1194 : decode code 1194 = .ok (.if_icmp .eq 378, 3) := by decide +kernel
theorem dlw_1197 : decode code 1197 = .ok (.iconst 0, 1) := by decide +kernel
theorem dlw_1198 : decode code 1198 = .ok (.ireturn, 1) := by decide +kernel
theorem dlw_1199 : decode code 1199 = .ok (.aload_n 1, 1) := by decide +kernel
theorem dlw_1200 : decode code 1200 = .ok (.aload_n 0, 1) := by decide +kernel
theorem dlw_1201 : decode code 1201 = .ok (.iload 4, 2) := by decide +kernel
theorem dlw_1203 : decode code 1203 = .ok (.iconst 1, 1) := by decide +kernel
theorem dlw_1204 : decode code 1204 = .ok (.iadd, 1) := by decide +kernel
theorem dlw_1205 : decode code 1205 = .ok (.iaload, 1) := by decide +kernel
theorem dlw_1206 : decode code 1206 = .ok (.i2l, 1) := by decide +kernel
theorem dlw_1207 : decode code 1207 = .ok (.bipush 32, 2) := by decide +kernel
theorem dlw_1209 : decode code 1209 = .ok (.lshl, 1) := by decide +kernel
theorem dlw_1210 : decode code 1210 = .ok (.aload_n 0, 1) := by decide +kernel
theorem dlw_1211 : decode code 1211 = .ok (.iload 4, 2) := by decide +kernel
theorem dlw_1213 : decode code 1213 = .ok (.iconst 2, 1) := by decide +kernel
theorem dlw_1214 : decode code 1214 = .ok (.iadd, 1) := by decide +kernel
theorem dlw_1215 : decode code 1215 = .ok (.iaload, 1) := by decide +kernel
theorem dlw_1216 : decode code 1216 = .ok (.i2l, 1) := by decide +kernel
theorem dlw_1217 : decode code 1217 = .ok (.ldc2_w 165, 3) := by decide +kernel
theorem dlw_1220 : decode code 1220 = .ok (.land, 1) := by decide +kernel
theorem dlw_1221 : decode code 1221 = .ok (.lor, 1) := by decide +kernel
theorem dlw_1222 : decode code 1222 = .ok (.aload_n 0, 1) := by decide +kernel
theorem dlw_1223 : decode code 1223 = .ok (.iload 4, 2) := by decide +kernel
theorem dlw_1225 : decode code 1225 = .ok (.iconst 3, 1) := by decide +kernel
theorem dlw_1226 : decode code 1226 = .ok (.iadd, 1) := by decide +kernel
theorem dlw_1227 : decode code 1227 = .ok (.iaload, 1) := by decide +kernel
theorem dlw_1228 : decode code 1228 = .ok (.aload_n 3, 1) := by decide +kernel
theorem dlw_1229 : decode code 1229 = .ok (.invokestatic 167, 3) := by decide +kernel
theorem dlw_1232 : decode code 1232 = .ok (.istore 5, 2) := by decide +kernel
theorem dlw_1234 : decode code 1234 = .ok (.aload_n 2, 1) := by decide +kernel
theorem dlw_1235 : decode code 1235 = .ok (.aload_n 0, 1) := by decide +kernel
theorem dlw_1236 : decode code 1236 = .ok (.iload 4, 2) := by decide +kernel
theorem dlw_1238 : decode code 1238 = .ok (.iconst 1, 1) := by decide +kernel
theorem dlw_1239 : decode code 1239 = .ok (.iadd, 1) := by decide +kernel
theorem dlw_1240 : decode code 1240 = .ok (.iaload, 1) := by decide +kernel
theorem dlw_1241 : decode code 1241 = .ok (.i2l, 1) := by decide +kernel
theorem dlw_1242 : decode code 1242 = .ok (.bipush 32, 2) := by decide +kernel
theorem dlw_1244 : decode code 1244 = .ok (.lshl, 1) := by decide +kernel
theorem dlw_1245 : decode code 1245 = .ok (.aload_n 0, 1) := by decide +kernel
theorem dlw_1246 : decode code 1246 = .ok (.iload 4, 2) := by decide +kernel
theorem dlw_1248 : decode code 1248 = .ok (.iconst 2, 1) := by decide +kernel
theorem dlw_1249 : decode code 1249 = .ok (.iadd, 1) := by decide +kernel
theorem dlw_1250 : decode code 1250 = .ok (.iaload, 1) := by decide +kernel
theorem dlw_1251 : decode code 1251 = .ok (.i2l, 1) := by decide +kernel
theorem dlw_1252 : decode code 1252 = .ok (.ldc2_w 165, 3) := by decide +kernel
theorem dlw_1255 : decode code 1255 = .ok (.land, 1) := by decide +kernel
theorem dlw_1256 : decode code 1256 = .ok (.lor, 1) := by decide +kernel
theorem dlw_1257 : decode code 1257 = .ok (.aload_n 0, 1) := by decide +kernel
theorem dlw_1258 : decode code 1258 = .ok (.iload 4, 2) := by decide +kernel
theorem dlw_1260 : decode code 1260 = .ok (.iconst 3, 1) := by decide +kernel
theorem dlw_1261 : decode code 1261 = .ok (.iadd, 1) := by decide +kernel
theorem dlw_1262 : decode code 1262 = .ok (.iaload, 1) := by decide +kernel
theorem dlw_1263 : decode code 1263 = .ok (.invokevirtual 170, 3) := by decide +kernel
theorem dlw_1266 : decode code 1266 = .ok (.istore 6, 2) := by decide +kernel
theorem dlw_1268 : decode code 1268 = .ok (.aload_n 2, 1) := by decide +kernel
theorem dlw_1269 : decode code 1269 = .ok (.invokevirtual 100, 3) := by decide +kernel
theorem dlw_1272 : decode code 1272 = .ok (.iload 5, 2) := by decide +kernel
theorem dlw_1274 : decode code 1274 = .ok (.if_icmp .eq 5, 3) := by decide +kernel
theorem dlw_1277 : decode code 1277 = .ok (.iconst 0, 1) := by decide +kernel
theorem dlw_1278 : decode code 1278 = .ok (.ireturn, 1) := by decide +kernel
theorem dlw_1279 : decode code 1279 = .ok (.iload 5, 2) := by decide +kernel
theorem dlw_1281 : decode code 1281 = .ok (.ifCond .ne 15, 3) := by decide +kernel
theorem dlw_1284 : decode code 1284 = .ok (.aload_n 3, 1) := by decide +kernel
theorem dlw_1285 : decode code 1285 = .ok (.iconst 0, 1) := by decide +kernel
theorem dlw_1286 : decode code 1286 = .ok (.laload, 1) := by decide +kernel
theorem dlw_1287 : decode code 1287 = .ok (.iload 6, 2) := by decide +kernel
theorem dlw_1289 : decode code 1289 = .ok (.i2l, 1) := by decide +kernel
theorem dlw_1290 : decode code 1290 = .ok (.lcmp, 1) := by decide +kernel
theorem dlw_1291 : decode code 1291 = .ok (.ifCond .eq 5, 3) := by decide +kernel
theorem dlw_1294 : decode code 1294 = .ok (.iconst 0, 1) := by decide +kernel
theorem dlw_1295 : decode code 1295 = .ok (.ireturn, 1) := by decide +kernel
theorem dlw_1296 : decode code 1296 = .ok (.goto 276, 3) := by decide +kernel
theorem dlw_1299 : decode code 1299 = .ok (.aload_n 1, 1) := by decide +kernel
theorem dlw_1300 : decode code 1300 = .ok (.aload_n 0, 1) := by decide +kernel
theorem dlw_1301 : decode code 1301 = .ok (.iload 4, 2) := by decide +kernel
theorem dlw_1303 : decode code 1303 = .ok (.iconst 1, 1) := by decide +kernel
theorem dlw_1304 : decode code 1304 = .ok (.iadd, 1) := by decide +kernel
theorem dlw_1305 : decode code 1305 = .ok (.iaload, 1) := by decide +kernel
theorem dlw_1306 : decode code 1306 = .ok (.aload_n 3, 1) := by decide +kernel
theorem dlw_1307 : decode code 1307 = .ok (.invokestatic 171, 3) := by decide +kernel
theorem dlw_1310 : decode code 1310 = .ok (.istore 5, 2) := by decide +kernel
theorem dlw_1312 : decode code 1312 = .ok (.aload_n 2, 1) := by decide +kernel
theorem dlw_1313 : decode code 1313 = .ok (.aload_n 0, 1) := by decide +kernel
theorem dlw_1314 : decode code 1314 = .ok (.iload 4, 2) := by decide +kernel
theorem dlw_1316 : decode code 1316 = .ok (.iconst 1, 1) := by decide +kernel
theorem dlw_1317 : decode code 1317 = .ok (.iadd, 1) := by decide +kernel
theorem dlw_1318 : decode code 1318 = .ok (.iaload, 1) := by decide +kernel
theorem dlw_1319 : decode code 1319 = .ok (.invokevirtual 173, 3) := by decide +kernel
theorem dlw_1322 : decode code 1322 = .ok (.istore 6, 2) := by decide +kernel
theorem dlw_1324 : decode code 1324 = .ok (.aload_n 2, 1) := by decide +kernel
theorem dlw_1325 : decode code 1325 = .ok (.invokevirtual 100, 3) := by decide +kernel
theorem dlw_1328 : decode code 1328 = .ok (.iload 5, 2) := by decide +kernel
theorem dlw_1330 : decode code 1330 = .ok (.if_icmp .eq 5, 3) := by decide +kernel
theorem dlw_1333 : decode code 1333 = .ok (.iconst 0, 1) := by decide +kernel
theorem dlw_1334 : decode code 1334 = .ok (.ireturn, 1) := by decide +kernel
theorem dlw_1335 : decode code 1335 = .ok (.iload 5, 2) := by decide +kernel
theorem dlw_1337 : decode code 1337 = .ok (.ifCond .ne 15, 3) := by decide +kernel
theorem dlw_1340 : decode code 1340 = .ok (.aload_n 3, 1) := by decide +kernel
theorem dlw_1341 : decode code 1341 = .ok (.iconst 0, 1) := by decide +kernel
theorem dlw_1342 : decode code 1342 = .ok (.laload, 1) := by decide +kernel
theorem dlw_1343 : decode code 1343 = .ok (.iload 6, 2) := by decide +kernel
theorem dlw_1345 : decode code 1345 = .ok (.i2l, 1) := by decide +kernel
theorem dlw_1346 : decode code 1346 = .ok (.lcmp, 1) := by decide +kernel
theorem dlw_1347 : decode code 1347 = .ok (.ifCond .eq 5, 3) := by decide +kernel
theorem dlw_1350 : decode code 1350 = .ok (.iconst 0, 1) := by decide +kernel
theorem dlw_1351 : decode code 1351 = .ok (.ireturn, 1) := by decide +kernel
theorem dlw_1352 : decode code 1352 = .ok (.goto 220, 3) := by decide +kernel
theorem dlw_1355 : decode code 1355 = .ok (.aload_n 1, 1) := by decide +kernel
theorem dlw_1356 : decode code 1356 = .ok (.aload_n 0, 1) := by decide +kernel
theorem dlw_1357 : decode code 1357 = .ok (.iload 4, 2) := by decide +kernel
theorem dlw_1359 : decode code 1359 = .ok (.iconst 1, 1) := by decide +kernel
theorem dlw_1360 : decode code 1360 = .ok (.iadd, 1) := by decide +kernel
theorem dlw_1361 : decode code 1361 = .ok (.iaload, 1) := by decide +kernel
theorem dlw_1362 : decode code 1362 = .ok (.aload_n 3, 1) := by decide +kernel
theorem dlw_1363 : decode code 1363 = .ok (.invokestatic 174, 3) := by decide +kernel
theorem dlw_1366 : decode code 1366 = .ok (.istore 5, 2) := by decide +kernel
theorem dlw_1368 : decode code 1368 = .ok (.aload_n 2, 1) := by decide +kernel
theorem dlw_1369 : decode code 1369 = .ok (.aload_n 0, 1) := by decide +kernel
theorem dlw_1370 : decode code 1370 = .ok (.iload 4, 2) := by decide +kernel
theorem dlw_1372 : decode code 1372 = .ok (.iconst 1, 1) := by decide +kernel
theorem dlw_1373 : decode code 1373 = .ok (.iadd, 1) := by decide +kernel
theorem dlw_1374 : decode code 1374 = .ok (.iaload, 1) := by decide +kernel
theorem dlw_1375 : decode code 1375 = .ok (.invokevirtual 176, 3) := by decide +kernel
theorem dlw_1378 : decode code 1378 = .ok (.lstore 6, 2) := by decide +kernel
theorem dlw_1380 : decode code 1380 = .ok (.aload_n 2, 1) := by decide +kernel
theorem dlw_1381 : decode code 1381 = .ok (.invokevirtual 100, 3) := by decide +kernel
theorem dlw_1384 : decode code 1384 = .ok (.iload 5, 2) := by decide +kernel
theorem dlw_1386 : decode code 1386 = .ok (.if_icmp .eq 5, 3) := by decide +kernel
theorem dlw_1389 : decode code 1389 = .ok (.iconst 0, 1) := by decide +kernel
theorem dlw_1390 : decode code 1390 = .ok (.ireturn, 1) := by decide +kernel
theorem dlw_1391 : decode code 1391 = .ok (.iload 5, 2) := by decide +kernel
theorem dlw_1393 : decode code 1393 = .ok (.ifCond .ne 14, 3) := by decide +kernel
theorem dlw_1396 : decode code 1396 = .ok (.aload_n 3, 1) := by decide +kernel
theorem dlw_1397 : decode code 1397 = .ok (.iconst 0, 1) := by decide +kernel
theorem dlw_1398 : decode code 1398 = .ok (.laload, 1) := by decide +kernel
theorem dlw_1399 : decode code 1399 = .ok (.lload 6, 2) := by decide +kernel
theorem dlw_1401 : decode code 1401 = .ok (.lcmp, 1) := by decide +kernel
theorem dlw_1402 : decode code 1402 = .ok (.ifCond .eq 5, 3) := by decide +kernel
theorem dlw_1405 : decode code 1405 = .ok (.iconst 0, 1) := by decide +kernel
theorem dlw_1406 : decode code 1406 = .ok (.ireturn, 1) := by decide +kernel
theorem dlw_1407 : decode code 1407 = .ok (.goto 165, 3) := by decide +kernel
theorem dlw_1410 : decode code 1410 = .ok (.aload_n 1, 1) := by decide +kernel
theorem dlw_1411 : decode code 1411 = .ok (.aload_n 0, 1) := by decide +kernel
theorem dlw_1412 : decode code 1412 = .ok (.iload 4, 2) := by decide +kernel
theorem dlw_1414 : decode code 1414 = .ok (.iconst 1, 1) := by decide +kernel
theorem dlw_1415 : decode code 1415 = .ok (.iadd, 1) := by decide +kernel
theorem dlw_1416 : decode code 1416 = .ok (.iaload, 1) := by decide +kernel
theorem dlw_1417 : decode code 1417 = .ok (.aload_n 0, 1) := by decide +kernel
theorem dlw_1418 : decode code 1418 = .ok (.iload 4, 2) := by decide +kernel
theorem dlw_1420 : decode code 1420 = .ok (.iconst 2, 1) := by decide +kernel
theorem dlw_1421 : decode code 1421 = .ok (.iadd, 1) := by decide +kernel
theorem dlw_1422 : decode code 1422 = .ok (.iaload, 1) := by decide +kernel
theorem dlw_1423 : decode code 1423 = .ok (.aload_n 3, 1) := by decide +kernel
theorem dlw_1424 : decode code 1424 = .ok (.invokestatic 177, 3) := by decide +kernel
theorem dlw_1427 : decode code 1427 = .ok (.istore 5, 2) := by decide +kernel
theorem dlw_1429 : decode code 1429 = .ok (.aload_n 2, 1) := by decide +kernel
theorem dlw_1430 : decode code 1430 = .ok (.aload_n 0, 1) := by decide +kernel
theorem dlw_1431 : decode code 1431 = .ok (.iload 4, 2) := by decide +kernel
theorem dlw_1433 : decode code 1433 = .ok (.iconst 1, 1) := by decide +kernel
theorem dlw_1434 : decode code 1434 = .ok (.iadd, 1) := by decide +kernel
theorem dlw_1435 : decode code 1435 = .ok (.iaload, 1) := by decide +kernel
theorem dlw_1436 : decode code 1436 = .ok (.aload_n 0, 1) := by decide +kernel
theorem dlw_1437 : decode code 1437 = .ok (.iload 4, 2) := by decide +kernel
theorem dlw_1439 : decode code 1439 = .ok (.iconst 2, 1) := by decide +kernel
theorem dlw_1440 : decode code 1440 = .ok (.iadd, 1) := by decide +kernel
theorem dlw_1441 : decode code 1441 = .ok (.iaload, 1) := by decide +kernel
theorem dlw_1442 : decode code 1442 = .ok (.invokevirtual 179, 3) := by decide +kernel
theorem dlw_1445 : decode code 1445 = .ok (.istore 6, 2) := by decide +kernel
theorem dlw_1447 : decode code 1447 = .ok (.aload_n 2, 1) := by decide +kernel
theorem dlw_1448 : decode code 1448 = .ok (.invokevirtual 100, 3) := by decide +kernel
theorem dlw_1451 : decode code 1451 = .ok (.iload 5, 2) := by decide +kernel
theorem dlw_1453 : decode code 1453 = .ok (.if_icmp .eq 5, 3) := by decide +kernel
theorem dlw_1456 : decode code 1456 = .ok (.iconst 0, 1) := by decide +kernel
theorem dlw_1457 : decode code 1457 = .ok (.ireturn, 1) := by decide +kernel
theorem dlw_1458 : decode code 1458 = .ok (.iload 5, 2) := by decide +kernel
theorem dlw_1460 : decode code 1460 = .ok (.ifCond .ne 22, 3) := by decide +kernel
theorem dlw_1463 : decode code 1463 = .ok (.aload_n 3, 1) := by decide +kernel
theorem dlw_1464 : decode code 1464 = .ok (.iconst 0, 1) := by decide +kernel
theorem dlw_1465 : decode code 1465 = .ok (.laload, 1) := by decide +kernel
theorem dlw_1466 : decode code 1466 = .ok (.iload 6, 2) := by decide +kernel
theorem dlw_1468 : decode code 1468 = .ok (.ifCond .eq 7, 3) := by decide +kernel
theorem dlw_1471 : decode code 1471 = .ok (.lconst 1, 1) := by decide +kernel
theorem dlw_1472 : decode code 1472 = .ok (.goto 4, 3) := by decide +kernel
theorem dlw_1475 : decode code 1475 = .ok (.lconst 0, 1) := by decide +kernel
theorem dlw_1476 : decode code 1476 = .ok (.lcmp, 1) := by decide +kernel
theorem dlw_1477 : decode code 1477 = .ok (.ifCond .eq 5, 3) := by decide +kernel
theorem dlw_1480 : decode code 1480 = .ok (.iconst 0, 1) := by decide +kernel
theorem dlw_1481 : decode code 1481 = .ok (.ireturn, 1) := by decide +kernel
theorem dlw_1482 : decode code 1482 = .ok (.goto 90, 3) := by decide +kernel
theorem dlw_1485 : decode code 1485 = .ok (.aload_n 1, 1) := by decide +kernel
theorem dlw_1486 : decode code 1486 = .ok (.aload_n 0, 1) := by decide +kernel
theorem dlw_1487 : decode code 1487 = .ok (.iload 4, 2) := by decide +kernel
theorem dlw_1489 : decode code 1489 = .ok (.iconst 1, 1) := by decide +kernel
theorem dlw_1490 : decode code 1490 = .ok (.iadd, 1) := by decide +kernel
theorem dlw_1491 : decode code 1491 = .ok (.iaload, 1) := by decide +kernel
theorem dlw_1492 : decode code 1492 = .ok (.aload_n 0, 1) := by decide +kernel
theorem dlw_1493 : decode code 1493 = .ok (.iload 4, 2) := by decide +kernel
theorem dlw_1495 : decode code 1495 = .ok (.iconst 2, 1) := by decide +kernel
theorem dlw_1496 : decode code 1496 = .ok (.iadd, 1) := by decide +kernel
theorem dlw_1497 : decode code 1497 = .ok (.iaload, 1) := by decide +kernel
theorem dlw_1498 : decode code 1498 = .ok (.aload_n 0, 1) := by decide +kernel
theorem dlw_1499 : decode code 1499 = .ok (.iload 4, 2) := by decide +kernel
theorem dlw_1501 : decode code 1501 = .ok (.iconst 3, 1) := by decide +kernel
theorem dlw_1502 : decode code 1502 = .ok (.iadd, 1) := by decide +kernel
theorem dlw_1503 : decode code 1503 = .ok (.iaload, 1) := by decide +kernel
theorem dlw_1504 : decode code 1504 = .ok (.aload_n 3, 1) := by decide +kernel
theorem dlw_1505 : decode code 1505 = .ok (.invokestatic 180, 3) := by decide +kernel
theorem dlw_1508 : decode code 1508 = .ok (.istore 5, 2) := by decide +kernel
theorem dlw_1510 : decode code 1510 = .ok (.aload_n 2, 1) := by decide +kernel
theorem dlw_1511 : decode code 1511 = .ok (.aload_n 0, 1) := by decide +kernel
theorem dlw_1512 : decode code 1512 = .ok (.iload 4, 2) := by decide +kernel
theorem dlw_1514 : decode code 1514 = .ok (.iconst 1, 1) := by decide +kernel
theorem dlw_1515 : decode code 1515 = .ok (.iadd, 1) := by decide +kernel
theorem dlw_1516 : decode code 1516 = .ok (.iaload, 1) := by decide +kernel
theorem dlw_1517 : decode code 1517 = .ok (.aload_n 0, 1) := by decide +kernel
theorem dlw_1518 : decode code 1518 = .ok (.iload 4, 2) := by decide +kernel
theorem dlw_1520 : decode code 1520 = .ok (.iconst 2, 1) := by decide +kernel
theorem dlw_1521 : decode code 1521 = .ok (.iadd, 1) := by decide +kernel
theorem dlw_1522 : decode code 1522 = .ok (.iaload, 1) := by decide +kernel
theorem dlw_1523 : decode code 1523 = .ok (.aload_n 0, 1) := by decide +kernel
theorem dlw_1524 : decode code 1524 = .ok (.iload 4, 2) := by decide +kernel
theorem dlw_1526 : decode code 1526 = .ok (.iconst 3, 1) := by decide +kernel
theorem dlw_1527 : decode code 1527 = .ok (.iadd, 1) := by decide +kernel
theorem dlw_1528 : decode code 1528 = .ok (.iaload, 1) := by decide +kernel
theorem dlw_1529 : decode code 1529 = .ok (.invokevirtual 182, 3) := by decide +kernel
theorem dlw_1532 : decode code 1532 = .ok (.istore 6, 2) := by decide +kernel
theorem dlw_1534 : decode code 1534 = .ok (.aload_n 2, 1) := by decide +kernel
theorem dlw_1535 : decode code 1535 = .ok (.invokevirtual 100, 3) := by decide +kernel
theorem dlw_1538 : decode code 1538 = .ok (.iload 5, 2) := by decide +kernel
theorem dlw_1540 : decode code 1540 = .ok (.if_icmp .eq 5, 3) := by decide +kernel
theorem dlw_1543 : decode code 1543 = .ok (.iconst 0, 1) := by decide +kernel
theorem dlw_1544 : decode code 1544 = .ok (.ireturn, 1) := by decide +kernel
theorem dlw_1545 : decode code 1545 = .ok (.iload 5, 2) := by decide +kernel
theorem dlw_1547 : decode code 1547 = .ok (.ifCond .ne 22, 3) := by decide +kernel
theorem dlw_1550 : decode code 1550 = .ok (.aload_n 3, 1) := by decide +kernel
theorem dlw_1551 : decode code 1551 = .ok (.iconst 0, 1) := by decide +kernel
theorem dlw_1552 : decode code 1552 = .ok (.laload, 1) := by decide +kernel
theorem dlw_1553 : decode code 1553 = .ok (.iload 6, 2) := by decide +kernel
theorem dlw_1555 : decode code 1555 = .ok (.ifCond .eq 7, 3) := by decide +kernel
theorem dlw_1558 : decode code 1558 = .ok (.lconst 1, 1) := by decide +kernel
theorem dlw_1559 : decode code 1559 = .ok (.goto 4, 3) := by decide +kernel
theorem dlw_1562 : decode code 1562 = .ok (.lconst 0, 1) := by decide +kernel
theorem dlw_1563 : decode code 1563 = .ok (.lcmp, 1) := by decide +kernel
theorem dlw_1564 : decode code 1564 = .ok (.ifCond .eq 5, 3) := by decide +kernel
theorem dlw_1567 : decode code 1567 = .ok (.iconst 0, 1) := by decide +kernel
theorem dlw_1568 : decode code 1568 = .ok (.ireturn, 1) := by decide +kernel
theorem dlw_1569 : decode code 1569 = .ok (.goto 3, 3) := by decide +kernel
theorem dlw_1572 : decode code 1572 = .ok (.iinc 4 6, 3) := by decide +kernel
theorem dlw_1575 : decode code 1575 = .ok (.goto (-1552), 3) := by decide +kernel
theorem dlw_1578 : decode code 1578 = .ok (.iconst 1, 1) := by decide +kernel
theorem dlw_1579 : decode code 1579 = .ok (.ireturn, 1) := by decide +kernel
