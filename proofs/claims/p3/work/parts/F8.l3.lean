set_option maxHeartbeats 1600000
/-! the law's body: its instructions -/
theorem dlw_0 : decode code 0 = .ok (.new 8, 3) := by decide +kernel
theorem dlw_3 : decode code 3 = .ok (.dup, 1) := by decide +kernel
theorem dlw_4 : decode code 4 = .ok (.invokespecial 90, 3) := by decide +kernel
theorem dlw_7 : decode code 7 = .ok (.astore_n 1, 1) := by decide +kernel
theorem dlw_8 : decode code 8 = .ok (.new 91, 3) := by decide +kernel
theorem dlw_11 : decode code 11 = .ok (.dup, 1) := by decide +kernel
theorem dlw_12 : decode code 12 = .ok (.invokespecial 93, 3) := by decide +kernel
theorem dlw_15 : decode code 15 = .ok (.astore_n 2, 1) := by decide +kernel
theorem dlw_16 : decode code 16 = .ok (.iconst 1, 1) := by decide +kernel
theorem dlw_17 : decode code 17 = .ok (.newarray .long, 2) := by decide +kernel
theorem dlw_19 : decode code 19 = .ok (.astore_n 3, 1) := by decide +kernel
theorem dlw_20 : decode code 20 = .ok (.iconst 0, 1) := by decide +kernel
theorem dlw_21 : decode code 21 = .ok (.istore 4, 2) := by decide +kernel
theorem dlw_23 : decode code 23 = .ok (.iload 4, 2) := by decide +kernel
theorem dlw_25 : decode code 25 = .ok (.aload_n 0, 1) := by decide +kernel
theorem dlw_26 : decode code 26 = .ok (.arraylength, 1) := by decide +kernel
theorem dlw_27 : decode code 27 = .ok (.bipush 6, 2) := by decide +kernel
theorem dlw_29 : decode code 29 = .ok (.isub, 1) := by decide +kernel
theorem dlw_30 : decode code 30 = .ok (.if_icmp .gt 975, 3) := by decide +kernel
theorem dlw_33 : decode code 33 = .ok (.aload_n 0, 1) := by decide +kernel
theorem dlw_34 : decode code 34 = .ok (.iload 4, 2) := by decide +kernel
theorem dlw_36 : decode code 36 = .ok (.iaload, 1) := by decide +kernel
theorem dlw_37 : decode code 37 = .ok (.bipush 31, 2) := by decide +kernel
theorem dlw_39 : decode code 39 = .ok (.iand, 1) := by decide +kernel
theorem dlw_40 : decode code 40 = .ok (.tableswitch 959 0 23 #[112, 188, 224, 237, 250, 278, 306, 346, 398, 450, 490, 530, 558, 574, 590, 630, 658, 698, 726, 739, 811, 839, 867, 907], 112) := by decide +kernel
theorem dlw_152 : decode code 152 = .ok (.aload_n 1, 1) := by decide +kernel
theorem dlw_153 : decode code 153 = .ok (.aload_n 0, 1) := by decide +kernel
theorem dlw_154 : decode code 154 = .ok (.iload 4, 2) := by decide +kernel
theorem dlw_156 : decode code 156 = .ok (.iconst 1, 1) := by decide +kernel
theorem dlw_157 : decode code 157 = .ok (.iadd, 1) := by decide +kernel
theorem dlw_158 : decode code 158 = .ok (.iaload, 1) := by decide +kernel
theorem dlw_159 : decode code 159 = .ok (.aload_n 0, 1) := by decide +kernel
theorem dlw_160 : decode code 160 = .ok (.iload 4, 2) := by decide +kernel
theorem dlw_162 : decode code 162 = .ok (.iconst 2, 1) := by decide +kernel
theorem dlw_163 : decode code 163 = .ok (.iadd, 1) := by decide +kernel
theorem dlw_164 : decode code 164 = .ok (.iaload, 1) := by decide +kernel
theorem dlw_165 : decode code 165 = .ok (.aload_n 0, 1) := by decide +kernel
theorem dlw_166 : decode code 166 = .ok (.iload 4, 2) := by decide +kernel
theorem dlw_168 : decode code 168 = .ok (.iconst 3, 1) := by decide +kernel
theorem dlw_169 : decode code 169 = .ok (.iadd, 1) := by decide +kernel
theorem dlw_170 : decode code 170 = .ok (.iaload, 1) := by decide +kernel
theorem dlw_171 : decode code 171 = .ok (.aload_n 0, 1) := by decide +kernel
theorem dlw_172 : decode code 172 = .ok (.iload 4, 2) := by decide +kernel
theorem dlw_174 : decode code 174 = .ok (.iconst 4, 1) := by decide +kernel
theorem dlw_175 : decode code 175 = .ok (.iadd, 1) := by decide +kernel
theorem dlw_176 : decode code 176 = .ok (.iaload, 1) := by decide +kernel
theorem dlw_177 : decode code 177 = .ok (.aload_n 0, 1) := by decide +kernel
theorem dlw_178 : decode code 178 = .ok (.iload 4, 2) := by decide +kernel
theorem dlw_180 : decode code 180 = .ok (.iconst 5, 1) := by decide +kernel
theorem dlw_181 : decode code 181 = .ok (.iadd, 1) := by decide +kernel
theorem dlw_182 : decode code 182 = .ok (.iaload, 1) := by decide +kernel
theorem dlw_183 : decode code 183 = .ok (.aload_n 3, 1) := by decide +kernel
theorem dlw_184 : decode code 184 = .ok (.invokestatic 94, 3) := by decide +kernel
theorem dlw_187 : decode code 187 = .ok (.istore 5, 2) := by decide +kernel
theorem dlw_189 : decode code 189 = .ok (.aload_n 2, 1) := by decide +kernel
theorem dlw_190 : decode code 190 = .ok (.aload_n 0, 1) := by decide +kernel
theorem dlw_191 : decode code 191 = .ok (.iload 4, 2) := by decide +kernel
theorem dlw_193 : decode code 193 = .ok (.iconst 1, 1) := by decide +kernel
theorem dlw_194 : decode code 194 = .ok (.iadd, 1) := by decide +kernel
theorem dlw_195 : decode code 195 = .ok (.iaload, 1) := by decide +kernel
theorem dlw_196 : decode code 196 = .ok (.aload_n 0, 1) := by decide +kernel
theorem dlw_197 : decode code 197 = .ok (.iload 4, 2) := by decide +kernel
theorem dlw_199 : decode code 199 = .ok (.iconst 2, 1) := by decide +kernel
theorem dlw_200 : decode code 200 = .ok (.iadd, 1) := by decide +kernel
theorem dlw_201 : decode code 201 = .ok (.iaload, 1) := by decide +kernel
theorem dlw_202 : decode code 202 = .ok (.aload_n 0, 1) := by decide +kernel
theorem dlw_203 : decode code 203 = .ok (.iload 4, 2) := by decide +kernel
theorem dlw_205 : decode code 205 = .ok (.iconst 3, 1) := by decide +kernel
theorem dlw_206 : decode code 206 = .ok (.iadd, 1) := by decide +kernel
theorem dlw_207 : decode code 207 = .ok (.iaload, 1) := by decide +kernel
theorem dlw_208 : decode code 208 = .ok (.aload_n 0, 1) := by decide +kernel
theorem dlw_209 : decode code 209 = .ok (.iload 4, 2) := by decide +kernel
theorem dlw_211 : decode code 211 = .ok (.iconst 4, 1) := by decide +kernel
theorem dlw_212 : decode code 212 = .ok (.iadd, 1) := by decide +kernel
theorem dlw_213 : decode code 213 = .ok (.iaload, 1) := by decide +kernel
theorem dlw_214 : decode code 214 = .ok (.aload_n 0, 1) := by decide +kernel
theorem dlw_215 : decode code 215 = .ok (.iload 4, 2) := by decide +kernel
theorem dlw_217 : decode code 217 = .ok (.iconst 5, 1) := by decide +kernel
theorem dlw_218 : decode code 218 = .ok (.iadd, 1) := by decide +kernel
theorem dlw_219 : decode code 219 = .ok (.iaload, 1) := by decide +kernel
theorem dlw_220 : decode code 220 = .ok (.invokevirtual 99, 3) := by decide +kernel
theorem dlw_223 : decode code 223 = .ok (.istore 6, 2) := by decide +kernel
theorem dlw_225 : decode code 225 = .ok (.goto 774, 3) := by decide +kernel
theorem dlw_228 : decode code 228 = .ok (.aload_n 1, 1) := by decide +kernel
theorem dlw_229 : decode code 229 = .ok (.aload_n 0, 1) := by decide +kernel
theorem dlw_230 : decode code 230 = .ok (.iload 4, 2) := by decide +kernel
theorem dlw_232 : decode code 232 = .ok (.iconst 1, 1) := by decide +kernel
theorem dlw_233 : decode code 233 = .ok (.iadd, 1) := by decide +kernel
theorem dlw_234 : decode code 234 = .ok (.iaload, 1) := by decide +kernel
theorem dlw_235 : decode code 235 = .ok (.invokestatic 100, 3) := by decide +kernel
theorem dlw_238 : decode code 238 = .ok (.istore 5, 2) := by decide +kernel
theorem dlw_240 : decode code 240 = .ok (.aload_n 2, 1) := by decide +kernel
theorem dlw_241 : decode code 241 = .ok (.aload_n 0, 1) := by decide +kernel
theorem dlw_242 : decode code 242 = .ok (.iload 4, 2) := by decide +kernel
theorem dlw_244 : decode code 244 = .ok (.iconst 1, 1) := by decide +kernel
theorem dlw_245 : decode code 245 = .ok (.iadd, 1) := by decide +kernel
theorem dlw_246 : decode code 246 = .ok (.iaload, 1) := by decide +kernel
theorem dlw_247 : decode code 247 = .ok (.invokevirtual 103, 3) := by decide +kernel
theorem dlw_250 : decode code 250 = .ok (.aload_n 2, 1) := by decide +kernel
theorem dlw_251 : decode code 251 = .ok (.invokevirtual 104, 3) := by decide +kernel
theorem dlw_254 : decode code 254 = .ok (.iload 5, 2) := by decide +kernel
theorem dlw_256 : decode code 256 = .ok (.if_icmp .eq 5, 3) := by decide +kernel
theorem dlw_259 : decode code 259 = .ok (.iconst 0, 1) := by decide +kernel
theorem dlw_260 : decode code 260 = .ok (.ireturn, 1) := by decide +kernel
theorem dlw_261 : decode code 261 = .ok (.goto 738, 3) := by decide +kernel
theorem dlw_264 : decode code 264 = .ok (.aload_n 1, 1) := by decide +kernel
theorem dlw_265 : decode code 265 = .ok (.invokevirtual 107, 3) := by decide +kernel
theorem dlw_268 : decode code 268 = .ok (.pop, 1) := by decide +kernel
theorem dlw_269 : decode code 269 = .ok (.aload_n 2, 1) := by decide +kernel
theorem dlw_270 : decode code 270 = .ok (.invokevirtual 110, 3) := by decide +kernel
theorem dlw_273 : decode code 273 = .ok (.pop, 1) := by decide +kernel
theorem dlw_274 : decode code 274 = .ok (.goto 725, 3) := by decide +kernel
theorem dlw_277 : decode code 277 = .ok (.aload_n 1, 1) := by decide +kernel
theorem dlw_278 : decode code 278 = .ok (.invokevirtual 111, 3) := by decide +kernel
theorem dlw_281 : decode code 281 = .ok (.pop, 1) := by decide +kernel
theorem dlw_282 : decode code 282 = .ok (.aload_n 2, 1) := by decide +kernel
theorem dlw_283 : decode code 283 = .ok (.invokevirtual 114, 3) := by decide +kernel
theorem dlw_286 : decode code 286 = .ok (.pop, 1) := by decide +kernel
theorem dlw_287 : decode code 287 = .ok (.goto 712, 3) := by decide +kernel
theorem dlw_290 : decode code 290 = .ok (.aload_n 1, 1) := by decide +kernel
theorem dlw_291 : decode code 291 = .ok (.aload_n 0, 1) := by decide +kernel
theorem dlw_292 : decode code 292 = .ok (.iload 4, 2) := by decide +kernel
theorem dlw_294 : decode code 294 = .ok (.iconst 1, 1) := by decide +kernel
theorem dlw_295 : decode code 295 = .ok (.iadd, 1) := by decide +kernel
theorem dlw_296 : decode code 296 = .ok (.iaload, 1) := by decide +kernel
theorem dlw_297 : decode code 297 = .ok (.aload_n 3, 1) := by decide +kernel
theorem dlw_298 : decode code 298 = .ok (.invokestatic 115, 3) := by decide +kernel
theorem dlw_301 : decode code 301 = .ok (.istore 5, 2) := by decide +kernel
theorem dlw_303 : decode code 303 = .ok (.aload_n 2, 1) := by decide +kernel
theorem dlw_304 : decode code 304 = .ok (.aload_n 0, 1) := by decide +kernel
theorem dlw_305 : decode code 305 = .ok (.iload 4, 2) := by decide +kernel
theorem dlw_307 : decode code 307 = .ok (.iconst 1, 1) := by decide +kernel
theorem dlw_308 : decode code 308 = .ok (.iadd, 1) := by decide +kernel
theorem dlw_309 : decode code 309 = .ok (.iaload, 1) := by decide +kernel
theorem dlw_310 : decode code 310 = .ok (.invokevirtual 118, 3) := by decide +kernel
theorem dlw_313 : decode code 313 = .ok (.istore 6, 2) := by decide +kernel
theorem dlw_315 : decode code 315 = .ok (.goto 684, 3) := by decide +kernel
theorem dlw_318 : decode code 318 = .ok (.aload_n 1, 1) := by decide +kernel
theorem dlw_319 : decode code 319 = .ok (.aload_n 0, 1) := by decide +kernel
theorem dlw_320 : decode code 320 = .ok (.iload 4, 2) := by decide +kernel
theorem dlw_322 : decode code 322 = .ok (.iconst 1, 1) := by decide +kernel
theorem dlw_323 : decode code 323 = .ok (.iadd, 1) := by decide +kernel
theorem dlw_324 : decode code 324 = .ok (.iaload, 1) := by decide +kernel
theorem dlw_325 : decode code 325 = .ok (.aload_n 3, 1) := by decide +kernel
theorem dlw_326 : decode code 326 = .ok (.invokestatic 119, 3) := by decide +kernel
theorem dlw_329 : decode code 329 = .ok (.istore 5, 2) := by decide +kernel
theorem dlw_331 : decode code 331 = .ok (.aload_n 2, 1) := by decide +kernel
theorem dlw_332 : decode code 332 = .ok (.aload_n 0, 1) := by decide +kernel
theorem dlw_333 : decode code 333 = .ok (.iload 4, 2) := by decide +kernel
theorem dlw_335 : decode code 335 = .ok (.iconst 1, 1) := by decide +kernel
theorem dlw_336 : decode code 336 = .ok (.iadd, 1) := by decide +kernel
theorem dlw_337 : decode code 337 = .ok (.iaload, 1) := by decide +kernel
theorem dlw_338 : decode code 338 = .ok (.invokevirtual 121, 3) := by decide +kernel
theorem dlw_341 : decode code 341 = .ok (.istore 6, 2) := by decide +kernel
theorem dlw_343 : decode code 343 = .ok (.goto 656, 3) := by decide +kernel
theorem dlw_346 : decode code 346 = .ok (.aload_n 1, 1) := by decide +kernel
theorem dlw_347 : decode code 347 = .ok (.aload_n 0, 1) := by decide +kernel
theorem dlw_348 : decode code 348 = .ok (.iload 4, 2) := by decide +kernel
theorem dlw_350 : decode code 350 = .ok (.iconst 1, 1) := by decide +kernel
theorem dlw_351 : decode code 351 = .ok (.iadd, 1) := by decide +kernel
theorem dlw_352 : decode code 352 = .ok (.iaload, 1) := by decide +kernel
theorem dlw_353 : decode code 353 = .ok (.aload_n 0, 1) := by decide +kernel
theorem dlw_354 : decode code 354 = .ok (.iload 4, 2) := by decide +kernel
theorem dlw_356 : decode code 356 = .ok (.iconst 2, 1) := by decide +kernel
theorem dlw_357 : decode code 357 = .ok (.iadd, 1) := by decide +kernel
theorem dlw_358 : decode code 358 = .ok (.iaload, 1) := by decide +kernel
theorem dlw_359 : decode code 359 = .ok (.aload_n 3, 1) := by decide +kernel
theorem dlw_360 : decode code 360 = .ok (.invokestatic 122, 3) := by decide +kernel
theorem dlw_363 : decode code 363 = .ok (.istore 5, 2) := by decide +kernel
theorem dlw_365 : decode code 365 = .ok (.aload_n 2, 1) := by decide +kernel
theorem dlw_366 : decode code 366 = .ok (.aload_n 0, 1) := by decide +kernel
theorem dlw_367 : decode code 367 = .ok (.iload 4, 2) := by decide +kernel
theorem dlw_369 : decode code 369 = .ok (.iconst 1, 1) := by decide +kernel
theorem dlw_370 : decode code 370 = .ok (.iadd, 1) := by decide +kernel
theorem dlw_371 : decode code 371 = .ok (.iaload, 1) := by decide +kernel
theorem dlw_372 : decode code 372 = .ok (.aload_n 0, 1) := by decide +kernel
theorem dlw_373 : decode code 373 = .ok (.iload 4, 2) := by decide +kernel
theorem dlw_375 : decode code 375 = .ok (.iconst 2, 1) := by decide +kernel
theorem dlw_376 : decode code 376 = .ok (.iadd, 1) := by decide +kernel
theorem dlw_377 : decode code 377 = .ok (.iaload, 1) := by decide +kernel
theorem dlw_378 : decode code 378 = .ok (.invokevirtual 125, 3) := by decide +kernel
theorem dlw_381 : decode code 381 = .ok (.istore 6, 2) := by decide +kernel
theorem dlw_383 : decode code 383 = .ok (.goto 616, 3) := by decide +kernel
theorem dlw_386 : decode code 386 = .ok (.aload_n 1, 1) := by decide +kernel
theorem dlw_387 : decode code 387 = .ok (.aload_n 0, 1) := by decide +kernel
theorem dlw_388 : decode code 388 = .ok (.iload 4, 2) := by decide +kernel
theorem dlw_390 : decode code 390 = .ok (.iconst 1, 1) := by decide +kernel
theorem dlw_391 : decode code 391 = .ok (.iadd, 1) := by decide +kernel
theorem dlw_392 : decode code 392 = .ok (.iaload, 1) := by decide +kernel
theorem dlw_393 : decode code 393 = .ok (.aload_n 0, 1) := by decide +kernel
theorem dlw_394 : decode code 394 = .ok (.iload 4, 2) := by decide +kernel
theorem dlw_396 : decode code 396 = .ok (.iconst 2, 1) := by decide +kernel
theorem dlw_397 : decode code 397 = .ok (.iadd, 1) := by decide +kernel
theorem dlw_398 : decode code 398 = .ok (.iaload, 1) := by decide +kernel
theorem dlw_399 : decode code 399 = .ok (.aload_n 0, 1) := by decide +kernel
theorem dlw_400 : decode code 400 = .ok (.iload 4, 2) := by decide +kernel
theorem dlw_402 : decode code 402 = .ok (.iconst 3, 1) := by decide +kernel
theorem dlw_403 : decode code 403 = .ok (.iadd, 1) := by decide +kernel
theorem dlw_404 : decode code 404 = .ok (.iaload, 1) := by decide +kernel
theorem dlw_405 : decode code 405 = .ok (.aload_n 3, 1) := by decide +kernel
theorem dlw_406 : decode code 406 = .ok (.invokestatic 126, 3) := by decide +kernel
theorem dlw_409 : decode code 409 = .ok (.istore 5, 2) := by decide +kernel
theorem dlw_411 : decode code 411 = .ok (.aload_n 2, 1) := by decide +kernel
theorem dlw_412 : decode code 412 = .ok (.aload_n 0, 1) := by decide +kernel
theorem dlw_413 : decode code 413 = .ok (.iload 4, 2) := by decide +kernel
theorem dlw_415 : decode code 415 = .ok (.iconst 1, 1) := by decide +kernel
theorem dlw_416 : decode code 416 = .ok (.iadd, 1) := by decide +kernel
theorem dlw_417 : decode code 417 = .ok (.iaload, 1) := by decide +kernel
theorem dlw_418 : decode code 418 = .ok (.aload_n 0, 1) := by decide +kernel
theorem dlw_419 : decode code 419 = .ok (.iload 4, 2) := by decide +kernel
theorem dlw_421 : decode code 421 = .ok (.iconst 2, 1) := by decide +kernel
theorem dlw_422 : decode code 422 = .ok (.iadd, 1) := by decide +kernel
theorem dlw_423 : decode code 423 = .ok (.iaload, 1) := by decide +kernel
theorem dlw_424 : decode code 424 = .ok (.aload_n 0, 1) := by decide +kernel
theorem dlw_425 : decode code 425 = .ok (.iload 4, 2) := by decide +kernel
theorem dlw_427 : decode code 427 = .ok (.iconst 3, 1) := by decide +kernel
theorem dlw_428 : decode code 428 = .ok (.iadd, 1) := by decide +kernel
theorem dlw_429 : decode code 429 = .ok (.iaload, 1) := by decide +kernel
theorem dlw_430 : decode code 430 = .ok (.invokevirtual 129, 3) := by decide +kernel
theorem dlw_433 : decode code 433 = .ok (.istore 6, 2) := by decide +kernel
theorem dlw_435 : decode code 435 = .ok (.goto 564, 3) := by decide +kernel
theorem dlw_438 : decode code 438 = .ok (.aload_n 1, 1) := by decide +kernel
theorem dlw_439 : decode code 439 = .ok (.aload_n 0, 1) := by decide +kernel
theorem dlw_440 : decode code 440 = .ok (.iload 4, 2) := by decide +kernel
theorem dlw_442 : decode code 442 = .ok (.iconst 1, 1) := by decide +kernel
theorem dlw_443 : decode code 443 = .ok (.iadd, 1) := by decide +kernel
theorem dlw_444 : decode code 444 = .ok (.iaload, 1) := by decide +kernel
theorem dlw_445 : decode code 445 = .ok (.aload_n 0, 1) := by decide +kernel
theorem dlw_446 : decode code 446 = .ok (.iload 4, 2) := by decide +kernel
theorem dlw_448 : decode code 448 = .ok (.iconst 2, 1) := by decide +kernel
theorem dlw_449 : decode code 449 = .ok (.iadd, 1) := by decide +kernel
theorem dlw_450 : decode code 450 = .ok (.iaload, 1) := by decide +kernel
theorem dlw_451 : decode code 451 = .ok (.aload_n 0, 1) := by decide +kernel
theorem dlw_452 : decode code 452 = .ok (.iload 4, 2) := by decide +kernel
theorem dlw_454 : decode code 454 = .ok (.iconst 3, 1) := by decide +kernel
theorem dlw_455 : decode code 455 = .ok (.iadd, 1) := by decide +kernel
theorem dlw_456 : decode code 456 = .ok (.iaload, 1) := by decide +kernel
theorem dlw_457 : decode code 457 = .ok (.aload_n 3, 1) := by decide +kernel
theorem dlw_458 : decode code 458 = .ok (.invokestatic 130, 3) := by decide +kernel
theorem dlw_461 : decode code 461 = .ok (.istore 5, 2) := by decide +kernel
theorem dlw_463 : decode code 463 = .ok (.aload_n 2, 1) := by decide +kernel
theorem dlw_464 : decode code 464 = .ok (.aload_n 0, 1) := by decide +kernel
theorem dlw_465 : decode code 465 = .ok (.iload 4, 2) := by decide +kernel
theorem dlw_467 : decode code 467 = .ok (.iconst 1, 1) := by decide +kernel
theorem dlw_468 : decode code 468 = .ok (.iadd, 1) := by decide +kernel
theorem dlw_469 : decode code 469 = .ok (.iaload, 1) := by decide +kernel
theorem dlw_470 : decode code 470 = .ok (.aload_n 0, 1) := by decide +kernel
theorem dlw_471 : decode code 471 = .ok (.iload 4, 2) := by decide +kernel
theorem dlw_473 : decode code 473 = .ok (.iconst 2, 1) := by decide +kernel
theorem dlw_474 : decode code 474 = .ok (.iadd, 1) := by decide +kernel
theorem dlw_475 : decode code 475 = .ok (.iaload, 1) := by decide +kernel
theorem dlw_476 : decode code 476 = .ok (.aload_n 0, 1) := by decide +kernel
theorem dlw_477 : decode code 477 = .ok (.iload 4, 2) := by decide +kernel
theorem dlw_479 : decode code 479 = .ok (.iconst 3, 1) := by decide +kernel
theorem dlw_480 : decode code 480 = .ok (.iadd, 1) := by decide +kernel
theorem dlw_481 : decode code 481 = .ok (.iaload, 1) := by decide +kernel
theorem dlw_482 : decode code 482 = .ok (.invokevirtual 132, 3) := by decide +kernel
theorem dlw_485 : decode code 485 = .ok (.istore 6, 2) := by decide +kernel
theorem dlw_487 : decode code 487 = .ok (.goto 512, 3) := by decide +kernel
theorem dlw_490 : decode code 490 = .ok (.aload_n 1, 1) := by decide +kernel
theorem dlw_491 : decode code 491 = .ok (.aload_n 0, 1) := by decide +kernel
theorem dlw_492 : decode code 492 = .ok (.iload 4, 2) := by decide +kernel
theorem dlw_494 : decode code 494 = .ok (.iconst 1, 1) := by decide +kernel
theorem dlw_495 : decode code 495 = .ok (.iadd, 1) := by decide +kernel
theorem dlw_496 : decode code 496 = .ok (.iaload, 1) := by decide +kernel
theorem dlw_497 : decode code 497 = .ok (.aload_n 0, 1) := by decide +kernel
theorem dlw_498 : decode code 498 = .ok (.iload 4, 2) := by decide +kernel
theorem dlw_500 : decode code 500 = .ok (.iconst 2, 1) := by decide +kernel
theorem dlw_501 : decode code 501 = .ok (.iadd, 1) := by decide +kernel
theorem dlw_502 : decode code 502 = .ok (.iaload, 1) := by decide +kernel
theorem dlw_503 : decode code 503 = .ok (.aload_n 3, 1) := by decide +kernel
theorem dlw_504 : decode code 504 = .ok (.invokestatic 133, 3) := by decide +kernel
theorem dlw_507 : decode code 507 = .ok (.istore 5, 2) := by decide +kernel
theorem dlw_509 : decode code 509 = .ok (.aload_n 2, 1) := by decide +kernel
theorem dlw_510 : decode code 510 = .ok (.aload_n 0, 1) := by decide +kernel
theorem dlw_511 : decode code 511 = .ok (.iload 4, 2) := by decide +kernel
theorem dlw_513 : decode code 513 = .ok (.iconst 1, 1) := by decide +kernel
theorem dlw_514 : decode code 514 = .ok (.iadd, 1) := by decide +kernel
theorem dlw_515 : decode code 515 = .ok (.iaload, 1) := by decide +kernel
theorem dlw_516 : decode code 516 = .ok (.aload_n 0, 1) := by decide +kernel
theorem dlw_517 : decode code 517 = .ok (.iload 4, 2) := by decide +kernel
theorem dlw_519 : decode code 519 = .ok (.iconst 2, 1) := by decide +kernel
theorem dlw_520 : decode code 520 = .ok (.iadd, 1) := by decide +kernel
theorem dlw_521 : decode code 521 = .ok (.iaload, 1) := by decide +kernel
theorem dlw_522 : decode code 522 = .ok (.invokevirtual 135, 3) := by decide +kernel
theorem dlw_525 : decode code 525 = .ok (.istore 6, 2) := by decide +kernel
theorem dlw_527 : decode code 527 = .ok (.goto 472, 3) := by decide +kernel
theorem dlw_530 : decode code 530 = .ok (.aload_n 1, 1) := by decide +kernel
theorem dlw_531 : decode code 531 = .ok (.aload_n 0, 1) := by decide +kernel
theorem dlw_532 : decode code 532 = .ok (.iload 4, 2) := by decide +kernel
theorem dlw_534 : decode code 534 = .ok (.iconst 1, 1) := by decide +kernel
theorem dlw_535 : decode code 535 = .ok (.iadd, 1) := by decide +kernel
theorem dlw_536 : decode code 536 = .ok (.iaload, 1) := by decide +kernel
theorem dlw_537 : decode code 537 = .ok (.aload_n 0, 1) := by decide +kernel
theorem dlw_538 : decode code 538 = .ok (.iload 4, 2) := by decide +kernel
theorem dlw_540 : decode code 540 = .ok (.iconst 2, 1) := by decide +kernel
theorem dlw_541 : decode code 541 = .ok (.iadd, 1) := by decide +kernel
theorem dlw_542 : decode code 542 = .ok (.iaload, 1) := by decide +kernel
theorem dlw_543 : decode code 543 = .ok (.aload_n 3, 1) := by decide +kernel
theorem dlw_544 : decode code 544 = .ok (.invokestatic 136, 3) := by decide +kernel
theorem dlw_547 : decode code 547 = .ok (.istore 5, 2) := by decide +kernel
theorem dlw_549 : decode code 549 = .ok (.aload_n 2, 1) := by decide +kernel
theorem dlw_550 : decode code 550 = .ok (.aload_n 0, 1) := by decide +kernel
theorem dlw_551 : decode code 551 = .ok (.iload 4, 2) := by decide +kernel
theorem dlw_553 : decode code 553 = .ok (.iconst 1, 1) := by decide +kernel
theorem dlw_554 : decode code 554 = .ok (.iadd, 1) := by decide +kernel
theorem dlw_555 : decode code 555 = .ok (.iaload, 1) := by decide +kernel
theorem dlw_556 : decode code 556 = .ok (.aload_n 0, 1) := by decide +kernel
theorem dlw_557 : decode code 557 = .ok (.iload 4, 2) := by decide +kernel
theorem dlw_559 : decode code 559 = .ok (.iconst 2, 1) := by decide +kernel
theorem dlw_560 : decode code 560 = .ok (.iadd, 1) := by decide +kernel
theorem dlw_561 : decode code 561 = .ok (.iaload, 1) := by decide +kernel
theorem dlw_562 : decode code 562 = .ok (.invokevirtual 138, 3) := by decide +kernel
theorem dlw_565 : decode code 565 = .ok (.istore 6, 2) := by decide +kernel
theorem dlw_567 : decode code 567 = .ok (.goto 432, 3) := by decide +kernel
theorem dlw_570 : decode code 570 = .ok (.aload_n 1, 1) := by decide +kernel
theorem dlw_571 : decode code 571 = .ok (.aload_n 0, 1) := by decide +kernel
theorem dlw_572 : decode code 572 = .ok (.iload 4, 2) := by decide +kernel
theorem dlw_574 : decode code 574 = .ok (.iconst 1, 1) := by decide +kernel
theorem dlw_575 : decode code 575 = .ok (.iadd, 1) := by decide +kernel
theorem dlw_576 : decode code 576 = .ok (.iaload, 1) := by decide +kernel
theorem dlw_577 : decode code 577 = .ok (.aload_n 3, 1) := by decide +kernel
theorem dlw_578 : decode code 578 = .ok (.invokestatic 139, 3) := by decide +kernel
theorem dlw_581 : decode code 581 = .ok (.istore 5, 2) := by decide +kernel
theorem dlw_583 : decode code 583 = .ok (.aload_n 2, 1) := by decide +kernel
theorem dlw_584 : decode code 584 = .ok (.aload_n 0, 1) := by decide +kernel
theorem dlw_585 : decode code 585 = .ok (.iload 4, 2) := by decide +kernel
theorem dlw_587 : decode code 587 = .ok (.iconst 1, 1) := by decide +kernel
theorem dlw_588 : decode code 588 = .ok (.iadd, 1) := by decide +kernel
theorem dlw_589 : decode code 589 = .ok (.iaload, 1) := by decide +kernel
theorem dlw_590 : decode code 590 = .ok (.invokevirtual 141, 3) := by decide +kernel
theorem dlw_593 : decode code 593 = .ok (.istore 6, 2) := by decide +kernel
theorem dlw_595 : decode code 595 = .ok (.goto 404, 3) := by decide +kernel
theorem dlw_598 : decode code 598 = .ok (.aload_n 1, 1) := by decide +kernel
theorem dlw_599 : decode code 599 = .ok (.aload_n 3, 1) := by decide +kernel
theorem dlw_600 : decode code 600 = .ok (.invokestatic 142, 3) := by decide +kernel
theorem dlw_603 : decode code 603 = .ok (.istore 5, 2) := by decide +kernel
theorem dlw_605 : decode code 605 = .ok (.aload_n 2, 1) := by decide +kernel
theorem dlw_606 : decode code 606 = .ok (.invokevirtual 145, 3) := by decide +kernel
theorem dlw_609 : decode code 609 = .ok (.istore 6, 2) := by decide +kernel
theorem dlw_611 : decode code 611 = .ok (.goto 388, 3) := by decide +kernel
theorem dlw_614 : decode code 614 = .ok (.aload_n 1, 1) := by decide +kernel
theorem dlw_615 : decode code 615 = .ok (.aload_n 3, 1) := by decide +kernel
theorem dlw_616 : decode code 616 = .ok (.invokestatic 146, 3) := by decide +kernel
theorem dlw_619 : decode code 619 = .ok (.istore 5, 2) := by decide +kernel
theorem dlw_621 : decode code 621 = .ok (.aload_n 2, 1) := by decide +kernel
theorem dlw_622 : decode code 622 = .ok (.invokevirtual 148, 3) := by decide +kernel
theorem dlw_625 : decode code 625 = .ok (.istore 6, 2) := by decide +kernel
theorem dlw_627 : decode code 627 = .ok (.goto 372, 3) := by decide +kernel
theorem dlw_630 : decode code 630 = .ok (.aload_n 1, 1) := by decide +kernel
theorem dlw_631 : decode code 631 = .ok (.aload_n 0, 1) := by decide +kernel
theorem dlw_632 : decode code 632 = .ok (.iload 4, 2) := by decide +kernel
theorem dlw_634 : decode code 634 = .ok (.iconst 1, 1) := by decide +kernel
theorem dlw_635 : decode code 635 = .ok (.iadd, 1) := by decide +kernel
theorem dlw_636 : decode code 636 = .ok (.iaload, 1) := by decide +kernel
theorem dlw_637 : decode code 637 = .ok (.aload_n 0, 1) := by decide +kernel
theorem dlw_638 : decode code 638 = .ok (.iload 4, 2) := by decide +kernel
theorem dlw_640 : decode code 640 = .ok (.iconst 2, 1) := by decide +kernel
theorem dlw_641 : decode code 641 = .ok (.iadd, 1) := by decide +kernel
theorem dlw_642 : decode code 642 = .ok (.iaload, 1) := by decide +kernel
theorem dlw_643 : decode code 643 = .ok (.aload_n 3, 1) := by decide +kernel
theorem dlw_644 : decode code 644 = .ok (.invokestatic 149, 3) := by decide +kernel
theorem dlw_647 : decode code 647 = .ok (.istore 5, 2) := by decide +kernel
theorem dlw_649 : decode code 649 = .ok (.aload_n 2, 1) := by decide +kernel
theorem dlw_650 : decode code 650 = .ok (.aload_n 0, 1) := by decide +kernel
theorem dlw_651 : decode code 651 = .ok (.iload 4, 2) := by decide +kernel
theorem dlw_653 : decode code 653 = .ok (.iconst 1, 1) := by decide +kernel
theorem dlw_654 : decode code 654 = .ok (.iadd, 1) := by decide +kernel
theorem dlw_655 : decode code 655 = .ok (.iaload, 1) := by decide +kernel
theorem dlw_656 : decode code 656 = .ok (.aload_n 0, 1) := by decide +kernel
theorem dlw_657 : decode code 657 = .ok (.iload 4, 2) := by decide +kernel
theorem dlw_659 : decode code 659 = .ok (.iconst 2, 1) := by decide +kernel
theorem dlw_660 : decode code 660 = .ok (.iadd, 1) := by decide +kernel
theorem dlw_661 : decode code 661 = .ok (.iaload, 1) := by decide +kernel
theorem dlw_662 : decode code 662 = .ok (.invokevirtual 151, 3) := by decide +kernel
theorem dlw_665 : decode code 665 = .ok (.istore 6, 2) := by decide +kernel
theorem dlw_667 : decode code 667 = .ok (.goto 332, 3) := by decide +kernel
theorem dlw_670 : decode code 670 = .ok (.aload_n 1, 1) := by decide +kernel
theorem dlw_671 : decode code 671 = .ok (.aload_n 0, 1) := by decide +kernel
theorem dlw_672 : decode code 672 = .ok (.iload 4, 2) := by decide +kernel
theorem dlw_674 : decode code 674 = .ok (.iconst 1, 1) := by decide +kernel
theorem dlw_675 : decode code 675 = .ok (.iadd, 1) := by decide +kernel
theorem dlw_676 : decode code 676 = .ok (.iaload, 1) := by decide +kernel
theorem dlw_677 : decode code 677 = .ok (.aload_n 3, 1) := by decide +kernel
theorem dlw_678 : decode code 678 = .ok (.invokestatic 152, 3) := by decide +kernel
theorem dlw_681 : decode code 681 = .ok (.istore 5, 2) := by decide +kernel
theorem dlw_683 : decode code 683 = .ok (.aload_n 2, 1) := by decide +kernel
theorem dlw_684 : decode code 684 = .ok (.aload_n 0, 1) := by decide +kernel
theorem dlw_685 : decode code 685 = .ok (.iload 4, 2) := by decide +kernel
theorem dlw_687 : decode code 687 = .ok (.iconst 1, 1) := by decide +kernel
theorem dlw_688 : decode code 688 = .ok (.iadd, 1) := by decide +kernel
theorem dlw_689 : decode code 689 = .ok (.iaload, 1) := by decide +kernel
theorem dlw_690 : decode code 690 = .ok (.invokevirtual 154, 3) := by decide +kernel
theorem dlw_693 : decode code 693 = .ok (.istore 6, 2) := by decide +kernel
theorem dlw_695 : decode code 695 = .ok (.goto 304, 3) := by decide +kernel
theorem dlw_698 : decode code 698 = .ok (.aload_n 1, 1) := by decide +kernel
theorem dlw_699 : decode code 699 = .ok (.aload_n 0, 1) := by decide +kernel
theorem dlw_700 : decode code 700 = .ok (.iload 4, 2) := by decide +kernel
theorem dlw_702 : decode code 702 = .ok (.iconst 1, 1) := by decide +kernel
theorem dlw_703 : decode code 703 = .ok (.iadd, 1) := by decide +kernel
theorem dlw_704 : decode code 704 = .ok (.iaload, 1) := by decide +kernel
theorem dlw_705 : decode code 705 = .ok (.aload_n 0, 1) := by decide +kernel
theorem dlw_706 : decode code 706 = .ok (.iload 4, 2) := by decide +kernel
theorem dlw_708 : decode code 708 = .ok (.iconst 2, 1) := by decide +kernel
theorem dlw_709 : decode code 709 = .ok (.iadd, 1) := by decide +kernel
theorem dlw_710 : decode code 710 = .ok (.iaload, 1) := by decide +kernel
theorem dlw_711 : decode code 711 = .ok (.aload_n 3, 1) := by decide +kernel
theorem dlw_712 : decode code 712 = .ok (.invokestatic 155, 3) := by decide +kernel
theorem dlw_715 : decode code 715 = .ok (.istore 5, 2) := by decide +kernel
theorem dlw_717 : decode code 717 = .ok (.aload_n 2, 1) := by decide +kernel
theorem dlw_718 : decode code 718 = .ok (.aload_n 0, 1) := by decide +kernel
theorem dlw_719 : decode code 719 = .ok (.iload 4, 2) := by decide +kernel
theorem dlw_721 : decode code 721 = .ok (.iconst 1, 1) := by decide +kernel
theorem dlw_722 : decode code 722 = .ok (.iadd, 1) := by decide +kernel
theorem dlw_723 : decode code 723 = .ok (.iaload, 1) := by decide +kernel
theorem dlw_724 : decode code 724 = .ok (.aload_n 0, 1) := by decide +kernel
theorem dlw_725 : decode code 725 = .ok (.iload 4, 2) := by decide +kernel
theorem dlw_727 : decode code 727 = .ok (.iconst 2, 1) := by decide +kernel
theorem dlw_728 : decode code 728 = .ok (.iadd, 1) := by decide +kernel
theorem dlw_729 : decode code 729 = .ok (.iaload, 1) := by decide +kernel
theorem dlw_730 : decode code 730 = .ok (.invokevirtual 157, 3) := by decide +kernel
theorem dlw_733 : decode code 733 = .ok (.istore 6, 2) := by decide +kernel
theorem dlw_735 : decode code 735 = .ok (.goto 264, 3) := by decide +kernel
theorem dlw_738 : decode code 738 = .ok (.aload_n 1, 1) := by decide +kernel
theorem dlw_739 : decode code 739 = .ok (.aload_n 0, 1) := by decide +kernel
theorem dlw_740 : decode code 740 = .ok (.iload 4, 2) := by decide +kernel
theorem dlw_742 : decode code 742 = .ok (.iconst 1, 1) := by decide +kernel
theorem dlw_743 : decode code 743 = .ok (.iadd, 1) := by decide +kernel
theorem dlw_744 : decode code 744 = .ok (.iaload, 1) := by decide +kernel
theorem dlw_745 : decode code 745 = .ok (.aload_n 3, 1) := by decide +kernel
theorem dlw_746 : decode code 746 = .ok (.invokestatic 158, 3) := by decide +kernel
theorem dlw_749 : decode code 749 = .ok (.istore 5, 2) := by decide +kernel
theorem dlw_751 : decode code 751 = .ok (.aload_n 2, 1) := by decide +kernel
theorem dlw_752 : decode code 752 = .ok (.aload_n 0, 1) := by decide +kernel
theorem dlw_753 : decode code 753 = .ok (.iload 4, 2) := by decide +kernel
theorem dlw_755 : decode code 755 = .ok (.iconst 1, 1) := by decide +kernel
theorem dlw_756 : decode code 756 = .ok (.iadd, 1) := by decide +kernel
theorem dlw_757 : decode code 757 = .ok (.iaload, 1) := by decide +kernel
theorem dlw_758 : decode code 758 = .ok (.invokevirtual 160, 3) := by decide +kernel
theorem dlw_761 : decode code 761 = .ok (.istore 6, 2) := by decide +kernel
theorem dlw_763 : decode code 763 = .ok (.goto 236, 3) := by decide +kernel
theorem dlw_766 : decode code 766 = .ok (.aload_n 1, 1) := by decide +kernel
theorem dlw_767 : decode code 767 = .ok (.invokevirtual 161, 3) := by decide +kernel
theorem dlw_770 : decode code 770 = .ok (.pop, 1) := by decide +kernel
theorem dlw_771 : decode code 771 = .ok (.aload_n 2, 1) := by decide +kernel
theorem dlw_772 : decode code 772 = .ok (.invokevirtual 164, 3) := by decide +kernel
theorem dlw_775 : decode code 775 = .ok (.pop, 1) := by decide +kernel
theorem dlw_776 : decode code 776 = .ok (.goto 223, 3) := by decide +kernel
theorem dlw_779 : decode code 779 = .ok (.aload_n 1, 1) := by decide +kernel
theorem dlw_780 : decode code 780 = .ok (.aload_n 0, 1) := by decide +kernel
theorem dlw_781 : decode code 781 = .ok (.iload 4, 2) := by decide +kernel
theorem dlw_783 : decode code 783 = .ok (.iconst 1, 1) := by decide +kernel
theorem dlw_784 : decode code 784 = .ok (.iadd, 1) := by decide +kernel
theorem dlw_785 : decode code 785 = .ok (.iaload, 1) := by decide +kernel
theorem dlw_786 : decode code 786 = .ok (.i2l, 1) := by decide +kernel
theorem dlw_787 : decode code 787 = .ok (.bipush 32, 2) := by decide +kernel
theorem dlw_789 : decode code 789 = .ok (.lshl, 1) := by decide +kernel
theorem dlw_790 : decode code 790 = .ok (.aload_n 0, 1) := by decide +kernel
theorem dlw_791 : decode code 791 = .ok (.iload 4, 2) := by decide +kernel
theorem dlw_793 : decode code 793 = .ok (.iconst 2, 1) := by decide +kernel
theorem dlw_794 : decode code 794 = .ok (.iadd, 1) := by decide +kernel
theorem dlw_795 : decode code 795 = .ok (.iaload, 1) := by decide +kernel
theorem dlw_796 : decode code 796 = .ok (.i2l, 1) := by decide +kernel
theorem dlw_797 : decode code 797 = .ok (.ldc2_w 165, 3) := by decide +kernel
theorem dlw_800 : decode code 800 = .ok (.land, 1) := by decide +kernel
theorem dlw_801 : decode code 801 = .ok (.lor, 1) := by decide +kernel
theorem dlw_802 : decode code 802 = .ok (.aload_n 0, 1) := by decide +kernel
theorem dlw_803 : decode code 803 = .ok (.iload 4, 2) := by decide +kernel
theorem dlw_805 : decode code 805 = .ok (.iconst 3, 1) := by decide +kernel
theorem dlw_806 : decode code 806 = .ok (.iadd, 1) := by decide +kernel
theorem dlw_807 : decode code 807 = .ok (.iaload, 1) := by decide +kernel
theorem dlw_808 : decode code 808 = .ok (.aload_n 3, 1) := by decide +kernel
theorem dlw_809 : decode code 809 = .ok (.invokestatic 167, 3) := by decide +kernel
theorem dlw_812 : decode code 812 = .ok (.istore 5, 2) := by decide +kernel
theorem dlw_814 : decode code 814 = .ok (.aload_n 2, 1) := by decide +kernel
theorem dlw_815 : decode code 815 = .ok (.aload_n 0, 1) := by decide +kernel
theorem dlw_816 : decode code 816 = .ok (.iload 4, 2) := by decide +kernel
theorem dlw_818 : decode code 818 = .ok (.iconst 1, 1) := by decide +kernel
theorem dlw_819 : decode code 819 = .ok (.iadd, 1) := by decide +kernel
theorem dlw_820 : decode code 820 = .ok (.iaload, 1) := by decide +kernel
theorem dlw_821 : decode code 821 = .ok (.i2l, 1) := by decide +kernel
theorem dlw_822 : decode code 822 = .ok (.bipush 32, 2) := by decide +kernel
theorem dlw_824 : decode code 824 = .ok (.lshl, 1) := by decide +kernel
theorem dlw_825 : decode code 825 = .ok (.aload_n 0, 1) := by decide +kernel
theorem dlw_826 : decode code 826 = .ok (.iload 4, 2) := by decide +kernel
theorem dlw_828 : decode code 828 = .ok (.iconst 2, 1) := by decide +kernel
theorem dlw_829 : decode code 829 = .ok (.iadd, 1) := by decide +kernel
theorem dlw_830 : decode code 830 = .ok (.iaload, 1) := by decide +kernel
theorem dlw_831 : decode code 831 = .ok (.i2l, 1) := by decide +kernel
theorem dlw_832 : decode code 832 = .ok (.ldc2_w 165, 3) := by decide +kernel
theorem dlw_835 : decode code 835 = .ok (.land, 1) := by decide +kernel
theorem dlw_836 : decode code 836 = .ok (.lor, 1) := by decide +kernel
theorem dlw_837 : decode code 837 = .ok (.aload_n 0, 1) := by decide +kernel
theorem dlw_838 : decode code 838 = .ok (.iload 4, 2) := by decide +kernel
theorem dlw_840 : decode code 840 = .ok (.iconst 3, 1) := by decide +kernel
theorem dlw_841 : decode code 841 = .ok (.iadd, 1) := by decide +kernel
theorem dlw_842 : decode code 842 = .ok (.iaload, 1) := by decide +kernel
theorem dlw_843 : decode code 843 = .ok (.invokevirtual 170, 3) := by decide +kernel
theorem dlw_846 : decode code 846 = .ok (.istore 6, 2) := by decide +kernel
theorem dlw_848 : decode code 848 = .ok (.goto 151, 3) := by decide +kernel
theorem dlw_851 : decode code 851 = .ok (.aload_n 1, 1) := by decide +kernel
theorem dlw_852 : decode code 852 = .ok (.aload_n 0, 1) := by decide +kernel
theorem dlw_853 : decode code 853 = .ok (.iload 4, 2) := by decide +kernel
theorem dlw_855 : decode code 855 = .ok (.iconst 1, 1) := by decide +kernel
theorem dlw_856 : decode code 856 = .ok (.iadd, 1) := by decide +kernel
theorem dlw_857 : decode code 857 = .ok (.iaload, 1) := by decide +kernel
theorem dlw_858 : decode code 858 = .ok (.aload_n 3, 1) := by decide +kernel
theorem dlw_859 : decode code 859 = .ok (.invokestatic 171, 3) := by decide +kernel
theorem dlw_862 : decode code 862 = .ok (.istore 5, 2) := by decide +kernel
theorem dlw_864 : decode code 864 = .ok (.aload_n 2, 1) := by decide +kernel
theorem dlw_865 : decode code 865 = .ok (.aload_n 0, 1) := by decide +kernel
theorem dlw_866 : decode code 866 = .ok (.iload 4, 2) := by decide +kernel
theorem dlw_868 : decode code 868 = .ok (.iconst 1, 1) := by decide +kernel
theorem dlw_869 : decode code 869 = .ok (.iadd, 1) := by decide +kernel
theorem dlw_870 : decode code 870 = .ok (.iaload, 1) := by decide +kernel
theorem dlw_871 : decode code 871 = .ok (.invokevirtual 173, 3) := by decide +kernel
theorem dlw_874 : decode code 874 = .ok (.istore 6, 2) := by decide +kernel
theorem dlw_876 : decode code 876 = .ok (.goto 123, 3) := by decide +kernel
theorem dlw_879 : decode code 879 = .ok (.aload_n 1, 1) := by decide +kernel
theorem dlw_880 : decode code 880 = .ok (.aload_n 0, 1) := by decide +kernel
theorem dlw_881 : decode code 881 = .ok (.iload 4, 2) := by decide +kernel
theorem dlw_883 : decode code 883 = .ok (.iconst 1, 1) := by decide +kernel
theorem dlw_884 : decode code 884 = .ok (.iadd, 1) := by decide +kernel
theorem dlw_885 : decode code 885 = .ok (.iaload, 1) := by decide +kernel
theorem dlw_886 : decode code 886 = .ok (.aload_n 3, 1) := by decide +kernel
theorem dlw_887 : decode code 887 = .ok (.invokestatic 174, 3) := by decide +kernel
theorem dlw_890 : decode code 890 = .ok (.istore 5, 2) := by decide +kernel
theorem dlw_892 : decode code 892 = .ok (.aload_n 2, 1) := by decide +kernel
theorem dlw_893 : decode code 893 = .ok (.aload_n 0, 1) := by decide +kernel
theorem dlw_894 : decode code 894 = .ok (.iload 4, 2) := by decide +kernel
theorem dlw_896 : decode code 896 = .ok (.iconst 1, 1) := by decide +kernel
theorem dlw_897 : decode code 897 = .ok (.iadd, 1) := by decide +kernel
theorem dlw_898 : decode code 898 = .ok (.iaload, 1) := by decide +kernel
theorem dlw_899 : decode code 899 = .ok (.invokevirtual 176, 3) := by decide +kernel
theorem dlw_902 : decode code 902 = .ok (.lstore 6, 2) := by decide +kernel
theorem dlw_904 : decode code 904 = .ok (.goto 95, 3) := by decide +kernel
theorem dlw_907 : decode code 907 = .ok (.aload_n 1, 1) := by decide +kernel
theorem dlw_908 : decode code 908 = .ok (.aload_n 0, 1) := by decide +kernel
theorem dlw_909 : decode code 909 = .ok (.iload 4, 2) := by decide +kernel
theorem dlw_911 : decode code 911 = .ok (.iconst 1, 1) := by decide +kernel
theorem dlw_912 : decode code 912 = .ok (.iadd, 1) := by decide +kernel
theorem dlw_913 : decode code 913 = .ok (.iaload, 1) := by decide +kernel
theorem dlw_914 : decode code 914 = .ok (.aload_n 0, 1) := by decide +kernel
theorem dlw_915 : decode code 915 = .ok (.iload 4, 2) := by decide +kernel
theorem dlw_917 : decode code 917 = .ok (.iconst 2, 1) := by decide +kernel
theorem dlw_918 : decode code 918 = .ok (.iadd, 1) := by decide +kernel
theorem dlw_919 : decode code 919 = .ok (.iaload, 1) := by decide +kernel
theorem dlw_920 : decode code 920 = .ok (.aload_n 3, 1) := by decide +kernel
theorem dlw_921 : decode code 921 = .ok (.invokestatic 177, 3) := by decide +kernel
theorem dlw_924 : decode code 924 = .ok (.istore 5, 2) := by decide +kernel
theorem dlw_926 : decode code 926 = .ok (.aload_n 2, 1) := by decide +kernel
theorem dlw_927 : decode code 927 = .ok (.aload_n 0, 1) := by decide +kernel
theorem dlw_928 : decode code 928 = .ok (.iload 4, 2) := by decide +kernel
theorem dlw_930 : decode code 930 = .ok (.iconst 1, 1) := by decide +kernel
theorem dlw_931 : decode code 931 = .ok (.iadd, 1) := by decide +kernel
theorem dlw_932 : decode code 932 = .ok (.iaload, 1) := by decide +kernel
theorem dlw_933 : decode code 933 = .ok (.aload_n 0, 1) := by decide +kernel
theorem dlw_934 : decode code 934 = .ok (.iload 4, 2) := by decide +kernel
theorem dlw_936 : decode code 936 = .ok (.iconst 2, 1) := by decide +kernel
theorem dlw_937 : decode code 937 = .ok (.iadd, 1) := by decide +kernel
theorem dlw_938 : decode code 938 = .ok (.iaload, 1) := by decide +kernel
theorem dlw_939 : decode code 939 = .ok (.invokevirtual 179, 3) := by decide +kernel
theorem dlw_942 : decode code 942 = .ok (.istore 6, 2) := by decide +kernel
theorem dlw_944 : decode code 944 = .ok (.goto 55, 3) := by decide +kernel
theorem dlw_947 : decode code 947 = .ok (.aload_n 1, 1) := by decide +kernel
theorem dlw_948 : decode code 948 = .ok (.aload_n 0, 1) := by decide +kernel
theorem dlw_949 : decode code 949 = .ok (.iload 4, 2) := by decide +kernel
theorem dlw_951 : decode code 951 = .ok (.iconst 1, 1) := by decide +kernel
theorem dlw_952 : decode code 952 = .ok (.iadd, 1) := by decide +kernel
theorem dlw_953 : decode code 953 = .ok (.iaload, 1) := by decide +kernel
theorem dlw_954 : decode code 954 = .ok (.aload_n 0, 1) := by decide +kernel
theorem dlw_955 : decode code 955 = .ok (.iload 4, 2) := by decide +kernel
theorem dlw_957 : decode code 957 = .ok (.iconst 2, 1) := by decide +kernel
theorem dlw_958 : decode code 958 = .ok (.iadd, 1) := by decide +kernel
theorem dlw_959 : decode code 959 = .ok (.iaload, 1) := by decide +kernel
theorem dlw_960 : decode code 960 = .ok (.aload_n 0, 1) := by decide +kernel
theorem dlw_961 : decode code 961 = .ok (.iload 4, 2) := by decide +kernel
theorem dlw_963 : decode code 963 = .ok (.iconst 3, 1) := by decide +kernel
theorem dlw_964 : decode code 964 = .ok (.iadd, 1) := by decide +kernel
theorem dlw_965 : decode code 965 = .ok (.iaload, 1) := by decide +kernel
theorem dlw_966 : decode code 966 = .ok (.aload_n 3, 1) := by decide +kernel
theorem dlw_967 : decode code 967 = .ok (.invokestatic 180, 3) := by decide +kernel
theorem dlw_970 : decode code 970 = .ok (.istore 5, 2) := by decide +kernel
theorem dlw_972 : decode code 972 = .ok (.aload_n 2, 1) := by decide +kernel
theorem dlw_973 : decode code 973 = .ok (.aload_n 0, 1) := by decide +kernel
theorem dlw_974 : decode code 974 = .ok (.iload 4, 2) := by decide +kernel
theorem dlw_976 : decode code 976 = .ok (.iconst 1, 1) := by decide +kernel
theorem dlw_977 : decode code 977 = .ok (.iadd, 1) := by decide +kernel
theorem dlw_978 : decode code 978 = .ok (.iaload, 1) := by decide +kernel
theorem dlw_979 : decode code 979 = .ok (.aload_n 0, 1) := by decide +kernel
theorem dlw_980 : decode code 980 = .ok (.iload 4, 2) := by decide +kernel
theorem dlw_982 : decode code 982 = .ok (.iconst 2, 1) := by decide +kernel
theorem dlw_983 : decode code 983 = .ok (.iadd, 1) := by decide +kernel
theorem dlw_984 : decode code 984 = .ok (.iaload, 1) := by decide +kernel
theorem dlw_985 : decode code 985 = .ok (.aload_n 0, 1) := by decide +kernel
theorem dlw_986 : decode code 986 = .ok (.iload 4, 2) := by decide +kernel
theorem dlw_988 : decode code 988 = .ok (.iconst 3, 1) := by decide +kernel
theorem dlw_989 : decode code 989 = .ok (.iadd, 1) := by decide +kernel
theorem dlw_990 : decode code 990 = .ok (.iaload, 1) := by decide +kernel
theorem dlw_991 : decode code 991 = .ok (.invokevirtual 182, 3) := by decide +kernel
theorem dlw_994 : decode code 994 = .ok (.istore 6, 2) := by decide +kernel
theorem dlw_996 : decode code 996 = .ok (.goto 3, 3) := by decide +kernel
theorem dlw_999 : decode code 999 = .ok (.iinc 4 6, 3) := by decide +kernel
theorem dlw_1002 : decode code 1002 = .ok (.goto (-979), 3) := by decide +kernel
theorem dlw_1005 : decode code 1005 = .ok (.iconst 1, 1) := by decide +kernel
theorem dlw_1006 : decode code 1006 = .ok (.ireturn, 1) := by decide +kernel
