set_option maxHeartbeats 1600000
/-! the law's body: its instructions -/
theorem dlw_0 : decode code 0 = .ok (.new 8, 3) := by decide +kernel
theorem dlw_3 : decode code 3 = .ok (.dup, 1) := by decide +kernel
theorem dlw_4 : decode code 4 = .ok (.invokespecial 90, 3) := by decide +kernel
theorem dlw_7 : decode code 7 = .ok (.astore_n 1, 1) := by decide +kernel
theorem dlw_8 : decode code 8 = .ok (.new 91, 3) := by decide +kernel
theorem dlw_11 : decode code 11 = .ok (.dup, 1) := by decide +kernel
theorem dlw_12 : decode code 12 = .ok (.invokespecial 93, 3) := by decide +kernel
theorem dlw_15 : decode code 15 = .ok (.astore_n 2, 1) := by decide +kernel
theorem dlw_16 : decode code 16 = .ok (.iconst 1, 1) := by decide +kernel
theorem dlw_17 : decode code 17 = .ok (.newarray .long, 2) := by decide +kernel
theorem dlw_19 : decode code 19 = .ok (.astore_n 3, 1) := by decide +kernel
theorem dlw_20 : decode code 20 = .ok (.iconst 0, 1) := by decide +kernel
theorem dlw_21 : decode code 21 = .ok (.istore 4, 2) := by decide +kernel
theorem dlw_23 : decode code 23 = .ok (.iload 4, 2) := by decide +kernel
theorem dlw_25 : decode code 25 = .ok (.aload_n 0, 1) := by decide +kernel
theorem dlw_26 : decode code 26 = .ok (.arraylength, 1) := by decide +kernel
theorem dlw_27 : decode code 27 = .ok (.bipush 6, 2) := by decide +kernel
theorem dlw_29 : decode code 29 = .ok (.isub, 1) := by decide +kernel
theorem dlw_30 : decode code 30 = .ok (.if_icmp .gt 999, 3) := by decide +kernel
theorem dlw_33 : decode code 33 = .ok (.aload_n 0, 1) := by decide +kernel
theorem dlw_34 : decode code 34 = .ok (.iload 4, 2) := by decide +kernel
theorem dlw_36 : decode code 36 = .ok (.iaload, 1) := by decide +kernel
theorem dlw_37 : decode code 37 = .ok (.bipush 31, 2) := by decide +kernel
theorem dlw_39 : decode code 39 = .ok (.iand, 1) := by decide +kernel
theorem dlw_40 : decode code 40 = .ok (.tableswitch 983 0 23 #[112, 188, 213, 226, 239, 267, 295, 335, 387, 439, 479, 519, 547, 563, 579, 619, 647, 687, 715, 728, 800, 828, 856, 896], 112) := by decide +kernel
theorem dlw_152 : decode code 152 = .ok (.aload_n 1, 1) := by decide +kernel
theorem dlw_153 : decode code 153 = .ok (.aload_n 0, 1) := by decide +kernel
theorem dlw_154 : decode code 154 = .ok (.iload 4, 2) := by decide +kernel
theorem dlw_156 : decode code 156 = .ok (.iconst 1, 1) := by decide +kernel
theorem dlw_157 : decode code 157 = .ok (.iadd, 1) := by decide +kernel
theorem dlw_158 : decode code 158 = .ok (.iaload, 1) := by decide +kernel
theorem dlw_159 : decode code 159 = .ok (.aload_n 0, 1) := by decide +kernel
theorem dlw_160 : decode code 160 = .ok (.iload 4, 2) := by decide +kernel
theorem dlw_162 : decode code 162 = .ok (.iconst 2, 1) := by decide +kernel
theorem dlw_163 : decode code 163 = .ok (.iadd, 1) := by decide +kernel
theorem dlw_164 : decode code 164 = .ok (.iaload, 1) := by decide +kernel
theorem dlw_165 : decode code 165 = .ok (.aload_n 0, 1) := by decide +kernel
theorem dlw_166 : decode code 166 = .ok (.iload 4, 2) := by decide +kernel
theorem dlw_168 : decode code 168 = .ok (.iconst 3, 1) := by decide +kernel
theorem dlw_169 : decode code 169 = .ok (.iadd, 1) := by decide +kernel
theorem dlw_170 : decode code 170 = .ok (.iaload, 1) := by decide +kernel
theorem dlw_171 : decode code 171 = .ok (.aload_n 0, 1) := by decide +kernel
theorem dlw_172 : decode code 172 = .ok (.iload 4, 2) := by decide +kernel
theorem dlw_174 : decode code 174 = .ok (.iconst 4, 1) := by decide +kernel
theorem dlw_175 : decode code 175 = .ok (.iadd, 1) := by decide +kernel
theorem dlw_176 : decode code 176 = .ok (.iaload, 1) := by decide +kernel
theorem dlw_177 : decode code 177 = .ok (.aload_n 0, 1) := by decide +kernel
theorem dlw_178 : decode code 178 = .ok (.iload 4, 2) := by decide +kernel
theorem dlw_180 : decode code 180 = .ok (.iconst 5, 1) := by decide +kernel
theorem dlw_181 : decode code 181 = .ok (.iadd, 1) := by decide +kernel
theorem dlw_182 : decode code 182 = .ok (.iaload, 1) := by decide +kernel
theorem dlw_183 : decode code 183 = .ok (.aload_n 3, 1) := by decide +kernel
theorem dlw_184 : decode code 184 = .ok (.invokestatic 94, 3) := by decide +kernel
theorem dlw_187 : decode code 187 = .ok (.istore 5, 2) := by decide +kernel
theorem dlw_189 : decode code 189 = .ok (.aload_n 2, 1) := by decide +kernel
theorem dlw_190 : decode code 190 = .ok (.aload_n 0, 1) := by decide +kernel
theorem dlw_191 : decode code 191 = .ok (.iload 4, 2) := by decide +kernel
theorem dlw_193 : decode code 193 = .ok (.iconst 1, 1) := by decide +kernel
theorem dlw_194 : decode code 194 = .ok (.iadd, 1) := by decide +kernel
theorem dlw_195 : decode code 195 = .ok (.iaload, 1) := by decide +kernel
theorem dlw_196 : decode code 196 = .ok (.aload_n 0, 1) := by decide +kernel
theorem dlw_197 : decode code 197 = .ok (.iload 4, 2) := by decide +kernel
theorem dlw_199 : decode code 199 = .ok (.iconst 2, 1) := by decide +kernel
theorem dlw_200 : decode code 200 = .ok (.iadd, 1) := by decide +kernel
theorem dlw_201 : decode code 201 = .ok (.iaload, 1) := by decide +kernel
theorem dlw_202 : decode code 202 = .ok (.aload_n 0, 1) := by decide +kernel
theorem dlw_203 : decode code 203 = .ok (.iload 4, 2) := by decide +kernel
theorem dlw_205 : decode code 205 = .ok (.iconst 3, 1) := by decide +kernel
theorem dlw_206 : decode code 206 = .ok (.iadd, 1) := by decide +kernel
theorem dlw_207 : decode code 207 = .ok (.iaload, 1) := by decide +kernel
theorem dlw_208 : decode code 208 = .ok (.aload_n 0, 1) := by decide +kernel
theorem dlw_209 : decode code 209 = .ok (.iload 4, 2) := by decide +kernel
theorem dlw_211 : decode code 211 = .ok (.iconst 4, 1) := by decide +kernel
theorem dlw_212 : decode code 212 = .ok (.iadd, 1) := by decide +kernel
theorem dlw_213 : decode code 213 = .ok (.iaload, 1) := by decide +kernel
theorem dlw_214 : decode code 214 = .ok (.aload_n 0, 1) := by decide +kernel
theorem dlw_215 : decode code 215 = .ok (.iload 4, 2) := by decide +kernel
theorem dlw_217 : decode code 217 = .ok (.iconst 5, 1) := by decide +kernel
theorem dlw_218 : decode code 218 = .ok (.iadd, 1) := by decide +kernel
theorem dlw_219 : decode code 219 = .ok (.iaload, 1) := by decide +kernel
theorem dlw_220 : decode code 220 = .ok (.invokevirtual 99, 3) := by decide +kernel
theorem dlw_223 : decode code 223 = .ok (.istore 6, 2) := by decide +kernel
theorem dlw_225 : decode code 225 = .ok (.goto 798, 3) := by decide +kernel
theorem dlw_228 : decode code 228 = .ok (.aload_n 1, 1) := by decide +kernel
theorem dlw_229 : decode code 229 = .ok (.aload_n 0, 1) := by decide +kernel
theorem dlw_230 : decode code 230 = .ok (.iload 4, 2) := by decide +kernel
theorem dlw_232 : decode code 232 = .ok (.iconst 1, 1) := by decide +kernel
theorem dlw_233 : decode code 233 = .ok (.iadd, 1) := by decide +kernel
theorem dlw_234 : decode code 234 = .ok (.iaload, 1) := by decide +kernel
theorem dlw_235 : decode code 235 = .ok (.invokestatic 100, 3) := by decide +kernel
theorem dlw_238 : decode code 238 = .ok (.istore 5, 2) := by decide +kernel
theorem dlw_240 : decode code 240 = .ok (.aload_n 2, 1) := by decide +kernel
theorem dlw_241 : decode code 241 = .ok (.aload_n 0, 1) := by decide +kernel
theorem dlw_242 : decode code 242 = .ok (.iload 4, 2) := by decide +kernel
theorem dlw_244 : decode code 244 = .ok (.iconst 1, 1) := by decide +kernel
theorem dlw_245 : decode code 245 = .ok (.iadd, 1) := by decide +kernel
theorem dlw_246 : decode code 246 = .ok (.iaload, 1) := by decide +kernel
theorem dlw_247 : decode code 247 = .ok (.invokevirtual 103, 3) := by decide +kernel
theorem dlw_250 : decode code 250 = .ok (.goto 773, 3) := by decide +kernel
theorem dlw_253 : decode code 253 = .ok (.aload_n 1, 1) := by decide +kernel
theorem dlw_254 : decode code 254 = .ok (.invokevirtual 104, 3) := by decide +kernel
theorem dlw_257 : decode code 257 = .ok (.pop, 1) := by decide +kernel
theorem dlw_258 : decode code 258 = .ok (.aload_n 2, 1) := by decide +kernel
theorem dlw_259 : decode code 259 = .ok (.invokevirtual 107, 3) := by decide +kernel
theorem dlw_262 : decode code 262 = .ok (.pop, 1) := by decide +kernel
theorem dlw_263 : decode code 263 = .ok (.goto 760, 3) := by decide +kernel
theorem dlw_266 : decode code 266 = .ok (.aload_n 1, 1) := by decide +kernel
theorem dlw_267 : decode code 267 = .ok (.invokevirtual 108, 3) := by decide +kernel
theorem dlw_270 : decode code 270 = .ok (.pop, 1) := by decide +kernel
theorem dlw_271 : decode code 271 = .ok (.aload_n 2, 1) := by decide +kernel
theorem dlw_272 : decode code 272 = .ok (.invokevirtual 111, 3) := by decide +kernel
theorem dlw_275 : decode code 275 = .ok (.pop, 1) := by decide +kernel
theorem dlw_276 : decode code 276 = .ok (.goto 747, 3) := by decide +kernel
theorem dlw_279 : decode code 279 = .ok (.aload_n 1, 1) := by decide +kernel
theorem dlw_280 : decode code 280 = .ok (.aload_n 0, 1) := by decide +kernel
theorem dlw_281 : decode code 281 = .ok (.iload 4, 2) := by decide +kernel
theorem dlw_283 : decode code 283 = .ok (.iconst 1, 1) := by decide +kernel
theorem dlw_284 : decode code 284 = .ok (.iadd, 1) := by decide +kernel
theorem dlw_285 : decode code 285 = .ok (.iaload, 1) := by decide +kernel
theorem dlw_286 : decode code 286 = .ok (.aload_n 3, 1) := by decide +kernel
theorem dlw_287 : decode code 287 = .ok (.invokestatic 112, 3) := by decide +kernel
theorem dlw_290 : decode code 290 = .ok (.istore 5, 2) := by decide +kernel
theorem dlw_292 : decode code 292 = .ok (.aload_n 2, 1) := by decide +kernel
theorem dlw_293 : decode code 293 = .ok (.aload_n 0, 1) := by decide +kernel
theorem dlw_294 : decode code 294 = .ok (.iload 4, 2) := by decide +kernel
theorem dlw_296 : decode code 296 = .ok (.iconst 1, 1) := by decide +kernel
theorem dlw_297 : decode code 297 = .ok (.iadd, 1) := by decide +kernel
theorem dlw_298 : decode code 298 = .ok (.iaload, 1) := by decide +kernel
theorem dlw_299 : decode code 299 = .ok (.invokevirtual 115, 3) := by decide +kernel
theorem dlw_302 : decode code 302 = .ok (.istore 6, 2) := by decide +kernel
theorem dlw_304 : decode code 304 = .ok (.goto 719, 3) := by decide +kernel
theorem dlw_307 : decode code 307 = .ok (.aload_n 1, 1) := by decide +kernel
theorem dlw_308 : decode code 308 = .ok (.aload_n 0, 1) := by decide +kernel
theorem dlw_309 : decode code 309 = .ok (.iload 4, 2) := by decide +kernel
theorem dlw_311 : decode code 311 = .ok (.iconst 1, 1) := by decide +kernel
theorem dlw_312 : decode code 312 = .ok (.iadd, 1) := by decide +kernel
theorem dlw_313 : decode code 313 = .ok (.iaload, 1) := by decide +kernel
theorem dlw_314 : decode code 314 = .ok (.aload_n 3, 1) := by decide +kernel
theorem dlw_315 : decode code 315 = .ok (.invokestatic 116, 3) := by decide +kernel
theorem dlw_318 : decode code 318 = .ok (.istore 5, 2) := by decide +kernel
theorem dlw_320 : decode code 320 = .ok (.aload_n 2, 1) := by decide +kernel
theorem dlw_321 : decode code 321 = .ok (.aload_n 0, 1) := by decide +kernel
theorem dlw_322 : decode code 322 = .ok (.iload 4, 2) := by decide +kernel
theorem dlw_324 : decode code 324 = .ok (.iconst 1, 1) := by decide +kernel
theorem dlw_325 : decode code 325 = .ok (.iadd, 1) := by decide +kernel
theorem dlw_326 : decode code 326 = .ok (.iaload, 1) := by decide +kernel
theorem dlw_327 : decode code 327 = .ok (.invokevirtual 118, 3) := by decide +kernel
theorem dlw_330 : decode code 330 = .ok (.istore 6, 2) := by decide +kernel
theorem dlw_332 : decode code 332 = .ok (.goto 691, 3) := by decide +kernel
theorem dlw_335 : decode code 335 = .ok (.aload_n 1, 1) := by decide +kernel
theorem dlw_336 : decode code 336 = .ok (.aload_n 0, 1) := by decide +kernel
theorem dlw_337 : decode code 337 = .ok (.iload 4, 2) := by decide +kernel
theorem dlw_339 : decode code 339 = .ok (.iconst 1, 1) := by decide +kernel
theorem dlw_340 : decode code 340 = .ok (.iadd, 1) := by decide +kernel
theorem dlw_341 : decode code 341 = .ok (.iaload, 1) := by decide +kernel
theorem dlw_342 : decode code 342 = .ok (.aload_n 0, 1) := by decide +kernel
theorem dlw_343 : decode code 343 = .ok (.iload 4, 2) := by decide +kernel
theorem dlw_345 : decode code 345 = .ok (.iconst 2, 1) := by decide +kernel
theorem dlw_346 : decode code 346 = .ok (.iadd, 1) := by decide +kernel
theorem dlw_347 : decode code 347 = .ok (.iaload, 1) := by decide +kernel
theorem dlw_348 : decode code 348 = .ok (.aload_n 3, 1) := by decide +kernel
theorem dlw_349 : decode code 349 = .ok (.invokestatic 119, 3) := by decide +kernel
theorem dlw_352 : decode code 352 = .ok (.istore 5, 2) := by decide +kernel
theorem dlw_354 : decode code 354 = .ok (.aload_n 2, 1) := by decide +kernel
theorem dlw_355 : decode code 355 = .ok (.aload_n 0, 1) := by decide +kernel
theorem dlw_356 : decode code 356 = .ok (.iload 4, 2) := by decide +kernel
theorem dlw_358 : decode code 358 = .ok (.iconst 1, 1) := by decide +kernel
theorem dlw_359 : decode code 359 = .ok (.iadd, 1) := by decide +kernel
theorem dlw_360 : decode code 360 = .ok (.iaload, 1) := by decide +kernel
theorem dlw_361 : decode code 361 = .ok (.aload_n 0, 1) := by decide +kernel
theorem dlw_362 : decode code 362 = .ok (.iload 4, 2) := by decide +kernel
theorem dlw_364 : decode code 364 = .ok (.iconst 2, 1) := by decide +kernel
theorem dlw_365 : decode code 365 = .ok (.iadd, 1) := by decide +kernel
theorem dlw_366 : decode code 366 = .ok (.iaload, 1) := by decide +kernel
theorem dlw_367 : decode code 367 = .ok (.invokevirtual 122, 3) := by decide +kernel
theorem dlw_370 : decode code 370 = .ok (.istore 6, 2) := by decide +kernel
theorem dlw_372 : decode code 372 = .ok (.goto 651, 3) := by decide +kernel
theorem dlw_375 : decode code 375 = .ok (.aload_n 1, 1) := by decide +kernel
theorem dlw_376 : decode code 376 = .ok (.aload_n 0, 1) := by decide +kernel
theorem dlw_377 : decode code 377 = .ok (.iload 4, 2) := by decide +kernel
theorem dlw_379 : decode code 379 = .ok (.iconst 1, 1) := by decide +kernel
theorem dlw_380 : decode code 380 = .ok (.iadd, 1) := by decide +kernel
theorem dlw_381 : decode code 381 = .ok (.iaload, 1) := by decide +kernel
theorem dlw_382 : decode code 382 = .ok (.aload_n 0, 1) := by decide +kernel
theorem dlw_383 : decode code 383 = .ok (.iload 4, 2) := by decide +kernel
theorem dlw_385 : decode code 385 = .ok (.iconst 2, 1) := by decide +kernel
theorem dlw_386 : decode code 386 = .ok (.iadd, 1) := by decide +kernel
theorem dlw_387 : decode code 387 = .ok (.iaload, 1) := by decide +kernel
theorem dlw_388 : decode code 388 = .ok (.aload_n 0, 1) := by decide +kernel
theorem dlw_389 : decode code 389 = .ok (.iload 4, 2) := by decide +kernel
theorem dlw_391 : decode code 391 = .ok (.iconst 3, 1) := by decide +kernel
theorem dlw_392 : decode code 392 = .ok (.iadd, 1) := by decide +kernel
theorem dlw_393 : decode code 393 = .ok (.iaload, 1) := by decide +kernel
theorem dlw_394 : decode code 394 = .ok (.aload_n 3, 1) := by decide +kernel
theorem dlw_395 : decode code 395 = .ok (.invokestatic 123, 3) := by decide +kernel
theorem dlw_398 : decode code 398 = .ok (.istore 5, 2) := by decide +kernel
theorem dlw_400 : decode code 400 = .ok (.aload_n 2, 1) := by decide +kernel
theorem dlw_401 : decode code 401 = .ok (.aload_n 0, 1) := by decide +kernel
theorem dlw_402 : decode code 402 = .ok (.iload 4, 2) := by decide +kernel
theorem dlw_404 : decode code 404 = .ok (.iconst 1, 1) := by decide +kernel
theorem dlw_405 : decode code 405 = .ok (.iadd, 1) := by decide +kernel
theorem dlw_406 : decode code 406 = .ok (.iaload, 1) := by decide +kernel
theorem dlw_407 : decode code 407 = .ok (.aload_n 0, 1) := by decide +kernel
theorem dlw_408 : decode code 408 = .ok (.iload 4, 2) := by decide +kernel
theorem dlw_410 : decode code 410 = .ok (.iconst 2, 1) := by decide +kernel
theorem dlw_411 : decode code 411 = .ok (.iadd, 1) := by decide +kernel
theorem dlw_412 : decode code 412 = .ok (.iaload, 1) := by decide +kernel
theorem dlw_413 : decode code 413 = .ok (.aload_n 0, 1) := by decide +kernel
theorem dlw_414 : decode code 414 = .ok (.iload 4, 2) := by decide +kernel
theorem dlw_416 : decode code 416 = .ok (.iconst 3, 1) := by decide +kernel
theorem dlw_417 : decode code 417 = .ok (.iadd, 1) := by decide +kernel
theorem dlw_418 : decode code 418 = .ok (.iaload, 1) := by decide +kernel
theorem dlw_419 : decode code 419 = .ok (.invokevirtual 126, 3) := by decide +kernel
theorem dlw_422 : decode code 422 = .ok (.istore 6, 2) := by decide +kernel
theorem dlw_424 : decode code 424 = .ok (.goto 599, 3) := by decide +kernel
theorem dlw_427 : decode code 427 = .ok (.aload_n 1, 1) := by decide +kernel
theorem dlw_428 : decode code 428 = .ok (.aload_n 0, 1) := by decide +kernel
theorem dlw_429 : decode code 429 = .ok (.iload 4, 2) := by decide +kernel
theorem dlw_431 : decode code 431 = .ok (.iconst 1, 1) := by decide +kernel
theorem dlw_432 : decode code 432 = .ok (.iadd, 1) := by decide +kernel
theorem dlw_433 : decode code 433 = .ok (.iaload, 1) := by decide +kernel
theorem dlw_434 : decode code 434 = .ok (.aload_n 0, 1) := by decide +kernel
theorem dlw_435 : decode code 435 = .ok (.iload 4, 2) := by decide +kernel
theorem dlw_437 : decode code 437 = .ok (.iconst 2, 1) := by decide +kernel
theorem dlw_438 : decode code 438 = .ok (.iadd, 1) := by decide +kernel
theorem dlw_439 : decode code 439 = .ok (.iaload, 1) := by decide +kernel
theorem dlw_440 : decode code 440 = .ok (.aload_n 0, 1) := by decide +kernel
theorem dlw_441 : decode code 441 = .ok (.iload 4, 2) := by decide +kernel
theorem dlw_443 : decode code 443 = .ok (.iconst 3, 1) := by decide +kernel
theorem dlw_444 : decode code 444 = .ok (.iadd, 1) := by decide +kernel
theorem dlw_445 : decode code 445 = .ok (.iaload, 1) := by decide +kernel
theorem dlw_446 : decode code 446 = .ok (.aload_n 3, 1) := by decide +kernel
theorem dlw_447 : decode code 447 = .ok (.invokestatic 127, 3) := by decide +kernel
theorem dlw_450 : decode code 450 = .ok (.istore 5, 2) := by decide +kernel
theorem dlw_452 : decode code 452 = .ok (.aload_n 2, 1) := by decide +kernel
theorem dlw_453 : decode code 453 = .ok (.aload_n 0, 1) := by decide +kernel
theorem dlw_454 : decode code 454 = .ok (.iload 4, 2) := by decide +kernel
theorem dlw_456 : decode code 456 = .ok (.iconst 1, 1) := by decide +kernel
theorem dlw_457 : decode code 457 = .ok (.iadd, 1) := by decide +kernel
theorem dlw_458 : decode code 458 = .ok (.iaload, 1) := by decide +kernel
theorem dlw_459 : decode code 459 = .ok (.aload_n 0, 1) := by decide +kernel
theorem dlw_460 : decode code 460 = .ok (.iload 4, 2) := by decide +kernel
theorem dlw_462 : decode code 462 = .ok (.iconst 2, 1) := by decide +kernel
theorem dlw_463 : decode code 463 = .ok (.iadd, 1) := by decide +kernel
theorem dlw_464 : decode code 464 = .ok (.iaload, 1) := by decide +kernel
theorem dlw_465 : decode code 465 = .ok (.aload_n 0, 1) := by decide +kernel
theorem dlw_466 : decode code 466 = .ok (.iload 4, 2) := by decide +kernel
theorem dlw_468 : decode code 468 = .ok (.iconst 3, 1) := by decide +kernel
theorem dlw_469 : decode code 469 = .ok (.iadd, 1) := by decide +kernel
theorem dlw_470 : decode code 470 = .ok (.iaload, 1) := by decide +kernel
theorem dlw_471 : decode code 471 = .ok (.invokevirtual 129, 3) := by decide +kernel
theorem dlw_474 : decode code 474 = .ok (.istore 6, 2) := by decide +kernel
theorem dlw_476 : decode code 476 = .ok (.goto 547, 3) := by decide +kernel
theorem dlw_479 : decode code 479 = .ok (.aload_n 1, 1) := by decide +kernel
theorem dlw_480 : decode code 480 = .ok (.aload_n 0, 1) := by decide +kernel
theorem dlw_481 : decode code 481 = .ok (.iload 4, 2) := by decide +kernel
theorem dlw_483 : decode code 483 = .ok (.iconst 1, 1) := by decide +kernel
theorem dlw_484 : decode code 484 = .ok (.iadd, 1) := by decide +kernel
theorem dlw_485 : decode code 485 = .ok (.iaload, 1) := by decide +kernel
theorem dlw_486 : decode code 486 = .ok (.aload_n 0, 1) := by decide +kernel
theorem dlw_487 : decode code 487 = .ok (.iload 4, 2) := by decide +kernel
theorem dlw_489 : decode code 489 = .ok (.iconst 2, 1) := by decide +kernel
theorem dlw_490 : decode code 490 = .ok (.iadd, 1) := by decide +kernel
theorem dlw_491 : decode code 491 = .ok (.iaload, 1) := by decide +kernel
theorem dlw_492 : decode code 492 = .ok (.aload_n 3, 1) := by decide +kernel
theorem dlw_493 : decode code 493 = .ok (.invokestatic 130, 3) := by decide +kernel
theorem dlw_496 : decode code 496 = .ok (.istore 5, 2) := by decide +kernel
theorem dlw_498 : decode code 498 = .ok (.aload_n 2, 1) := by decide +kernel
theorem dlw_499 : decode code 499 = .ok (.aload_n 0, 1) := by decide +kernel
theorem dlw_500 : decode code 500 = .ok (.iload 4, 2) := by decide +kernel
theorem dlw_502 : decode code 502 = .ok (.iconst 1, 1) := by decide +kernel
theorem dlw_503 : decode code 503 = .ok (.iadd, 1) := by decide +kernel
theorem dlw_504 : decode code 504 = .ok (.iaload, 1) := by decide +kernel
theorem dlw_505 : decode code 505 = .ok (.aload_n 0, 1) := by decide +kernel
theorem dlw_506 : decode code 506 = .ok (.iload 4, 2) := by decide +kernel
theorem dlw_508 : decode code 508 = .ok (.iconst 2, 1) := by decide +kernel
theorem dlw_509 : decode code 509 = .ok (.iadd, 1) := by decide +kernel
theorem dlw_510 : decode code 510 = .ok (.iaload, 1) := by decide +kernel
theorem dlw_511 : decode code 511 = .ok (.invokevirtual 132, 3) := by decide +kernel
theorem dlw_514 : decode code 514 = .ok (.istore 6, 2) := by decide +kernel
theorem dlw_516 : decode code 516 = .ok (.goto 507, 3) := by decide +kernel
theorem dlw_519 : decode code 519 = .ok (.aload_n 1, 1) := by decide +kernel
theorem dlw_520 : decode code 520 = .ok (.aload_n 0, 1) := by decide +kernel
theorem dlw_521 : decode code 521 = .ok (.iload 4, 2) := by decide +kernel
theorem dlw_523 : decode code 523 = .ok (.iconst 1, 1) := by decide +kernel
theorem dlw_524 : decode code 524 = .ok (.iadd, 1) := by decide +kernel
theorem dlw_525 : decode code 525 = .ok (.iaload, 1) := by decide +kernel
theorem dlw_526 : decode code 526 = .ok (.aload_n 0, 1) := by decide +kernel
theorem dlw_527 : decode code 527 = .ok (.iload 4, 2) := by decide +kernel
theorem dlw_529 : decode code 529 = .ok (.iconst 2, 1) := by decide +kernel
theorem dlw_530 : decode code 530 = .ok (.iadd, 1) := by decide +kernel
theorem dlw_531 : decode code 531 = .ok (.iaload, 1) := by decide +kernel
theorem dlw_532 : decode code 532 = .ok (.aload_n 3, 1) := by decide +kernel
theorem dlw_533 : decode code 533 = .ok (.invokestatic 133, 3) := by decide +kernel
theorem dlw_536 : decode code 536 = .ok (.istore 5, 2) := by decide +kernel
theorem dlw_538 : decode code 538 = .ok (.aload_n 2, 1) := by decide +kernel
theorem dlw_539 : decode code 539 = .ok (.aload_n 0, 1) := by decide +kernel
theorem dlw_540 : decode code 540 = .ok (.iload 4, 2) := by decide +kernel
theorem dlw_542 : decode code 542 = .ok (.iconst 1, 1) := by decide +kernel
theorem dlw_543 : decode code 543 = .ok (.iadd, 1) := by decide +kernel
theorem dlw_544 : decode code 544 = .ok (.iaload, 1) := by decide +kernel
theorem dlw_545 : decode code 545 = .ok (.aload_n 0, 1) := by decide +kernel
theorem dlw_546 : decode code 546 = .ok (.iload 4, 2) := by decide +kernel
theorem dlw_548 : decode code 548 = .ok (.iconst 2, 1) := by decide +kernel
theorem dlw_549 : decode code 549 = .ok (.iadd, 1) := by decide +kernel
theorem dlw_550 : decode code 550 = .ok (.iaload, 1) := by decide +kernel
theorem dlw_551 : decode code 551 = .ok (.invokevirtual 135, 3) := by decide +kernel
theorem dlw_554 : decode code 554 = .ok (.istore 6, 2) := by decide +kernel
theorem dlw_556 : decode code 556 = .ok (.goto 467, 3) := by decide +kernel
theorem dlw_559 : decode code 559 = .ok (.aload_n 1, 1) := by decide +kernel
theorem dlw_560 : decode code 560 = .ok (.aload_n 0, 1) := by decide +kernel
theorem dlw_561 : decode code 561 = .ok (.iload 4, 2) := by decide +kernel
theorem dlw_563 : decode code 563 = .ok (.iconst 1, 1) := by decide +kernel
theorem dlw_564 : decode code 564 = .ok (.iadd, 1) := by decide +kernel
theorem dlw_565 : decode code 565 = .ok (.iaload, 1) := by decide +kernel
theorem dlw_566 : decode code 566 = .ok (.aload_n 3, 1) := by decide +kernel
theorem dlw_567 : decode code 567 = .ok (.invokestatic 136, 3) := by decide +kernel
theorem dlw_570 : decode code 570 = .ok (.istore 5, 2) := by decide +kernel
theorem dlw_572 : decode code 572 = .ok (.aload_n 2, 1) := by decide +kernel
theorem dlw_573 : decode code 573 = .ok (.aload_n 0, 1) := by decide +kernel
theorem dlw_574 : decode code 574 = .ok (.iload 4, 2) := by decide +kernel
theorem dlw_576 : decode code 576 = .ok (.iconst 1, 1) := by decide +kernel
theorem dlw_577 : decode code 577 = .ok (.iadd, 1) := by decide +kernel
theorem dlw_578 : decode code 578 = .ok (.iaload, 1) := by decide +kernel
theorem dlw_579 : decode code 579 = .ok (.invokevirtual 138, 3) := by decide +kernel
theorem dlw_582 : decode code 582 = .ok (.istore 6, 2) := by decide +kernel
theorem dlw_584 : decode code 584 = .ok (.goto 439, 3) := by decide +kernel
theorem dlw_587 : decode code 587 = .ok (.aload_n 1, 1) := by decide +kernel
theorem dlw_588 : decode code 588 = .ok (.aload_n 3, 1) := by decide +kernel
theorem dlw_589 : decode code 589 = .ok (.invokestatic 139, 3) := by decide +kernel
theorem dlw_592 : decode code 592 = .ok (.istore 5, 2) := by decide +kernel
theorem dlw_594 : decode code 594 = .ok (.aload_n 2, 1) := by decide +kernel
theorem dlw_595 : decode code 595 = .ok (.invokevirtual 142, 3) := by decide +kernel
theorem dlw_598 : decode code 598 = .ok (.istore 6, 2) := by decide +kernel
theorem dlw_600 : decode code 600 = .ok (.goto 423, 3) := by decide +kernel
theorem dlw_603 : decode code 603 = .ok (.aload_n 1, 1) := by decide +kernel
theorem dlw_604 : decode code 604 = .ok (.aload_n 3, 1) := by decide +kernel
theorem dlw_605 : decode code 605 = .ok (.invokestatic 143, 3) := by decide +kernel
theorem dlw_608 : decode code 608 = .ok (.istore 5, 2) := by decide +kernel
theorem dlw_610 : decode code 610 = .ok (.aload_n 2, 1) := by decide +kernel
theorem dlw_611 : decode code 611 = .ok (.invokevirtual 145, 3) := by decide +kernel
theorem dlw_614 : decode code 614 = .ok (.istore 6, 2) := by decide +kernel
theorem dlw_616 : decode code 616 = .ok (.goto 407, 3) := by decide +kernel
theorem dlw_619 : decode code 619 = .ok (.aload_n 1, 1) := by decide +kernel
theorem dlw_620 : decode code 620 = .ok (.aload_n 0, 1) := by decide +kernel
theorem dlw_621 : decode code 621 = .ok (.iload 4, 2) := by decide +kernel
theorem dlw_623 : decode code 623 = .ok (.iconst 1, 1) := by decide +kernel
theorem dlw_624 : decode code 624 = .ok (.iadd, 1) := by decide +kernel
theorem dlw_625 : decode code 625 = .ok (.iaload, 1) := by decide +kernel
theorem dlw_626 : decode code 626 = .ok (.aload_n 0, 1) := by decide +kernel
theorem dlw_627 : decode code 627 = .ok (.iload 4, 2) := by decide +kernel
theorem dlw_629 : decode code 629 = .ok (.iconst 2, 1) := by decide +kernel
theorem dlw_630 : decode code 630 = .ok (.iadd, 1) := by decide +kernel
theorem dlw_631 : decode code 631 = .ok (.iaload, 1) := by decide +kernel
theorem dlw_632 : decode code 632 = .ok (.aload_n 3, 1) := by decide +kernel
theorem dlw_633 : decode code 633 = .ok (.invokestatic 146, 3) := by decide +kernel
theorem dlw_636 : decode code 636 = .ok (.istore 5, 2) := by decide +kernel
theorem dlw_638 : decode code 638 = .ok (.aload_n 2, 1) := by decide +kernel
theorem dlw_639 : decode code 639 = .ok (.aload_n 0, 1) := by decide +kernel
theorem dlw_640 : decode code 640 = .ok (.iload 4, 2) := by decide +kernel
theorem dlw_642 : decode code 642 = .ok (.iconst 1, 1) := by decide +kernel
theorem dlw_643 : decode code 643 = .ok (.iadd, 1) := by decide +kernel
theorem dlw_644 : decode code 644 = .ok (.iaload, 1) := by decide +kernel
theorem dlw_645 : decode code 645 = .ok (.aload_n 0, 1) := by decide +kernel
theorem dlw_646 : decode code 646 = .ok (.iload 4, 2) := by decide +kernel
theorem dlw_648 : decode code 648 = .ok (.iconst 2, 1) := by decide +kernel
theorem dlw_649 : decode code 649 = .ok (.iadd, 1) := by decide +kernel
theorem dlw_650 : decode code 650 = .ok (.iaload, 1) := by decide +kernel
theorem dlw_651 : decode code 651 = .ok (.invokevirtual 148, 3) := by decide +kernel
theorem dlw_654 : decode code 654 = .ok (.istore 6, 2) := by decide +kernel
theorem dlw_656 : decode code 656 = .ok (.goto 367, 3) := by decide +kernel
theorem dlw_659 : decode code 659 = .ok (.aload_n 1, 1) := by decide +kernel
theorem dlw_660 : decode code 660 = .ok (.aload_n 0, 1) := by decide +kernel
theorem dlw_661 : decode code 661 = .ok (.iload 4, 2) := by decide +kernel
theorem dlw_663 : decode code 663 = .ok (.iconst 1, 1) := by decide +kernel
theorem dlw_664 : decode code 664 = .ok (.iadd, 1) := by decide +kernel
theorem dlw_665 : decode code 665 = .ok (.iaload, 1) := by decide +kernel
theorem dlw_666 : decode code 666 = .ok (.aload_n 3, 1) := by decide +kernel
theorem dlw_667 : decode code 667 = .ok (.invokestatic 149, 3) := by decide +kernel
theorem dlw_670 : decode code 670 = .ok (.istore 5, 2) := by decide +kernel
theorem dlw_672 : decode code 672 = .ok (.aload_n 2, 1) := by decide +kernel
theorem dlw_673 : decode code 673 = .ok (.aload_n 0, 1) := by decide +kernel
theorem dlw_674 : decode code 674 = .ok (.iload 4, 2) := by decide +kernel
theorem dlw_676 : decode code 676 = .ok (.iconst 1, 1) := by decide +kernel
theorem dlw_677 : decode code 677 = .ok (.iadd, 1) := by decide +kernel
theorem dlw_678 : decode code 678 = .ok (.iaload, 1) := by decide +kernel
theorem dlw_679 : decode code 679 = .ok (.invokevirtual 151, 3) := by decide +kernel
theorem dlw_682 : decode code 682 = .ok (.istore 6, 2) := by decide +kernel
theorem dlw_684 : decode code 684 = .ok (.goto 339, 3) := by decide +kernel
theorem dlw_687 : decode code 687 = .ok (.aload_n 1, 1) := by decide +kernel
theorem dlw_688 : decode code 688 = .ok (.aload_n 0, 1) := by decide +kernel
theorem dlw_689 : decode code 689 = .ok (.iload 4, 2) := by decide +kernel
theorem dlw_691 : decode code 691 = .ok (.iconst 1, 1) := by decide +kernel
theorem dlw_692 : decode code 692 = .ok (.iadd, 1) := by decide +kernel
theorem dlw_693 : decode code 693 = .ok (.iaload, 1) := by decide +kernel
theorem dlw_694 : decode code 694 = .ok (.aload_n 0, 1) := by decide +kernel
theorem dlw_695 : decode code 695 = .ok (.iload 4, 2) := by decide +kernel
theorem dlw_697 : decode code 697 = .ok (.iconst 2, 1) := by decide +kernel
theorem dlw_698 : decode code 698 = .ok (.iadd, 1) := by decide +kernel
theorem dlw_699 : decode code 699 = .ok (.iaload, 1) := by decide +kernel
theorem dlw_700 : decode code 700 = .ok (.aload_n 3, 1) := by decide +kernel
theorem dlw_701 : decode code 701 = .ok (.invokestatic 152, 3) := by decide +kernel
theorem dlw_704 : decode code 704 = .ok (.istore 5, 2) := by decide +kernel
theorem dlw_706 : decode code 706 = .ok (.aload_n 2, 1) := by decide +kernel
theorem dlw_707 : decode code 707 = .ok (.aload_n 0, 1) := by decide +kernel
theorem dlw_708 : decode code 708 = .ok (.iload 4, 2) := by decide +kernel
theorem dlw_710 : decode code 710 = .ok (.iconst 1, 1) := by decide +kernel
theorem dlw_711 : decode code 711 = .ok (.iadd, 1) := by decide +kernel
theorem dlw_712 : decode code 712 = .ok (.iaload, 1) := by decide +kernel
theorem dlw_713 : decode code 713 = .ok (.aload_n 0, 1) := by decide +kernel
theorem dlw_714 : decode code 714 = .ok (.iload 4, 2) := by decide +kernel
theorem dlw_716 : decode code 716 = .ok (.iconst 2, 1) := by decide +kernel
theorem dlw_717 : decode code 717 = .ok (.iadd, 1) := by decide +kernel
theorem dlw_718 : decode code 718 = .ok (.iaload, 1) := by decide +kernel
theorem dlw_719 : decode code 719 = .ok (.invokevirtual 154, 3) := by decide +kernel
theorem dlw_722 : decode code 722 = .ok (.istore 6, 2) := by decide +kernel
theorem dlw_724 : decode code 724 = .ok (.goto 299, 3) := by decide +kernel
theorem dlw_727 : decode code 727 = .ok (.aload_n 1, 1) := by decide +kernel
theorem dlw_728 : decode code 728 = .ok (.aload_n 0, 1) := by decide +kernel
theorem dlw_729 : decode code 729 = .ok (.iload 4, 2) := by decide +kernel
theorem dlw_731 : decode code 731 = .ok (.iconst 1, 1) := by decide +kernel
theorem dlw_732 : decode code 732 = .ok (.iadd, 1) := by decide +kernel
theorem dlw_733 : decode code 733 = .ok (.iaload, 1) := by decide +kernel
theorem dlw_734 : decode code 734 = .ok (.aload_n 3, 1) := by decide +kernel
theorem dlw_735 : decode code 735 = .ok (.invokestatic 155, 3) := by decide +kernel
theorem dlw_738 : decode code 738 = .ok (.istore 5, 2) := by decide +kernel
theorem dlw_740 : decode code 740 = .ok (.aload_n 2, 1) := by decide +kernel
theorem dlw_741 : decode code 741 = .ok (.aload_n 0, 1) := by decide +kernel
theorem dlw_742 : decode code 742 = .ok (.iload 4, 2) := by decide +kernel
theorem dlw_744 : decode code 744 = .ok (.iconst 1, 1) := by decide +kernel
theorem dlw_745 : decode code 745 = .ok (.iadd, 1) := by decide +kernel
theorem dlw_746 : decode code 746 = .ok (.iaload, 1) := by decide +kernel
theorem dlw_747 : decode code 747 = .ok (.invokevirtual 157, 3) := by decide +kernel
theorem dlw_750 : decode code 750 = .ok (.istore 6, 2) := by decide +kernel
theorem dlw_752 : decode code 752 = .ok (.goto 271, 3) := by decide +kernel
theorem dlw_755 : decode code 755 = .ok (.aload_n 1, 1) := by decide +kernel
theorem dlw_756 : decode code 756 = .ok (.invokevirtual 158, 3) := by decide +kernel
theorem dlw_759 : decode code 759 = .ok (.pop, 1) := by decide +kernel
theorem dlw_760 : decode code 760 = .ok (.aload_n 2, 1) := by decide +kernel
theorem dlw_761 : decode code 761 = .ok (.invokevirtual 161, 3) := by decide +kernel
theorem dlw_764 : decode code 764 = .ok (.pop, 1) := by decide +kernel
theorem dlw_765 : decode code 765 = .ok (.goto 258, 3) := by decide +kernel
theorem dlw_768 : decode code 768 = .ok (.aload_n 1, 1) := by decide +kernel
theorem dlw_769 : decode code 769 = .ok (.aload_n 0, 1) := by decide +kernel
theorem dlw_770 : decode code 770 = .ok (.iload 4, 2) := by decide +kernel
theorem dlw_772 : decode code 772 = .ok (.iconst 1, 1) := by decide +kernel
theorem dlw_773 : decode code 773 = .ok (.iadd, 1) := by decide +kernel
theorem dlw_774 : decode code 774 = .ok (.iaload, 1) := by decide +kernel
theorem dlw_775 : decode code 775 = .ok (.i2l, 1) := by decide +kernel
theorem dlw_776 : decode code 776 = .ok (.bipush 32, 2) := by decide +kernel
theorem dlw_778 : decode code 778 = .ok (.lshl, 1) := by decide +kernel
theorem dlw_779 : decode code 779 = .ok (.aload_n 0, 1) := by decide +kernel
theorem dlw_780 : decode code 780 = .ok (.iload 4, 2) := by decide +kernel
theorem dlw_782 : decode code 782 = .ok (.iconst 2, 1) := by decide +kernel
theorem dlw_783 : decode code 783 = .ok (.iadd, 1) := by decide +kernel
theorem dlw_784 : decode code 784 = .ok (.iaload, 1) := by decide +kernel
theorem dlw_785 : decode code 785 = .ok (.i2l, 1) := by decide +kernel
theorem dlw_786 : decode code 786 = .ok (.ldc2_w 162, 3) := by decide +kernel
theorem dlw_789 : decode code 789 = .ok (.land, 1) := by decide +kernel
theorem dlw_790 : decode code 790 = .ok (.lor, 1) := by decide +kernel
theorem dlw_791 : decode code 791 = .ok (.aload_n 0, 1) := by decide +kernel
theorem dlw_792 : decode code 792 = .ok (.iload 4, 2) := by decide +kernel
theorem dlw_794 : decode code 794 = .ok (.iconst 3, 1) := by decide +kernel
theorem dlw_795 : decode code 795 = .ok (.iadd, 1) := by decide +kernel
theorem dlw_796 : decode code 796 = .ok (.iaload, 1) := by decide +kernel
theorem dlw_797 : decode code 797 = .ok (.aload_n 3, 1) := by decide +kernel
theorem dlw_798 : decode code 798 = .ok (.invokestatic 164, 3) := by decide +kernel
theorem dlw_801 : decode code 801 = .ok (.istore 5, 2) := by decide +kernel
theorem dlw_803 : decode code 803 = .ok (.aload_n 2, 1) := by decide +kernel
theorem dlw_804 : decode code 804 = .ok (.aload_n 0, 1) := by decide +kernel
theorem dlw_805 : decode code 805 = .ok (.iload 4, 2) := by decide +kernel
theorem dlw_807 : decode code 807 = .ok (.iconst 1, 1) := by decide +kernel
theorem dlw_808 : decode code 808 = .ok (.iadd, 1) := by decide +kernel
theorem dlw_809 : decode code 809 = .ok (.iaload, 1) := by decide +kernel
theorem dlw_810 : decode code 810 = .ok (.i2l, 1) := by decide +kernel
theorem dlw_811 : decode code 811 = .ok (.bipush 32, 2) := by decide +kernel
theorem dlw_813 : decode code 813 = .ok (.lshl, 1) := by decide +kernel
theorem dlw_814 : decode code 814 = .ok (.aload_n 0, 1) := by decide +kernel
theorem dlw_815 : decode code 815 = .ok (.iload 4, 2) := by decide +kernel
theorem dlw_817 : decode code 817 = .ok (.iconst 2, 1) := by decide +kernel
theorem dlw_818 : decode code 818 = .ok (.iadd, 1) := by decide +kernel
theorem dlw_819 : decode code 819 = .ok (.iaload, 1) := by decide +kernel
theorem dlw_820 : decode code 820 = .ok (.i2l, 1) := by decide +kernel
theorem dlw_821 : decode code 821 = .ok (.ldc2_w 162, 3) := by decide +kernel
theorem dlw_824 : decode code 824 = .ok (.land, 1) := by decide +kernel
theorem dlw_825 : decode code 825 = .ok (.lor, 1) := by decide +kernel
theorem dlw_826 : decode code 826 = .ok (.aload_n 0, 1) := by decide +kernel
theorem dlw_827 : decode code 827 = .ok (.iload 4, 2) := by decide +kernel
theorem dlw_829 : decode code 829 = .ok (.iconst 3, 1) := by decide +kernel
theorem dlw_830 : decode code 830 = .ok (.iadd, 1) := by decide +kernel
theorem dlw_831 : decode code 831 = .ok (.iaload, 1) := by decide +kernel
theorem dlw_832 : decode code 832 = .ok (.invokevirtual 167, 3) := by decide +kernel
theorem dlw_835 : decode code 835 = .ok (.istore 6, 2) := by decide +kernel
theorem dlw_837 : decode code 837 = .ok (.goto 186, 3) := by decide +kernel
theorem dlw_840 : decode code 840 = .ok (.aload_n 1, 1) := by decide +kernel
theorem dlw_841 : decode code 841 = .ok (.aload_n 0, 1) := by decide +kernel
theorem dlw_842 : decode code 842 = .ok (.iload 4, 2) := by decide +kernel
theorem dlw_844 : decode code 844 = .ok (.iconst 1, 1) := by decide +kernel
theorem dlw_845 : decode code 845 = .ok (.iadd, 1) := by decide +kernel
theorem dlw_846 : decode code 846 = .ok (.iaload, 1) := by decide +kernel
theorem dlw_847 : decode code 847 = .ok (.aload_n 3, 1) := by decide +kernel
theorem dlw_848 : decode code 848 = .ok (.invokestatic 168, 3) := by decide +kernel
theorem dlw_851 : decode code 851 = .ok (.istore 5, 2) := by decide +kernel
theorem dlw_853 : decode code 853 = .ok (.aload_n 2, 1) := by decide +kernel
theorem dlw_854 : decode code 854 = .ok (.aload_n 0, 1) := by decide +kernel
theorem dlw_855 : decode code 855 = .ok (.iload 4, 2) := by decide +kernel
theorem dlw_857 : decode code 857 = .ok (.iconst 1, 1) := by decide +kernel
theorem dlw_858 : decode code 858 = .ok (.iadd, 1) := by decide +kernel
theorem dlw_859 : decode code 859 = .ok (.iaload, 1) := by decide +kernel
theorem dlw_860 : decode code 860 = .ok (.invokevirtual 170, 3) := by decide +kernel
theorem dlw_863 : decode code 863 = .ok (.istore 6, 2) := by decide +kernel
theorem dlw_865 : decode code 865 = .ok (.goto 158, 3) := by decide +kernel
theorem dlw_868 : decode code 868 = .ok (.aload_n 1, 1) := by decide +kernel
theorem dlw_869 : decode code 869 = .ok (.aload_n 0, 1) := by decide +kernel
theorem dlw_870 : decode code 870 = .ok (.iload 4, 2) := by decide +kernel
theorem dlw_872 : decode code 872 = .ok (.iconst 1, 1) := by decide +kernel
theorem dlw_873 : decode code 873 = .ok (.iadd, 1) := by decide +kernel
theorem dlw_874 : decode code 874 = .ok (.iaload, 1) := by decide +kernel
theorem dlw_875 : decode code 875 = .ok (.aload_n 3, 1) := by decide +kernel
theorem dlw_876 : decode code 876 = .ok (.invokestatic 171, 3) := by decide +kernel
theorem dlw_879 : decode code 879 = .ok (.istore 5, 2) := by decide +kernel
theorem dlw_881 : decode code 881 = .ok (.aload_n 2, 1) := by decide +kernel
theorem dlw_882 : decode code 882 = .ok (.aload_n 0, 1) := by decide +kernel
theorem dlw_883 : decode code 883 = .ok (.iload 4, 2) := by decide +kernel
theorem dlw_885 : decode code 885 = .ok (.iconst 1, 1) := by decide +kernel
theorem dlw_886 : decode code 886 = .ok (.iadd, 1) := by decide +kernel
theorem dlw_887 : decode code 887 = .ok (.iaload, 1) := by decide +kernel
theorem dlw_888 : decode code 888 = .ok (.invokevirtual 173, 3) := by decide +kernel
theorem dlw_891 : decode code 891 = .ok (.lstore 6, 2) := by decide +kernel
theorem dlw_893 : decode code 893 = .ok (.goto 130, 3) := by decide +kernel
theorem dlw_896 : decode code 896 = .ok (.aload_n 1, 1) := by decide +kernel
theorem dlw_897 : decode code 897 = .ok (.aload_n 0, 1) := by decide +kernel
theorem dlw_898 : decode code 898 = .ok (.iload 4, 2) := by decide +kernel
theorem dlw_900 : decode code 900 = .ok (.iconst 1, 1) := by decide +kernel
theorem dlw_901 : decode code 901 = .ok (.iadd, 1) := by decide +kernel
theorem dlw_902 : decode code 902 = .ok (.iaload, 1) := by decide +kernel
theorem dlw_903 : decode code 903 = .ok (.aload_n 0, 1) := by decide +kernel
theorem dlw_904 : decode code 904 = .ok (.iload 4, 2) := by decide +kernel
theorem dlw_906 : decode code 906 = .ok (.iconst 2, 1) := by decide +kernel
theorem dlw_907 : decode code 907 = .ok (.iadd, 1) := by decide +kernel
theorem dlw_908 : decode code 908 = .ok (.iaload, 1) := by decide +kernel
theorem dlw_909 : decode code 909 = .ok (.aload_n 3, 1) := by decide +kernel
theorem dlw_910 : decode code 910 = .ok (.invokestatic 174, 3) := by decide +kernel
theorem dlw_913 : decode code 913 = .ok (.istore 5, 2) := by decide +kernel
theorem dlw_915 : decode code 915 = .ok (.aload_n 2, 1) := by decide +kernel
theorem dlw_916 : decode code 916 = .ok (.aload_n 0, 1) := by decide +kernel
theorem dlw_917 : decode code 917 = .ok (.iload 4, 2) := by decide +kernel
theorem dlw_919 : decode code 919 = .ok (.iconst 1, 1) := by decide +kernel
theorem dlw_920 : decode code 920 = .ok (.iadd, 1) := by decide +kernel
theorem dlw_921 : decode code 921 = .ok (.iaload, 1) := by decide +kernel
theorem dlw_922 : decode code 922 = .ok (.aload_n 0, 1) := by decide +kernel
theorem dlw_923 : decode code 923 = .ok (.iload 4, 2) := by decide +kernel
theorem dlw_925 : decode code 925 = .ok (.iconst 2, 1) := by decide +kernel
theorem dlw_926 : decode code 926 = .ok (.iadd, 1) := by decide +kernel
theorem dlw_927 : decode code 927 = .ok (.iaload, 1) := by decide +kernel
theorem dlw_928 : decode code 928 = .ok (.invokevirtual 176, 3) := by decide +kernel
theorem dlw_931 : decode code 931 = .ok (.istore 6, 2) := by decide +kernel
theorem dlw_933 : decode code 933 = .ok (.goto 90, 3) := by decide +kernel
theorem dlw_936 : decode code 936 = .ok (.aload_n 1, 1) := by decide +kernel
theorem dlw_937 : decode code 937 = .ok (.aload_n 0, 1) := by decide +kernel
theorem dlw_938 : decode code 938 = .ok (.iload 4, 2) := by decide +kernel
theorem dlw_940 : decode code 940 = .ok (.iconst 1, 1) := by decide +kernel
theorem dlw_941 : decode code 941 = .ok (.iadd, 1) := by decide +kernel
theorem dlw_942 : decode code 942 = .ok (.iaload, 1) := by decide +kernel
theorem dlw_943 : decode code 943 = .ok (.aload_n 0, 1) := by decide +kernel
theorem dlw_944 : decode code 944 = .ok (.iload 4, 2) := by decide +kernel
theorem dlw_946 : decode code 946 = .ok (.iconst 2, 1) := by decide +kernel
theorem dlw_947 : decode code 947 = .ok (.iadd, 1) := by decide +kernel
theorem dlw_948 : decode code 948 = .ok (.iaload, 1) := by decide +kernel
theorem dlw_949 : decode code 949 = .ok (.aload_n 0, 1) := by decide +kernel
theorem dlw_950 : decode code 950 = .ok (.iload 4, 2) := by decide +kernel
theorem dlw_952 : decode code 952 = .ok (.iconst 3, 1) := by decide +kernel
theorem dlw_953 : decode code 953 = .ok (.iadd, 1) := by decide +kernel
theorem dlw_954 : decode code 954 = .ok (.iaload, 1) := by decide +kernel
theorem dlw_955 : decode code 955 = .ok (.aload_n 3, 1) := by decide +kernel
theorem dlw_956 : decode code 956 = .ok (.invokestatic 177, 3) := by decide +kernel
theorem dlw_959 : decode code 959 = .ok (.istore 5, 2) := by decide +kernel
theorem dlw_961 : decode code 961 = .ok (.aload_n 2, 1) := by decide +kernel
theorem dlw_962 : decode code 962 = .ok (.aload_n 0, 1) := by decide +kernel
theorem dlw_963 : decode code 963 = .ok (.iload 4, 2) := by decide +kernel
theorem dlw_965 : decode code 965 = .ok (.iconst 1, 1) := by decide +kernel
theorem dlw_966 : decode code 966 = .ok (.iadd, 1) := by decide +kernel
theorem dlw_967 : decode code 967 = .ok (.iaload, 1) := by decide +kernel
theorem dlw_968 : decode code 968 = .ok (.aload_n 0, 1) := by decide +kernel
theorem dlw_969 : decode code 969 = .ok (.iload 4, 2) := by decide +kernel
theorem dlw_971 : decode code 971 = .ok (.iconst 2, 1) := by decide +kernel
theorem dlw_972 : decode code 972 = .ok (.iadd, 1) := by decide +kernel
theorem dlw_973 : decode code 973 = .ok (.iaload, 1) := by decide +kernel
theorem dlw_974 : decode code 974 = .ok (.aload_n 0, 1) := by decide +kernel
theorem dlw_975 : decode code 975 = .ok (.iload 4, 2) := by decide +kernel
theorem dlw_977 : decode code 977 = .ok (.iconst 3, 1) := by decide +kernel
theorem dlw_978 : decode code 978 = .ok (.iadd, 1) := by decide +kernel
theorem dlw_979 : decode code 979 = .ok (.iaload, 1) := by decide +kernel
theorem dlw_980 : decode code 980 = .ok (.invokevirtual 179, 3) := by decide +kernel
theorem dlw_983 : decode code 983 = .ok (.istore 6, 2) := by decide +kernel
theorem dlw_985 : decode code 985 = .ok (.aload_n 2, 1) := by decide +kernel
theorem dlw_986 : decode code 986 = .ok (.invokevirtual 180, 3) := by decide +kernel
theorem dlw_989 : decode code 989 = .ok (.iload 5, 2) := by decide +kernel
theorem dlw_991 : decode code 991 = .ok (.if_icmp .eq 5, 3) := by decide +kernel
theorem dlw_994 : decode code 994 = .ok (.iconst 0, 1) := by decide +kernel
theorem dlw_995 : decode code 995 = .ok (.ireturn, 1) := by decide +kernel
theorem dlw_996 : decode code 996 = .ok (.iload 5, 2) := by decide +kernel
theorem dlw_998 : decode code 998 = .ok (.ifCond .ne 22, 3) := by decide +kernel
theorem dlw_1001 : decode code 1001 = .ok (.aload_n 3, 1) := by decide +kernel
theorem dlw_1002 : decode code 1002 = .ok (.iconst 0, 1) := by decide +kernel
theorem dlw_1003 : decode code 1003 = .ok (.laload, 1) := by decide +kernel
theorem dlw_1004 : decode code 1004 = .ok (.iload 6, 2) := by decide +kernel
theorem dlw_1006 : decode code 1006 = .ok (.ifCond .eq 7, 3) := by decide +kernel
theorem dlw_1009 : decode code 1009 = .ok (.lconst 1, 1) := by decide +kernel
theorem dlw_1010 : decode code 1010 = .ok (.goto 4, 3) := by decide +kernel
theorem dlw_1013 : decode code 1013 = .ok (.lconst 0, 1) := by decide +kernel
theorem dlw_1014 : decode code 1014 = .ok (.lcmp, 1) := by decide +kernel
theorem dlw_1015 : decode code 1015 = .ok (.ifCond .eq 5, 3) := by decide +kernel
theorem dlw_1018 : decode code 1018 = .ok (.iconst 0, 1) := by decide +kernel
theorem dlw_1019 : decode code 1019 = .ok (.ireturn, 1) := by decide +kernel
theorem dlw_1020 : decode code 1020 = .ok (.goto 3, 3) := by decide +kernel
theorem dlw_1023 : decode code 1023 = .ok (.iinc 4 6, 3) := by decide +kernel
theorem dlw_1026 : decode code 1026 = .ok (.goto (-1003), 3) := by decide +kernel
theorem dlw_1029 : decode code 1029 = .ok (.iconst 1, 1) := by decide +kernel
theorem dlw_1030 : decode code 1030 = .ok (.ireturn, 1) := by decide +kernel
