theorem dL_tanks_153 : decode cL_tanks 153 = .ok (.iadd, 1) := by decide +kernel
theorem dL_tanks_154 : decode cL_tanks 154 = .ok (.istore_n 2, 1) := by decide +kernel
theorem dL_tanks_155 : decode cL_tanks 155 = .ok (.iload_n 3, 1) := by decide +kernel
theorem dL_tanks_156 : decode cL_tanks 156 = .ok (.aload_n 0, 1) := by decide +kernel
theorem dL_tanks_157 : decode cL_tanks 157 = .ok (.iload 4, 2) := by decide +kernel
theorem dL_tanks_159 : decode cL_tanks 159 = .ok (.invokestatic 321, 3) := by decide +kernel
theorem dL_tanks_162 : decode cL_tanks 162 = .ok (.iadd, 1) := by decide +kernel
theorem dL_tanks_163 : decode cL_tanks 163 = .ok (.istore_n 3, 1) := by decide +kernel
theorem dL_tanks_164 : decode cL_tanks 164 = .ok (.aload_n 0, 1) := by decide +kernel
theorem dL_tanks_165 : decode cL_tanks 165 = .ok (.iload 4, 2) := by decide +kernel
theorem dL_tanks_167 : decode cL_tanks 167 = .ok (.invokestatic 331, 3) := by decide +kernel
theorem dL_tanks_170 : decode cL_tanks 170 = .ok (.istore 6, 2) := by decide +kernel
theorem dL_tanks_172 : decode cL_tanks 172 = .ok (.iload_n 1, 1) := by decide +kernel
theorem dL_tanks_173 : decode cL_tanks 173 = .ok (.ifCond .ge 7, 3) := by decide +kernel
theorem dL_tanks_176 : decode cL_tanks 176 = .ok (.iconst 1, 1) := by decide +kernel
theorem dL_tanks_177 : decode cL_tanks 177 = .ok (.goto 15, 3) := by decide +kernel
theorem dL_tanks_180 : decode cL_tanks 180 = .ok (.aload_n 0, 1) := by decide +kernel
theorem dL_tanks_181 : decode cL_tanks 181 = .ok (.iload_n 1, 1) := by decide +kernel
theorem dL_tanks_182 : decode cL_tanks 182 = .ok (.invokestatic 317, 3) := by decide +kernel
theorem dL_tanks_185 : decode cL_tanks 185 = .ok (.aload_n 0, 1) := by decide +kernel
theorem dL_tanks_186 : decode cL_tanks 186 = .ok (.iload 6, 2) := by decide +kernel
theorem dL_tanks_188 : decode cL_tanks 188 = .ok (.invokestatic 317, 3) := by decide +kernel
theorem dL_tanks_191 : decode cL_tanks 191 = .ok (.isub, 1) := by decide +kernel
theorem dL_tanks_192 : decode cL_tanks 192 = .ok (.istore 7, 2) := by decide +kernel
theorem dL_tanks_194 : decode cL_tanks 194 = .ok (.iload 7, 2) := by decide +kernel
theorem dL_tanks_196 : decode cL_tanks 196 = .ok (.ifCond .eq 8, 3) := by decide +kernel
theorem dL_tanks_199 : decode cL_tanks 199 = .ok (.iload 7, 2) := by decide +kernel
theorem dL_tanks_201 : decode cL_tanks 201 = .ok (.goto 15, 3) := by decide +kernel
theorem dL_tanks_204 : decode cL_tanks 204 = .ok (.aload_n 0, 1) := by decide +kernel
theorem dL_tanks_205 : decode cL_tanks 205 = .ok (.iload 6, 2) := by decide +kernel
theorem dL_tanks_207 : decode cL_tanks 207 = .ok (.invokestatic 321, 3) := by decide +kernel
theorem dL_tanks_210 : decode cL_tanks 210 = .ok (.aload_n 0, 1) := by decide +kernel
theorem dL_tanks_211 : decode cL_tanks 211 = .ok (.iload_n 1, 1) := by decide +kernel
theorem dL_tanks_212 : decode cL_tanks 212 = .ok (.invokestatic 321, 3) := by decide +kernel
theorem dL_tanks_215 : decode cL_tanks 215 = .ok (.isub, 1) := by decide +kernel
theorem dL_tanks_216 : decode cL_tanks 216 = .ok (.istore 7, 2) := by decide +kernel
theorem dL_tanks_218 : decode cL_tanks 218 = .ok (.iload 6, 2) := by decide +kernel
theorem dL_tanks_220 : decode cL_tanks 220 = .ok (.ifCond .lt 72, 3) := by decide +kernel
theorem dL_tanks_223 : decode cL_tanks 223 = .ok (.iload 7, 2) := by decide +kernel
theorem dL_tanks_225 : decode cL_tanks 225 = .ok (.ifCond .lt 67, 3) := by decide +kernel
theorem dL_tanks_228 : decode cL_tanks 228 = .ok (.iload 7, 2) := by decide +kernel
theorem dL_tanks_230 : decode cL_tanks 230 = .ok (.ifCond .ne 9, 3) := by decide +kernel
theorem dL_tanks_233 : decode cL_tanks 233 = .ok (.iload 6, 2) := by decide +kernel
theorem dL_tanks_235 : decode cL_tanks 235 = .ok (.iload_n 1, 1) := by decide +kernel
theorem dL_tanks_236 : decode cL_tanks 236 = .ok (.if_icmp .lt 56, 3) := by decide +kernel
theorem dL_tanks_239 : decode cL_tanks 239 = .ok (.aload_n 0, 1) := by decide +kernel
theorem dL_tanks_240 : decode cL_tanks 240 = .ok (.iload 4, 2) := by decide +kernel
theorem dL_tanks_242 : decode cL_tanks 242 = .ok (.invokestatic 317, 3) := by decide +kernel
theorem dL_tanks_245 : decode cL_tanks 245 = .ok (.aload_n 0, 1) := by decide +kernel
theorem dL_tanks_246 : decode cL_tanks 246 = .ok (.iload 4, 2) := by decide +kernel
theorem dL_tanks_248 : decode cL_tanks 248 = .ok (.invokestatic 321, 3) := by decide +kernel
theorem dL_tanks_251 : decode cL_tanks 251 = .ok (.if_icmp .gt 41, 3) := by decide +kernel
theorem dL_tanks_254 : decode cL_tanks 254 = .ok (.aload_n 0, 1) := by decide +kernel
theorem dL_tanks_255 : decode cL_tanks 255 = .ok (.iload 4, 2) := by decide +kernel
theorem dL_tanks_257 : decode cL_tanks 257 = .ok (.aload_n 0, 1) := by decide +kernel
theorem dL_tanks_258 : decode cL_tanks 258 = .ok (.iload 4, 2) := by decide +kernel
theorem dL_tanks_260 : decode cL_tanks 260 = .ok (.invokestatic 317, 3) := by decide +kernel
theorem dL_tanks_263 : decode cL_tanks 263 = .ok (.invokestatic 329, 3) := by decide +kernel
theorem dL_tanks_266 : decode cL_tanks 266 = .ok (.bipush (-2), 2) := by decide +kernel
theorem dL_tanks_268 : decode cL_tanks 268 = .ok (.if_icmp .ne 24, 3) := by decide +kernel
theorem dL_tanks_271 : decode cL_tanks 271 = .ok (.aload_n 0, 1) := by decide +kernel
theorem dL_tanks_272 : decode cL_tanks 272 = .ok (.aload_n 0, 1) := by decide +kernel
theorem dL_tanks_273 : decode cL_tanks 273 = .ok (.iload 4, 2) := by decide +kernel
theorem dL_tanks_275 : decode cL_tanks 275 = .ok (.invokestatic 252, 3) := by decide +kernel
theorem dL_tanks_278 : decode cL_tanks 278 = .ok (.invokestatic 245, 3) := by decide +kernel
theorem dL_tanks_281 : decode cL_tanks 281 = .ok (.aload 5, 2) := by decide +kernel
theorem dL_tanks_283 : decode cL_tanks 283 = .ok (.invokevirtual 166, 3) := by decide +kernel
theorem dL_tanks_286 : decode cL_tanks 286 = .ok (.invokevirtual 333, 3) := by decide +kernel
theorem dL_tanks_289 : decode cL_tanks 289 = .ok (.ifCond .ne 5, 3) := by decide +kernel
theorem dL_tanks_292 : decode cL_tanks 292 = .ok (.iconst 0, 1) := by decide +kernel
theorem dL_tanks_293 : decode cL_tanks 293 = .ok (.ireturn, 1) := by decide +kernel
theorem dL_tanks_294 : decode cL_tanks 294 = .ok (.iload 6, 2) := by decide +kernel
theorem dL_tanks_296 : decode cL_tanks 296 = .ok (.istore_n 1, 1) := by decide +kernel
theorem dL_tanks_297 : decode cL_tanks 297 = .ok (.iinc 4 1, 3) := by decide +kernel
theorem dL_tanks_300 : decode cL_tanks 300 = .ok (.goto (-291), 3) := by decide +kernel
theorem dL_tanks_303 : decode cL_tanks 303 = .ok (.new 155, 3) := by decide +kernel
theorem dL_tanks_306 : decode cL_tanks 306 = .ok (.dup, 1) := by decide +kernel
theorem dL_tanks_307 : decode cL_tanks 307 = .ok (.invokespecial 157, 3) := by decide +kernel
theorem dL_tanks_310 : decode cL_tanks 310 = .ok (.astore 4, 2) := by decide +kernel
theorem dL_tanks_312 : decode cL_tanks 312 = .ok (.iconst 0, 1) := by decide +kernel
theorem dL_tanks_313 : decode cL_tanks 313 = .ok (.istore 5, 2) := by decide +kernel
theorem dL_tanks_315 : decode cL_tanks 315 = .ok (.iload 5, 2) := by decide +kernel
theorem dL_tanks_317 : decode cL_tanks 317 = .ok (.aload_n 0, 1) := by decide +kernel
theorem dL_tanks_318 : decode cL_tanks 318 = .ok (.invokevirtual 207, 3) := by decide +kernel
theorem dL_tanks_321 : decode cL_tanks 321 = .ok (.if_icmp .ge 84, 3) := by decide +kernel
theorem dL_tanks_324 : decode cL_tanks 324 = .ok (.aload_n 0, 1) := by decide +kernel
theorem dL_tanks_325 : decode cL_tanks 325 = .ok (.iload 5, 2) := by decide +kernel
theorem dL_tanks_327 : decode cL_tanks 327 = .ok (.invokestatic 278, 3) := by decide +kernel
theorem dL_tanks_330 : decode cL_tanks 330 = .ok (.i2c, 1) := by decide +kernel
theorem dL_tanks_331 : decode cL_tanks 331 = .ok (.istore 6, 2) := by decide +kernel
theorem dL_tanks_333 : decode cL_tanks 333 = .ok (.aload 4, 2) := by decide +kernel
theorem dL_tanks_335 : decode cL_tanks 335 = .ok (.iload 5, 2) := by decide +kernel
theorem dL_tanks_337 : decode cL_tanks 337 = .ok (.ifCond .ne 9, 3) := by decide +kernel
theorem dL_tanks_340 : decode cL_tanks 340 = .ok (.ldc_w 325, 3) := by decide +kernel
theorem dL_tanks_343 : decode cL_tanks 343 = .ok (.goto 6, 3) := by decide +kernel
theorem dL_tanks_346 : decode cL_tanks 346 = .ok (.ldc_w 337, 3) := by decide +kernel
theorem dL_tanks_349 : decode cL_tanks 349 = .ok (.invokevirtual 254, 3) := by decide +kernel
theorem dL_tanks_352 : decode cL_tanks 352 = .ok (.iload 6, 2) := by decide +kernel
theorem dL_tanks_354 : decode cL_tanks 354 = .ok (.invokevirtual 163, 3) := by decide +kernel
theorem dL_tanks_357 : decode cL_tanks 357 = .ok (.iload 6, 2) := by decide +kernel
theorem dL_tanks_359 : decode cL_tanks 359 = .ok (.bipush 102, 2) := by decide +kernel
theorem dL_tanks_361 : decode cL_tanks 361 = .ok (.if_icmp .ne 9, 3) := by decide +kernel
theorem dL_tanks_364 : decode cL_tanks 364 = .ok (.ldc_w 325, 3) := by decide +kernel
theorem dL_tanks_367 : decode cL_tanks 367 = .ok (.goto 28, 3) := by decide +kernel
theorem dL_tanks_370 : decode cL_tanks 370 = .ok (.new 155, 3) := by decide +kernel
theorem dL_tanks_373 : decode cL_tanks 373 = .ok (.dup, 1) := by decide +kernel
theorem dL_tanks_374 : decode cL_tanks 374 = .ok (.invokespecial 157, 3) := by decide +kernel
theorem dL_tanks_377 : decode cL_tanks 377 = .ok (.ldc_w 325, 3) := by decide +kernel
theorem dL_tanks_380 : decode cL_tanks 380 = .ok (.invokevirtual 254, 3) := by decide +kernel
theorem dL_tanks_383 : decode cL_tanks 383 = .ok (.aload_n 0, 1) := by decide +kernel
theorem dL_tanks_384 : decode cL_tanks 384 = .ok (.iload 5, 2) := by decide +kernel
theorem dL_tanks_386 : decode cL_tanks 386 = .ok (.invokestatic 280, 3) := by decide +kernel
theorem dL_tanks_389 : decode cL_tanks 389 = .ok (.invokevirtual 259, 3) := by decide +kernel
theorem dL_tanks_392 : decode cL_tanks 392 = .ok (.invokevirtual 166, 3) := by decide +kernel
theorem dL_tanks_395 : decode cL_tanks 395 = .ok (.invokevirtual 254, 3) := by decide +kernel
theorem dL_tanks_398 : decode cL_tanks 398 = .ok (.pop, 1) := by decide +kernel
theorem dL_tanks_399 : decode cL_tanks 399 = .ok (.iinc 5 1, 3) := by decide +kernel
theorem dL_tanks_402 : decode cL_tanks 402 = .ok (.goto (-87), 3) := by decide +kernel
theorem dL_tanks_405 : decode cL_tanks 405 = .ok (.iconst 0, 1) := by decide +kernel
theorem dL_tanks_406 : decode cL_tanks 406 = .ok (.istore 5, 2) := by decide +kernel
theorem dL_tanks_408 : decode cL_tanks 408 = .ok (.iconst 1, 1) := by decide +kernel
theorem dL_tanks_409 : decode cL_tanks 409 = .ok (.istore 6, 2) := by decide +kernel
theorem dL_tanks_411 : decode cL_tanks 411 = .ok (.iload 6, 2) := by decide +kernel
theorem dL_tanks_413 : decode cL_tanks 413 = .ok (.iconst 4, 1) := by decide +kernel
theorem dL_tanks_414 : decode cL_tanks 414 = .ok (.if_icmp .ge 34, 3) := by decide +kernel
theorem dL_tanks_417 : decode cL_tanks 417 = .ok (.aload_n 0, 1) := by decide +kernel
theorem dL_tanks_418 : decode cL_tanks 418 = .ok (.iload 6, 2) := by decide +kernel
theorem dL_tanks_420 : decode cL_tanks 420 = .ok (.invokestatic 307, 3) := by decide +kernel
theorem dL_tanks_423 : decode cL_tanks 423 = .ok (.aload_n 0, 1) := by decide +kernel
theorem dL_tanks_424 : decode cL_tanks 424 = .ok (.iload 5, 2) := by decide +kernel
theorem dL_tanks_426 : decode cL_tanks 426 = .ok (.invokestatic 307, 3) := by decide +kernel
theorem dL_tanks_429 : decode cL_tanks 429 = .ok (.lcmp, 1) := by decide +kernel
theorem dL_tanks_430 : decode cL_tanks 430 = .ok (.ifCond .le 8, 3) := by decide +kernel
theorem dL_tanks_433 : decode cL_tanks 433 = .ok (.iload 6, 2) := by decide +kernel
theorem dL_tanks_435 : decode cL_tanks 435 = .ok (.goto 5, 3) := by decide +kernel
theorem dL_tanks_438 : decode cL_tanks 438 = .ok (.iload 5, 2) := by decide +kernel
theorem dL_tanks_440 : decode cL_tanks 440 = .ok (.istore 5, 2) := by decide +kernel
theorem dL_tanks_442 : decode cL_tanks 442 = .ok (.iinc 6 1, 3) := by decide +kernel
theorem dL_tanks_445 : decode cL_tanks 445 = .ok (.goto (-34), 3) := by decide +kernel
theorem dL_tanks_448 : decode cL_tanks 448 = .ok (.iload_n 3, 1) := by decide +kernel
theorem dL_tanks_449 : decode cL_tanks 449 = .ok (.ifCond .ne 8, 3) := by decide +kernel
theorem dL_tanks_452 : decode cL_tanks 452 = .ok (.ldc 148, 2) := by decide +kernel
theorem dL_tanks_454 : decode cL_tanks 454 = .ok (.goto 8, 3) := by decide +kernel
theorem dL_tanks_457 : decode cL_tanks 457 = .ok (.iload_n 2, 1) := by decide +kernel
theorem dL_tanks_458 : decode cL_tanks 458 = .ok (.i2f, 1) := by decide +kernel
theorem dL_tanks_459 : decode cL_tanks 459 = .ok (.iload_n 3, 1) := by decide +kernel
theorem dL_tanks_460 : decode cL_tanks 460 = .ok (.i2f, 1) := by decide +kernel
theorem dL_tanks_461 : decode cL_tanks 461 = .ok (.fdiv, 1) := by decide +kernel
theorem dL_tanks_462 : decode cL_tanks 462 = .ok (.fstore 6, 2) := by decide +kernel
theorem dL_tanks_464 : decode cL_tanks 464 = .ok (.aload_n 0, 1) := by decide +kernel
theorem dL_tanks_465 : decode cL_tanks 465 = .ok (.invokevirtual 266, 3) := by decide +kernel
theorem dL_tanks_468 : decode cL_tanks 468 = .ok (.aload_n 0, 1) := by decide +kernel
theorem dL_tanks_469 : decode cL_tanks 469 = .ok (.invokevirtual 272, 3) := by decide +kernel
theorem dL_tanks_472 : decode cL_tanks 472 = .ok (.iload_n 2, 1) := by decide +kernel
theorem dL_tanks_473 : decode cL_tanks 473 = .ok (.iadd, 1) := by decide +kernel
theorem dL_tanks_474 : decode cL_tanks 474 = .ok (.if_icmp .ne 26, 3) := by decide +kernel
theorem dL_tanks_477 : decode cL_tanks 477 = .ok (.aload_n 0, 1) := by decide +kernel
theorem dL_tanks_478 : decode cL_tanks 478 = .ok (.invokestatic 339, 3) := by decide +kernel
theorem dL_tanks_481 : decode cL_tanks 481 = .ok (.fload 6, 2) := by decide +kernel
theorem dL_tanks_483 : decode cL_tanks 483 = .ok (.fcmp .l, 1) := by decide +kernel
theorem dL_tanks_484 : decode cL_tanks 484 = .ok (.ifCond .ne 16, 3) := by decide +kernel
theorem dL_tanks_487 : decode cL_tanks 487 = .ok (.aload_n 0, 1) := by decide +kernel
theorem dL_tanks_488 : decode cL_tanks 488 = .ok (.invokevirtual 342, 3) := by decide +kernel
theorem dL_tanks_491 : decode cL_tanks 491 = .ok (.iload 5, 2) := by decide +kernel
theorem dL_tanks_493 : decode cL_tanks 493 = .ok (.if_icmp .ne 7, 3) := by decide +kernel
theorem dL_tanks_496 : decode cL_tanks 496 = .ok (.iconst 1, 1) := by decide +kernel
theorem dL_tanks_497 : decode cL_tanks 497 = .ok (.goto 4, 3) := by decide +kernel
theorem dL_tanks_500 : decode cL_tanks 500 = .ok (.iconst 0, 1) := by decide +kernel
theorem dL_tanks_501 : decode cL_tanks 501 = .ok (.istore 7, 2) := by decide +kernel
theorem dL_tanks_503 : decode cL_tanks 503 = .ok (.iload 7, 2) := by decide +kernel
theorem dL_tanks_505 : decode cL_tanks 505 = .ok (.ifCond .eq 47, 3) := by decide +kernel
theorem dL_tanks_508 : decode cL_tanks 508 = .ok (.aload_n 0, 1) := by decide +kernel
theorem dL_tanks_509 : decode cL_tanks 509 = .ok (.aload_n 0, 1) := by decide +kernel
theorem dL_tanks_510 : decode cL_tanks 510 = .ok (.invokevirtual 242, 3) := by decide +kernel
theorem dL_tanks_513 : decode cL_tanks 513 = .ok (.invokestatic 245, 3) := by decide +kernel
theorem dL_tanks_516 : decode cL_tanks 516 = .ok (.aload 4, 2) := by decide +kernel
theorem dL_tanks_518 : decode cL_tanks 518 = .ok (.invokevirtual 166, 3) := by decide +kernel
theorem dL_tanks_521 : decode cL_tanks 521 = .ok (.invokevirtual 333, 3) := by decide +kernel
theorem dL_tanks_524 : decode cL_tanks 524 = .ok (.ifCond .eq 28, 3) := by decide +kernel
theorem dL_tanks_527 : decode cL_tanks 527 = .ok (.aload_n 0, 1) := by decide +kernel
theorem dL_tanks_528 : decode cL_tanks 528 = .ok (.aload_n 0, 1) := by decide +kernel
theorem dL_tanks_529 : decode cL_tanks 529 = .ok (.invokevirtual 200, 3) := by decide +kernel
theorem dL_tanks_532 : decode cL_tanks 532 = .ok (.invokestatic 331, 3) := by decide +kernel
theorem dL_tanks_535 : decode cL_tanks 535 = .ok (.iconst (-1), 1) := by decide +kernel
theorem dL_tanks_536 : decode cL_tanks 536 = .ok (.if_icmp .ne 16, 3) := by decide +kernel
theorem dL_tanks_539 : decode cL_tanks 539 = .ok (.aload_n 0, 1) := by decide +kernel
theorem dL_tanks_540 : decode cL_tanks 540 = .ok (.invokevirtual 207, 3) := by decide +kernel
theorem dL_tanks_543 : decode cL_tanks 543 = .ok (.bipush 8, 2) := by decide +kernel
theorem dL_tanks_545 : decode cL_tanks 545 = .ok (.if_icmp .gt 7, 3) := by decide +kernel
theorem dL_tanks_548 : decode cL_tanks 548 = .ok (.iconst 1, 1) := by decide +kernel
theorem dL_tanks_549 : decode cL_tanks 549 = .ok (.goto 4, 3) := by decide +kernel
theorem dL_tanks_552 : decode cL_tanks 552 = .ok (.iconst 0, 1) := by decide +kernel
theorem dL_tanks_553 : decode cL_tanks 553 = .ok (.ireturn, 1) := by decide +kernel
theorem dL_foretold_0 : decode cL_foretold 0 = .ok (.aload_n 0, 1) := by decide +kernel
theorem dL_foretold_1 : decode cL_foretold 1 = .ok (.invokevirtual 345, 3) := by decide +kernel
theorem dL_foretold_4 : decode cL_foretold 4 = .ok (.istore_n 2, 1) := by decide +kernel
theorem dL_foretold_5 : decode cL_foretold 5 = .ok (.aload_n 1, 1) := by decide +kernel
theorem dL_foretold_6 : decode cL_foretold 6 = .ok (.iconst 4, 1) := by decide +kernel
theorem dL_foretold_7 : decode cL_foretold 7 = .ok (.invokevirtual 181, 3) := by decide +kernel
theorem dL_foretold_10 : decode cL_foretold 10 = .ok (.istore_n 3, 1) := by decide +kernel
theorem dL_foretold_11 : decode cL_foretold 11 = .ok (.aload_n 0, 1) := by decide +kernel
theorem dL_foretold_12 : decode cL_foretold 12 = .ok (.iload_n 3, 1) := by decide +kernel
theorem dL_foretold_13 : decode cL_foretold 13 = .ok (.invokestatic 348, 3) := by decide +kernel
theorem dL_foretold_16 : decode cL_foretold 16 = .ok (.astore 4, 2) := by decide +kernel
theorem dL_foretold_18 : decode cL_foretold 18 = .ok (.aload_n 0, 1) := by decide +kernel
theorem dL_foretold_19 : decode cL_foretold 19 = .ok (.invokevirtual 200, 3) := by decide +kernel
theorem dL_foretold_22 : decode cL_foretold 22 = .ok (.istore 5, 2) := by decide +kernel
theorem dL_foretold_24 : decode cL_foretold 24 = .ok (.iload 5, 2) := by decide +kernel
theorem dL_foretold_26 : decode cL_foretold 26 = .ok (.newarray .int, 2) := by decide +kernel
theorem dL_foretold_28 : decode cL_foretold 28 = .ok (.astore 6, 2) := by decide +kernel
theorem dL_foretold_30 : decode cL_foretold 30 = .ok (.iconst 0, 1) := by decide +kernel
theorem dL_foretold_31 : decode cL_foretold 31 = .ok (.istore 7, 2) := by decide +kernel
theorem dL_foretold_33 : decode cL_foretold 33 = .ok (.iconst 0, 1) := by decide +kernel
theorem dL_foretold_34 : decode cL_foretold 34 = .ok (.istore 8, 2) := by decide +kernel
theorem dL_foretold_36 : decode cL_foretold 36 = .ok (.iload 8, 2) := by decide +kernel
theorem dL_foretold_38 : decode cL_foretold 38 = .ok (.iload 5, 2) := by decide +kernel
theorem dL_foretold_40 : decode cL_foretold 40 = .ok (.if_icmp .ge 20, 3) := by decide +kernel
theorem dL_foretold_43 : decode cL_foretold 43 = .ok (.aload 6, 2) := by decide +kernel
theorem dL_foretold_45 : decode cL_foretold 45 = .ok (.iload 8, 2) := by decide +kernel
theorem dL_foretold_47 : decode cL_foretold 47 = .ok (.aload_n 0, 1) := by decide +kernel
theorem dL_foretold_48 : decode cL_foretold 48 = .ok (.iload 8, 2) := by decide +kernel
theorem dL_foretold_50 : decode cL_foretold 50 = .ok (.invokestatic 317, 3) := by decide +kernel
theorem dL_foretold_53 : decode cL_foretold 53 = .ok (.iastore, 1) := by decide +kernel
theorem dL_foretold_54 : decode cL_foretold 54 = .ok (.iinc 8 1, 3) := by decide +kernel
theorem dL_foretold_57 : decode cL_foretold 57 = .ok (.goto (-21), 3) := by decide +kernel
theorem dL_foretold_60 : decode cL_foretold 60 = .ok (.aload 4, 2) := by decide +kernel
theorem dL_foretold_62 : decode cL_foretold 62 = .ok (.arraylength, 1) := by decide +kernel
theorem dL_foretold_63 : decode cL_foretold 63 = .ok (.newarray .int, 2) := by decide +kernel
theorem dL_foretold_65 : decode cL_foretold 65 = .ok (.astore 8, 2) := by decide +kernel
theorem dL_foretold_67 : decode cL_foretold 67 = .ok (.iconst 0, 1) := by decide +kernel
theorem dL_foretold_68 : decode cL_foretold 68 = .ok (.istore 9, 2) := by decide +kernel
theorem dL_foretold_70 : decode cL_foretold 70 = .ok (.iload 9, 2) := by decide +kernel
theorem dL_foretold_72 : decode cL_foretold 72 = .ok (.aload 4, 2) := by decide +kernel
theorem dL_foretold_74 : decode cL_foretold 74 = .ok (.arraylength, 1) := by decide +kernel
theorem dL_foretold_75 : decode cL_foretold 75 = .ok (.if_icmp .ge 140, 3) := by decide +kernel
theorem dL_foretold_78 : decode cL_foretold 78 = .ok (.iconst (-1), 1) := by decide +kernel
theorem dL_foretold_79 : decode cL_foretold 79 = .ok (.istore 10, 2) := by decide +kernel
theorem dL_foretold_81 : decode cL_foretold 81 = .ok (.iconst 0, 1) := by decide +kernel
theorem dL_foretold_82 : decode cL_foretold 82 = .ok (.istore 11, 2) := by decide +kernel
theorem dL_foretold_84 : decode cL_foretold 84 = .ok (.iload 11, 2) := by decide +kernel
theorem dL_foretold_86 : decode cL_foretold 86 = .ok (.iload 5, 2) := by decide +kernel
theorem dL_foretold_88 : decode cL_foretold 88 = .ok (.if_icmp .ge 85, 3) := by decide +kernel
theorem dL_foretold_91 : decode cL_foretold 91 = .ok (.aload_n 0, 1) := by decide +kernel
theorem dL_foretold_92 : decode cL_foretold 92 = .ok (.iload 11, 2) := by decide +kernel
theorem dL_foretold_94 : decode cL_foretold 94 = .ok (.invokestatic 321, 3) := by decide +kernel
theorem dL_foretold_97 : decode cL_foretold 97 = .ok (.aload 6, 2) := by decide +kernel
theorem dL_foretold_99 : decode cL_foretold 99 = .ok (.iload 11, 2) := by decide +kernel
theorem dL_foretold_101 : decode cL_foretold 101 = .ok (.iaload, 1) := by decide +kernel
theorem dL_foretold_102 : decode cL_foretold 102 = .ok (.isub, 1) := by decide +kernel
theorem dL_foretold_103 : decode cL_foretold 103 = .ok (.istore 12, 2) := by decide +kernel
theorem dL_foretold_105 : decode cL_foretold 105 = .ok (.iload 12, 2) := by decide +kernel
theorem dL_foretold_107 : decode cL_foretold 107 = .ok (.ifCond .le 21, 3) := by decide +kernel
theorem dL_foretold_110 : decode cL_foretold 110 = .ok (.aload 4, 2) := by decide +kernel
theorem dL_foretold_112 : decode cL_foretold 112 = .ok (.iload 9, 2) := by decide +kernel
theorem dL_foretold_114 : decode cL_foretold 114 = .ok (.iaload, 1) := by decide +kernel
theorem dL_foretold_115 : decode cL_foretold 115 = .ok (.aload_n 0, 1) := by decide +kernel
theorem dL_foretold_116 : decode cL_foretold 116 = .ok (.iload 11, 2) := by decide +kernel
theorem dL_foretold_118 : decode cL_foretold 118 = .ok (.invokestatic 323, 3) := by decide +kernel
theorem dL_foretold_121 : decode cL_foretold 121 = .ok (.if_icmp .gt 7, 3) := by decide +kernel
theorem dL_foretold_124 : decode cL_foretold 124 = .ok (.iconst 1, 1) := by decide +kernel
theorem dL_foretold_125 : decode cL_foretold 125 = .ok (.goto 4, 3) := by decide +kernel
theorem dL_foretold_128 : decode cL_foretold 128 = .ok (.iconst 0, 1) := by decide +kernel
theorem dL_foretold_129 : decode cL_foretold 129 = .ok (.istore 13, 2) := by decide +kernel
theorem dL_foretold_131 : decode cL_foretold 131 = .ok (.iload 13, 2) := by decide +kernel
theorem dL_foretold_133 : decode cL_foretold 133 = .ok (.ifCond .eq 30, 3) := by decide +kernel
theorem dL_foretold_136 : decode cL_foretold 136 = .ok (.iload 10, 2) := by decide +kernel
theorem dL_foretold_138 : decode cL_foretold 138 = .ok (.ifCond .lt 20, 3) := by decide +kernel
theorem dL_foretold_141 : decode cL_foretold 141 = .ok (.iload 12, 2) := by decide +kernel
theorem dL_foretold_143 : decode cL_foretold 143 = .ok (.aload_n 0, 1) := by decide +kernel
theorem dL_foretold_144 : decode cL_foretold 144 = .ok (.iload 10, 2) := by decide +kernel
theorem dL_foretold_146 : decode cL_foretold 146 = .ok (.invokestatic 321, 3) := by decide +kernel
theorem dL_foretold_149 : decode cL_foretold 149 = .ok (.aload 6, 2) := by decide +kernel
theorem dL_foretold_151 : decode cL_foretold 151 = .ok (.iload 10, 2) := by decide +kernel
theorem dL_foretold_153 : decode cL_foretold 153 = .ok (.iaload, 1) := by decide +kernel
theorem dL_foretold_154 : decode cL_foretold 154 = .ok (.isub, 1) := by decide +kernel
theorem dL_foretold_155 : decode cL_foretold 155 = .ok (.if_icmp .le 8, 3) := by decide +kernel
theorem dL_foretold_158 : decode cL_foretold 158 = .ok (.iload 11, 2) := by decide +kernel
theorem dL_foretold_160 : decode cL_foretold 160 = .ok (.goto 5, 3) := by decide +kernel
theorem dL_foretold_163 : decode cL_foretold 163 = .ok (.iload 10, 2) := by decide +kernel
theorem dL_foretold_165 : decode cL_foretold 165 = .ok (.istore 10, 2) := by decide +kernel
theorem dL_foretold_167 : decode cL_foretold 167 = .ok (.iinc 11 1, 3) := by decide +kernel
theorem dL_foretold_170 : decode cL_foretold 170 = .ok (.goto (-86), 3) := by decide +kernel
theorem dL_foretold_173 : decode cL_foretold 173 = .ok (.aload 8, 2) := by decide +kernel
theorem dL_foretold_175 : decode cL_foretold 175 = .ok (.iload 9, 2) := by decide +kernel
theorem dL_foretold_177 : decode cL_foretold 177 = .ok (.iload 10, 2) := by decide +kernel
theorem dL_foretold_179 : decode cL_foretold 179 = .ok (.iastore, 1) := by decide +kernel
theorem dL_foretold_180 : decode cL_foretold 180 = .ok (.iload 7, 2) := by decide +kernel
theorem dL_foretold_182 : decode cL_foretold 182 = .ok (.iload 10, 2) := by decide +kernel
theorem dL_foretold_184 : decode cL_foretold 184 = .ok (.ifCond .ge 7, 3) := by decide +kernel
theorem dL_foretold_187 : decode cL_foretold 187 = .ok (.iconst 1, 1) := by decide +kernel
theorem dL_foretold_188 : decode cL_foretold 188 = .ok (.goto 4, 3) := by decide +kernel
theorem dL_foretold_191 : decode cL_foretold 191 = .ok (.iconst 0, 1) := by decide +kernel
theorem dL_foretold_192 : decode cL_foretold 192 = .ok (.iadd, 1) := by decide +kernel
theorem dL_foretold_193 : decode cL_foretold 193 = .ok (.istore 7, 2) := by decide +kernel
theorem dL_foretold_195 : decode cL_foretold 195 = .ok (.iload 10, 2) := by decide +kernel
theorem dL_foretold_197 : decode cL_foretold 197 = .ok (.ifCond .lt 12, 3) := by decide +kernel
theorem dL_foretold_200 : decode cL_foretold 200 = .ok (.aload 6, 2) := by decide +kernel
theorem dL_foretold_202 : decode cL_foretold 202 = .ok (.iload 10, 2) := by decide +kernel
theorem dL_foretold_204 : decode cL_foretold 204 = .ok (.dup2, 1) := by decide +kernel
theorem dL_foretold_205 : decode cL_foretold 205 = .ok (.iaload, 1) := by decide +kernel
theorem dL_foretold_206 : decode cL_foretold 206 = .ok (.iconst 1, 1) := by decide +kernel
theorem dL_foretold_207 : decode cL_foretold 207 = .ok (.iadd, 1) := by decide +kernel
theorem dL_foretold_208 : decode cL_foretold 208 = .ok (.iastore, 1) := by decide +kernel
theorem dL_foretold_209 : decode cL_foretold 209 = .ok (.iinc 9 1, 3) := by decide +kernel
theorem dL_foretold_212 : decode cL_foretold 212 = .ok (.goto (-142), 3) := by decide +kernel
theorem dL_foretold_215 : decode cL_foretold 215 = .ok (.aload_n 0, 1) := by decide +kernel
theorem dL_foretold_216 : decode cL_foretold 216 = .ok (.iload_n 3, 1) := by decide +kernel
theorem dL_foretold_217 : decode cL_foretold 217 = .ok (.invokestatic 351, 3) := by decide +kernel
theorem dL_foretold_220 : decode cL_foretold 220 = .ok (.iload 7, 2) := by decide +kernel
theorem dL_foretold_222 : decode cL_foretold 222 = .ok (.if_icmp .ne 17, 3) := by decide +kernel
theorem dL_foretold_225 : decode cL_foretold 225 = .ok (.aload_n 0, 1) := by decide +kernel
theorem dL_foretold_226 : decode cL_foretold 226 = .ok (.iload_n 3, 1) := by decide +kernel
theorem dL_foretold_227 : decode cL_foretold 227 = .ok (.invokestatic 353, 3) := by decide +kernel
theorem dL_foretold_230 : decode cL_foretold 230 = .ok (.iload 7, 2) := by decide +kernel
theorem dL_foretold_232 : decode cL_foretold 232 = .ok (.if_icmp .ne 7, 3) := by decide +kernel
theorem dL_foretold_235 : decode cL_foretold 235 = .ok (.iconst 1, 1) := by decide +kernel
theorem dL_foretold_236 : decode cL_foretold 236 = .ok (.goto 4, 3) := by decide +kernel
theorem dL_foretold_239 : decode cL_foretold 239 = .ok (.iconst 0, 1) := by decide +kernel
theorem dL_foretold_240 : decode cL_foretold 240 = .ok (.istore 9, 2) := by decide +kernel
theorem dL_foretold_242 : decode cL_foretold 242 = .ok (.aload_n 0, 1) := by decide +kernel
theorem dL_foretold_243 : decode cL_foretold 243 = .ok (.invokevirtual 269, 3) := by decide +kernel
theorem dL_foretold_246 : decode cL_foretold 246 = .ok (.istore 10, 2) := by decide +kernel
theorem dL_foretold_248 : decode cL_foretold 248 = .ok (.aload_n 0, 1) := by decide +kernel
theorem dL_foretold_249 : decode cL_foretold 249 = .ok (.iload_n 3, 1) := by decide +kernel
theorem dL_foretold_250 : decode cL_foretold 250 = .ok (.invokestatic 240, 3) := by decide +kernel
theorem dL_foretold_253 : decode cL_foretold 253 = .ok (.istore 11, 2) := by decide +kernel
theorem dL_foretold_255 : decode cL_foretold 255 = .ok (.iload 9, 2) := by decide +kernel
theorem dL_foretold_257 : decode cL_foretold 257 = .ok (.aload 4, 2) := by decide +kernel
theorem dL_foretold_259 : decode cL_foretold 259 = .ok (.arraylength, 1) := by decide +kernel
theorem dL_foretold_260 : decode cL_foretold 260 = .ok (.ifCond .ne 18, 3) := by decide +kernel
theorem dL_foretold_263 : decode cL_foretold 263 = .ok (.iload 11, 2) := by decide +kernel
theorem dL_foretold_265 : decode cL_foretold 265 = .ok (.bipush (-2), 2) := by decide +kernel
theorem dL_foretold_267 : decode cL_foretold 267 = .ok (.if_icmp .ne 7, 3) := by decide +kernel
theorem dL_foretold_270 : decode cL_foretold 270 = .ok (.iconst 1, 1) := by decide +kernel
theorem dL_foretold_271 : decode cL_foretold 271 = .ok (.goto 35, 3) := by decide +kernel
theorem dL_foretold_274 : decode cL_foretold 274 = .ok (.iconst 0, 1) := by decide +kernel
theorem dL_foretold_275 : decode cL_foretold 275 = .ok (.goto 31, 3) := by decide +kernel
theorem dL_foretold_278 : decode cL_foretold 278 = .ok (.iload 11, 2) := by decide +kernel
theorem dL_foretold_280 : decode cL_foretold 280 = .ok (.aload 4, 2) := by decide +kernel
theorem dL_foretold_282 : decode cL_foretold 282 = .ok (.arraylength, 1) := by decide +kernel
theorem dL_foretold_283 : decode cL_foretold 283 = .ok (.iload 7, 2) := by decide +kernel
theorem dL_foretold_285 : decode cL_foretold 285 = .ok (.isub, 1) := by decide +kernel
theorem dL_foretold_286 : decode cL_foretold 286 = .ok (.if_icmp .ne 19, 3) := by decide +kernel
theorem dL_foretold_289 : decode cL_foretold 289 = .ok (.aload_n 0, 1) := by decide +kernel
theorem dL_foretold_290 : decode cL_foretold 290 = .ok (.invokevirtual 269, 3) := by decide +kernel
theorem dL_foretold_293 : decode cL_foretold 293 = .ok (.iload 10, 2) := by decide +kernel
theorem dL_foretold_295 : decode cL_foretold 295 = .ok (.iload 7, 2) := by decide +kernel
theorem dL_foretold_297 : decode cL_foretold 297 = .ok (.iadd, 1) := by decide +kernel
theorem dL_foretold_298 : decode cL_foretold 298 = .ok (.if_icmp .ne 7, 3) := by decide +kernel
theorem dL_foretold_301 : decode cL_foretold 301 = .ok (.iconst 1, 1) := by decide +kernel
theorem dL_foretold_302 : decode cL_foretold 302 = .ok (.goto 4, 3) := by decide +kernel
theorem dL_foretold_305 : decode cL_foretold 305 = .ok (.iconst 0, 1) := by decide +kernel
theorem dL_foretold_306 : decode cL_foretold 306 = .ok (.iand, 1) := by decide +kernel
theorem dL_foretold_307 : decode cL_foretold 307 = .ok (.istore 9, 2) := by decide +kernel
theorem dL_foretold_309 : decode cL_foretold 309 = .ok (.aload 4, 2) := by decide +kernel
theorem dL_foretold_311 : decode cL_foretold 311 = .ok (.arraylength, 1) := by decide +kernel
theorem dL_foretold_312 : decode cL_foretold 312 = .ok (.iconst 1, 1) := by decide +kernel
theorem dL_foretold_313 : decode cL_foretold 313 = .ok (.isub, 1) := by decide +kernel
theorem dL_foretold_314 : decode cL_foretold 314 = .ok (.istore 12, 2) := by decide +kernel
theorem dL_foretold_316 : decode cL_foretold 316 = .ok (.iload 12, 2) := by decide +kernel
theorem dL_foretold_318 : decode cL_foretold 318 = .ok (.ifCond .lt 64, 3) := by decide +kernel
theorem dL_foretold_321 : decode cL_foretold 321 = .ok (.aload 8, 2) := by decide +kernel
theorem dL_foretold_323 : decode cL_foretold 323 = .ok (.iload 12, 2) := by decide +kernel
theorem dL_foretold_325 : decode cL_foretold 325 = .ok (.iaload, 1) := by decide +kernel
theorem dL_foretold_326 : decode cL_foretold 326 = .ok (.ifCond .lt 50, 3) := by decide +kernel
theorem dL_foretold_329 : decode cL_foretold 329 = .ok (.aload 6, 2) := by decide +kernel
theorem dL_foretold_331 : decode cL_foretold 331 = .ok (.aload 8, 2) := by decide +kernel
theorem dL_foretold_333 : decode cL_foretold 333 = .ok (.iload 12, 2) := by decide +kernel
theorem dL_foretold_335 : decode cL_foretold 335 = .ok (.iaload, 1) := by decide +kernel
theorem dL_foretold_336 : decode cL_foretold 336 = .ok (.dup2, 1) := by decide +kernel
theorem dL_foretold_337 : decode cL_foretold 337 = .ok (.iaload, 1) := by decide +kernel
theorem dL_foretold_338 : decode cL_foretold 338 = .ok (.iconst 1, 1) := by decide +kernel
theorem dL_foretold_339 : decode cL_foretold 339 = .ok (.isub, 1) := by decide +kernel
theorem dL_foretold_340 : decode cL_foretold 340 = .ok (.iastore, 1) := by decide +kernel
theorem dL_foretold_341 : decode cL_foretold 341 = .ok (.iload 9, 2) := by decide +kernel
theorem dL_foretold_343 : decode cL_foretold 343 = .ok (.aload_n 0, 1) := by decide +kernel
theorem dL_foretold_344 : decode cL_foretold 344 = .ok (.aload 8, 2) := by decide +kernel
theorem dL_foretold_346 : decode cL_foretold 346 = .ok (.iload 12, 2) := by decide +kernel
theorem dL_foretold_348 : decode cL_foretold 348 = .ok (.iaload, 1) := by decide +kernel
theorem dL_foretold_349 : decode cL_foretold 349 = .ok (.aload 6, 2) := by decide +kernel
theorem dL_foretold_351 : decode cL_foretold 351 = .ok (.aload 8, 2) := by decide +kernel
theorem dL_foretold_353 : decode cL_foretold 353 = .ok (.iload 12, 2) := by decide +kernel
theorem dL_foretold_355 : decode cL_foretold 355 = .ok (.iaload, 1) := by decide +kernel
theorem dL_foretold_356 : decode cL_foretold 356 = .ok (.iaload, 1) := by decide +kernel
theorem dL_foretold_357 : decode cL_foretold 357 = .ok (.invokestatic 329, 3) := by decide +kernel
theorem dL_foretold_360 : decode cL_foretold 360 = .ok (.aload 4, 2) := by decide +kernel
theorem dL_foretold_362 : decode cL_foretold 362 = .ok (.iload 12, 2) := by decide +kernel
theorem dL_foretold_364 : decode cL_foretold 364 = .ok (.iaload, 1) := by decide +kernel
theorem dL_foretold_365 : decode cL_foretold 365 = .ok (.if_icmp .ne 7, 3) := by decide +kernel
theorem dL_foretold_368 : decode cL_foretold 368 = .ok (.iconst 1, 1) := by decide +kernel
theorem dL_foretold_369 : decode cL_foretold 369 = .ok (.goto 4, 3) := by decide +kernel
theorem dL_foretold_372 : decode cL_foretold 372 = .ok (.iconst 0, 1) := by decide +kernel
theorem dL_foretold_373 : decode cL_foretold 373 = .ok (.iand, 1) := by decide +kernel
theorem dL_foretold_374 : decode cL_foretold 374 = .ok (.istore 9, 2) := by decide +kernel
theorem dL_foretold_376 : decode cL_foretold 376 = .ok (.iinc 12 (-1), 3) := by decide +kernel
theorem dL_foretold_379 : decode cL_foretold 379 = .ok (.goto (-63), 3) := by decide +kernel
theorem dL_foretold_382 : decode cL_foretold 382 = .ok (.aload_n 0, 1) := by decide +kernel
theorem dL_foretold_383 : decode cL_foretold 383 = .ok (.invokestatic 355, 3) := by decide +kernel
theorem dL_foretold_386 : decode cL_foretold 386 = .ok (.iload_n 2, 1) := by decide +kernel
theorem dL_foretold_387 : decode cL_foretold 387 = .ok (.if_icmp .ne 12, 3) := by decide +kernel
theorem dL_foretold_390 : decode cL_foretold 390 = .ok (.iload 9, 2) := by decide +kernel
theorem dL_foretold_392 : decode cL_foretold 392 = .ok (.ifCond .eq 7, 3) := by decide +kernel
theorem dL_foretold_395 : decode cL_foretold 395 = .ok (.iconst 1, 1) := by decide +kernel
theorem dL_foretold_396 : decode cL_foretold 396 = .ok (.goto 4, 3) := by decide +kernel
theorem dL_foretold_399 : decode cL_foretold 399 = .ok (.iconst 0, 1) := by decide +kernel
theorem dL_foretold_400 : decode cL_foretold 400 = .ok (.ireturn, 1) := by decide +kernel
theorem dL_law_0 : decode cL_law 0 = .ok (.new 8, 3) := by decide +kernel
theorem dL_law_3 : decode cL_law 3 = .ok (.dup, 1) := by decide +kernel
theorem dL_law_4 : decode cL_law 4 = .ok (.invokespecial 358, 3) := by decide +kernel
theorem dL_law_7 : decode cL_law 7 = .ok (.astore_n 1, 1) := by decide +kernel
theorem dL_law_8 : decode cL_law 8 = .ok (.iconst 0, 1) := by decide +kernel
theorem dL_law_9 : decode cL_law 9 = .ok (.istore_n 2, 1) := by decide +kernel
theorem dL_law_10 : decode cL_law 10 = .ok (.aload_n 1, 1) := by decide +kernel
theorem dL_law_11 : decode cL_law 11 = .ok (.invokestatic 359, 3) := by decide +kernel
theorem dL_law_14 : decode cL_law 14 = .ok (.iconst (-1), 1) := by decide +kernel
theorem dL_law_15 : decode cL_law 15 = .ok (.if_icmp .ne 301, 3) := by decide +kernel
theorem dL_law_18 : decode cL_law 18 = .ok (.aload_n 1, 1) := by decide +kernel
theorem dL_law_19 : decode cL_law 19 = .ok (.invokestatic 355, 3) := by decide +kernel
theorem dL_law_22 : decode cL_law 22 = .ok (.iconst (-1), 1) := by decide +kernel
theorem dL_law_23 : decode cL_law 23 = .ok (.if_icmp .ne 293, 3) := by decide +kernel
theorem dL_law_26 : decode cL_law 26 = .ok (.aload_n 1, 1) := by decide +kernel
theorem dL_law_27 : decode cL_law 27 = .ok (.invokestatic 361, 3) := by decide +kernel
theorem dL_law_30 : decode cL_law 30 = .ok (.iconst (-1), 1) := by decide +kernel
theorem dL_law_31 : decode cL_law 31 = .ok (.if_icmp .ne 285, 3) := by decide +kernel
theorem dL_law_34 : decode cL_law 34 = .ok (.aload_n 1, 1) := by decide +kernel
theorem dL_law_35 : decode cL_law 35 = .ok (.invokestatic 363, 3) := by decide +kernel
theorem dL_law_38 : decode cL_law 38 = .ok (.iconst (-1), 1) := by decide +kernel
theorem dL_law_39 : decode cL_law 39 = .ok (.if_icmp .ne 277, 3) := by decide +kernel
theorem dL_law_42 : decode cL_law 42 = .ok (.aload_n 1, 1) := by decide +kernel
theorem dL_law_43 : decode cL_law 43 = .ok (.invokestatic 365, 3) := by decide +kernel
theorem dL_law_46 : decode cL_law 46 = .ok (.iconst (-1), 1) := by decide +kernel
theorem dL_law_47 : decode cL_law 47 = .ok (.if_icmp .ne 269, 3) := by decide +kernel
theorem dL_law_50 : decode cL_law 50 = .ok (.aload_n 1, 1) := by decide +kernel
theorem dL_law_51 : decode cL_law 51 = .ok (.invokestatic 361, 3) := by decide +kernel
theorem dL_law_54 : decode cL_law 54 = .ok (.ifCond .ne 262, 3) := by decide +kernel
theorem dL_law_57 : decode cL_law 57 = .ok (.aload_n 1, 1) := by decide +kernel
theorem dL_law_58 : decode cL_law 58 = .ok (.iconst 0, 1) := by decide +kernel
theorem dL_law_59 : decode cL_law 59 = .ok (.invokestatic 158, 3) := by decide +kernel
theorem dL_law_62 : decode cL_law 62 = .ok (.iconst (-1), 1) := by decide +kernel
theorem dL_law_63 : decode cL_law 63 = .ok (.if_icmp .ne 253, 3) := by decide +kernel
theorem dL_law_66 : decode cL_law 66 = .ok (.aload_n 1, 1) := by decide +kernel
theorem dL_law_67 : decode cL_law 67 = .ok (.bipush 120, 2) := by decide +kernel
theorem dL_law_69 : decode cL_law 69 = .ok (.iconst 1, 1) := by decide +kernel
theorem dL_law_70 : decode cL_law 70 = .ok (.invokestatic 218, 3) := by decide +kernel
theorem dL_law_73 : decode cL_law 73 = .ok (.iconst (-1), 1) := by decide +kernel
theorem dL_law_74 : decode cL_law 74 = .ok (.if_icmp .ne 242, 3) := by decide +kernel
theorem dL_law_77 : decode cL_law 77 = .ok (.aload_n 1, 1) := by decide +kernel
theorem dL_law_78 : decode cL_law 78 = .ok (.bipush 103, 2) := by decide +kernel
theorem dL_law_80 : decode cL_law 80 = .ok (.sipush 201, 3) := by decide +kernel
theorem dL_law_83 : decode cL_law 83 = .ok (.invokestatic 218, 3) := by decide +kernel
theorem dL_law_86 : decode cL_law 86 = .ok (.iconst (-1), 1) := by decide +kernel
theorem dL_law_87 : decode cL_law 87 = .ok (.if_icmp .ne 229, 3) := by decide +kernel
theorem dL_law_90 : decode cL_law 90 = .ok (.aload_n 1, 1) := by decide +kernel
theorem dL_law_91 : decode cL_law 91 = .ok (.bipush 102, 2) := by decide +kernel
theorem dL_law_93 : decode cL_law 93 = .ok (.iconst 1, 1) := by decide +kernel
theorem dL_law_94 : decode cL_law 94 = .ok (.invokestatic 218, 3) := by decide +kernel
theorem dL_law_97 : decode cL_law 97 = .ok (.iconst (-1), 1) := by decide +kernel
theorem dL_law_98 : decode cL_law 98 = .ok (.if_icmp .ne 218, 3) := by decide +kernel
theorem dL_law_101 : decode cL_law 101 = .ok (.aload_n 1, 1) := by decide +kernel
theorem dL_law_102 : decode cL_law 102 = .ok (.iconst 1, 1) := by decide +kernel
theorem dL_law_103 : decode cL_law 103 = .ok (.bipush 102, 2) := by decide +kernel
theorem dL_law_105 : decode cL_law 105 = .ok (.iconst 0, 1) := by decide +kernel
theorem dL_law_106 : decode cL_law 106 = .ok (.invokestatic 221, 3) := by decide +kernel
theorem dL_law_109 : decode cL_law 109 = .ok (.iconst (-1), 1) := by decide +kernel
theorem dL_law_110 : decode cL_law 110 = .ok (.if_icmp .ne 206, 3) := by decide +kernel
theorem dL_law_113 : decode cL_law 113 = .ok (.aload_n 1, 1) := by decide +kernel
theorem dL_law_114 : decode cL_law 114 = .ok (.iconst 0, 1) := by decide +kernel
theorem dL_law_115 : decode cL_law 115 = .ok (.bipush 100, 2) := by decide +kernel
theorem dL_law_117 : decode cL_law 117 = .ok (.bipush 9, 2) := by decide +kernel
theorem dL_law_119 : decode cL_law 119 = .ok (.invokestatic 221, 3) := by decide +kernel
theorem dL_law_122 : decode cL_law 122 = .ok (.bipush (-2), 2) := by decide +kernel
theorem dL_law_124 : decode cL_law 124 = .ok (.if_icmp .ne 192, 3) := by decide +kernel
theorem dL_law_127 : decode cL_law 127 = .ok (.aload_n 1, 1) := by decide +kernel
theorem dL_law_128 : decode cL_law 128 = .ok (.iconst 0, 1) := by decide +kernel
theorem dL_law_129 : decode cL_law 129 = .ok (.invokestatic 224, 3) := by decide +kernel
theorem dL_law_132 : decode cL_law 132 = .ok (.iconst (-1), 1) := by decide +kernel
theorem dL_law_133 : decode cL_law 133 = .ok (.if_icmp .ne 183, 3) := by decide +kernel
theorem dL_law_136 : decode cL_law 136 = .ok (.aload_n 1, 1) := by decide +kernel
theorem dL_law_137 : decode cL_law 137 = .ok (.iconst 4, 1) := by decide +kernel
theorem dL_law_138 : decode cL_law 138 = .ok (.iconst 2, 1) := by decide +kernel
theorem dL_law_139 : decode cL_law 139 = .ok (.iconst 1, 1) := by decide +kernel
theorem dL_law_140 : decode cL_law 140 = .ok (.iconst 1, 1) := by decide +kernel
theorem dL_law_141 : decode cL_law 141 = .ok (.invokestatic 229, 3) := by decide +kernel
theorem dL_law_144 : decode cL_law 144 = .ok (.iconst (-1), 1) := by decide +kernel
theorem dL_law_145 : decode cL_law 145 = .ok (.if_icmp .ne 171, 3) := by decide +kernel
theorem dL_law_148 : decode cL_law 148 = .ok (.aload_n 1, 1) := by decide +kernel
theorem dL_law_149 : decode cL_law 149 = .ok (.iconst 0, 1) := by decide +kernel
theorem dL_law_150 : decode cL_law 150 = .ok (.bipush 21, 2) := by decide +kernel
theorem dL_law_152 : decode cL_law 152 = .ok (.iconst 1, 1) := by decide +kernel
theorem dL_law_153 : decode cL_law 153 = .ok (.iconst 1, 1) := by decide +kernel
theorem dL_law_154 : decode cL_law 154 = .ok (.invokestatic 229, 3) := by decide +kernel
theorem dL_law_157 : decode cL_law 157 = .ok (.bipush (-2), 2) := by decide +kernel
theorem dL_law_159 : decode cL_law 159 = .ok (.if_icmp .ne 157, 3) := by decide +kernel
theorem dL_law_162 : decode cL_law 162 = .ok (.aload_n 1, 1) := by decide +kernel
theorem dL_law_163 : decode cL_law 163 = .ok (.iconst 0, 1) := by decide +kernel
theorem dL_law_164 : decode cL_law 164 = .ok (.iconst 2, 1) := by decide +kernel
theorem dL_law_165 : decode cL_law 165 = .ok (.iconst 1, 1) := by decide +kernel
theorem dL_law_166 : decode cL_law 166 = .ok (.bipush 41, 2) := by decide +kernel
theorem dL_law_168 : decode cL_law 168 = .ok (.invokestatic 229, 3) := by decide +kernel
theorem dL_law_171 : decode cL_law 171 = .ok (.bipush (-2), 2) := by decide +kernel
theorem dL_law_173 : decode cL_law 173 = .ok (.if_icmp .ne 143, 3) := by decide +kernel
theorem dL_law_176 : decode cL_law 176 = .ok (.aload_n 1, 1) := by decide +kernel
theorem dL_law_177 : decode cL_law 177 = .ok (.iconst 0, 1) := by decide +kernel
theorem dL_law_178 : decode cL_law 178 = .ok (.invokestatic 232, 3) := by decide +kernel
theorem dL_law_181 : decode cL_law 181 = .ok (.bipush (-2), 2) := by decide +kernel
theorem dL_law_183 : decode cL_law 183 = .ok (.if_icmp .ne 133, 3) := by decide +kernel
theorem dL_law_186 : decode cL_law 186 = .ok (.aload_n 1, 1) := by decide +kernel
theorem dL_law_187 : decode cL_law 187 = .ok (.bipush 10, 2) := by decide +kernel
theorem dL_law_189 : decode cL_law 189 = .ok (.invokestatic 234, 3) := by decide +kernel
theorem dL_law_192 : decode cL_law 192 = .ok (.iconst (-1), 1) := by decide +kernel
theorem dL_law_193 : decode cL_law 193 = .ok (.if_icmp .ne 123, 3) := by decide +kernel
theorem dL_law_196 : decode cL_law 196 = .ok (.aload_n 1, 1) := by decide +kernel
theorem dL_law_197 : decode cL_law 197 = .ok (.iconst 0, 1) := by decide +kernel
theorem dL_law_198 : decode cL_law 198 = .ok (.iconst 1, 1) := by decide +kernel
theorem dL_law_199 : decode cL_law 199 = .ok (.invokestatic 236, 3) := by decide +kernel
theorem dL_law_202 : decode cL_law 202 = .ok (.iconst (-1), 1) := by decide +kernel
theorem dL_law_203 : decode cL_law 203 = .ok (.if_icmp .ne 113, 3) := by decide +kernel
theorem dL_law_206 : decode cL_law 206 = .ok (.aload_n 1, 1) := by decide +kernel
theorem dL_law_207 : decode cL_law 207 = .ok (.iconst 4, 1) := by decide +kernel
theorem dL_law_208 : decode cL_law 208 = .ok (.invokestatic 240, 3) := by decide +kernel
theorem dL_law_211 : decode cL_law 211 = .ok (.iconst (-1), 1) := by decide +kernel
theorem dL_law_212 : decode cL_law 212 = .ok (.if_icmp .ne 104, 3) := by decide +kernel
theorem dL_law_215 : decode cL_law 215 = .ok (.aload_n 1, 1) := by decide +kernel
theorem dL_law_216 : decode cL_law 216 = .ok (.iconst 0, 1) := by decide +kernel
theorem dL_law_217 : decode cL_law 217 = .ok (.invokestatic 240, 3) := by decide +kernel
theorem dL_law_220 : decode cL_law 220 = .ok (.bipush (-2), 2) := by decide +kernel
theorem dL_law_222 : decode cL_law 222 = .ok (.if_icmp .ne 94, 3) := by decide +kernel
theorem dL_law_225 : decode cL_law 225 = .ok (.aload_n 1, 1) := by decide +kernel
theorem dL_law_226 : decode cL_law 226 = .ok (.iconst 0, 1) := by decide +kernel
theorem dL_law_227 : decode cL_law 227 = .ok (.iconst 1, 1) := by decide +kernel
theorem dL_law_228 : decode cL_law 228 = .ok (.invokestatic 238, 3) := by decide +kernel
theorem dL_law_231 : decode cL_law 231 = .ok (.iconst (-1), 1) := by decide +kernel
theorem dL_law_232 : decode cL_law 232 = .ok (.if_icmp .ne 84, 3) := by decide +kernel
theorem dL_law_235 : decode cL_law 235 = .ok (.aload_n 1, 1) := by decide +kernel
theorem dL_law_236 : decode cL_law 236 = .ok (.iconst 0, 1) := by decide +kernel
theorem dL_law_237 : decode cL_law 237 = .ok (.invokestatic 305, 3) := by decide +kernel
theorem dL_law_240 : decode cL_law 240 = .ok (.bipush (-2), 2) := by decide +kernel
theorem dL_law_242 : decode cL_law 242 = .ok (.if_icmp .ne 74, 3) := by decide +kernel
theorem dL_law_245 : decode cL_law 245 = .ok (.aload_n 1, 1) := by decide +kernel
theorem dL_law_246 : decode cL_law 246 = .ok (.iconst 0, 1) := by decide +kernel
theorem dL_law_247 : decode cL_law 247 = .ok (.invokestatic 307, 3) := by decide +kernel
theorem dL_law_250 : decode cL_law 250 = .ok (.lconst 0, 1) := by decide +kernel
theorem dL_law_251 : decode cL_law 251 = .ok (.lcmp, 1) := by decide +kernel
theorem dL_law_252 : decode cL_law 252 = .ok (.ifCond .ne 64, 3) := by decide +kernel
theorem dL_law_255 : decode cL_law 255 = .ok (.aload_n 1, 1) := by decide +kernel
theorem dL_law_256 : decode cL_law 256 = .ok (.iconst 0, 1) := by decide +kernel
theorem dL_law_257 : decode cL_law 257 = .ok (.invokestatic 351, 3) := by decide +kernel
theorem dL_law_260 : decode cL_law 260 = .ok (.ifCond .ne 56, 3) := by decide +kernel
theorem dL_law_263 : decode cL_law 263 = .ok (.aload_n 1, 1) := by decide +kernel
theorem dL_law_264 : decode cL_law 264 = .ok (.invokestatic 339, 3) := by decide +kernel
theorem dL_law_267 : decode cL_law 267 = .ok (.ldc 148, 2) := by decide +kernel
theorem dL_law_269 : decode cL_law 269 = .ok (.fcmp .l, 1) := by decide +kernel
theorem dL_law_270 : decode cL_law 270 = .ok (.ifCond .ne 46, 3) := by decide +kernel
theorem dL_law_273 : decode cL_law 273 = .ok (.aload_n 1, 1) := by decide +kernel
theorem dL_law_274 : decode cL_law 274 = .ok (.iconst 0, 1) := by decide +kernel
theorem dL_law_275 : decode cL_law 275 = .ok (.invokestatic 312, 3) := by decide +kernel
theorem dL_law_278 : decode cL_law 278 = .ok (.ldc2_w 142, 3) := by decide +kernel
theorem dL_law_281 : decode cL_law 281 = .ok (.dcmp .l, 1) := by decide +kernel
theorem dL_law_282 : decode cL_law 282 = .ok (.ifCond .ne 34, 3) := by decide +kernel
theorem dL_law_285 : decode cL_law 285 = .ok (.aload_n 1, 1) := by decide +kernel
theorem dL_law_286 : decode cL_law 286 = .ok (.invokevirtual 342, 3) := by decide +kernel
theorem dL_law_289 : decode cL_law 289 = .ok (.ifCond .ne 27, 3) := by decide +kernel
theorem dL_law_292 : decode cL_law 292 = .ok (.aload_n 1, 1) := by decide +kernel
theorem dL_law_293 : decode cL_law 293 = .ok (.bipush 127, 2) := by decide +kernel
theorem dL_law_295 : decode cL_law 295 = .ok (.invokestatic 178, 3) := by decide +kernel
theorem dL_law_298 : decode cL_law 298 = .ok (.iconst (-1), 1) := by decide +kernel
theorem dL_law_299 : decode cL_law 299 = .ok (.if_icmp .ne 17, 3) := by decide +kernel
theorem dL_law_302 : decode cL_law 302 = .ok (.aload_n 1, 1) := by decide +kernel
theorem dL_law_303 : decode cL_law 303 = .ok (.invokevirtual 242, 3) := by decide +kernel
theorem dL_law_306 : decode cL_law 306 = .ok (.ifCond .ne 10, 3) := by decide +kernel
theorem dL_law_309 : decode cL_law 309 = .ok (.aload_n 1, 1) := by decide +kernel
theorem dL_law_310 : decode cL_law 310 = .ok (.invokevirtual 367, 3) := by decide +kernel
theorem dL_law_313 : decode cL_law 313 = .ok (.ifCond .ne 5, 3) := by decide +kernel
theorem dL_law_316 : decode cL_law 316 = .ok (.iconst 0, 1) := by decide +kernel
theorem dL_law_317 : decode cL_law 317 = .ok (.ireturn, 1) := by decide +kernel
theorem dL_law_318 : decode cL_law 318 = .ok (.aload_n 1, 1) := by decide +kernel
theorem dL_law_319 : decode cL_law 319 = .ok (.invokestatic 371, 3) := by decide +kernel
theorem dL_law_322 : decode cL_law 322 = .ok (.istore_n 3, 1) := by decide +kernel
theorem dL_law_323 : decode cL_law 323 = .ok (.iconst 0, 1) := by decide +kernel
theorem dL_law_324 : decode cL_law 324 = .ok (.istore 4, 2) := by decide +kernel
theorem dL_law_326 : decode cL_law 326 = .ok (.iload 4, 2) := by decide +kernel
theorem dL_law_328 : decode cL_law 328 = .ok (.bipush 16, 2) := by decide +kernel
theorem dL_law_330 : decode cL_law 330 = .ok (.if_icmp .ge 178, 3) := by decide +kernel
theorem dL_law_333 : decode cL_law 333 = .ok (.aload_n 0, 1) := by decide +kernel
theorem dL_law_334 : decode cL_law 334 = .ok (.iload_n 2, 1) := by decide +kernel
theorem dL_law_335 : decode cL_law 335 = .ok (.invokestatic 374, 3) := by decide +kernel
theorem dL_law_338 : decode cL_law 338 = .ok (.sipush 255, 3) := by decide +kernel
theorem dL_law_341 : decode cL_law 341 = .ok (.iand, 1) := by decide +kernel
theorem dL_law_342 : decode cL_law 342 = .ok (.istore 5, 2) := by decide +kernel
theorem dL_law_344 : decode cL_law 344 = .ok (.new 182, 3) := by decide +kernel
theorem dL_law_347 : decode cL_law 347 = .ok (.dup, 1) := by decide +kernel
theorem dL_law_348 : decode cL_law 348 = .ok (.aload_n 0, 1) := by decide +kernel
theorem dL_law_349 : decode cL_law 349 = .ok (.iload_n 2, 1) := by decide +kernel
theorem dL_law_350 : decode cL_law 350 = .ok (.iconst 1, 1) := by decide +kernel
theorem dL_law_351 : decode cL_law 351 = .ok (.iadd, 1) := by decide +kernel
theorem dL_law_352 : decode cL_law 352 = .ok (.invokestatic 374, 3) := by decide +kernel
theorem dL_law_355 : decode cL_law 355 = .ok (.invokespecial 378, 3) := by decide +kernel
theorem dL_law_358 : decode cL_law 358 = .ok (.astore 6, 2) := by decide +kernel
theorem dL_law_360 : decode cL_law 360 = .ok (.iinc 2 2, 3) := by decide +kernel
theorem dL_law_363 : decode cL_law 363 = .ok (.aload_n 1, 1) := by decide +kernel
theorem dL_law_364 : decode cL_law 364 = .ok (.invokestatic 381, 3) := by decide +kernel
theorem dL_law_367 : decode cL_law 367 = .ok (.astore 7, 2) := by decide +kernel
theorem dL_law_369 : decode cL_law 369 = .ok (.aload_n 1, 1) := by decide +kernel
theorem dL_law_370 : decode cL_law 370 = .ok (.iload 5, 2) := by decide +kernel
theorem dL_law_372 : decode cL_law 372 = .ok (.aload 6, 2) := by decide +kernel
theorem dL_law_374 : decode cL_law 374 = .ok (.invokestatic 385, 3) := by decide +kernel
theorem dL_law_377 : decode cL_law 377 = .ok (.istore 8, 2) := by decide +kernel
theorem dL_law_379 : decode cL_law 379 = .ok (.iload 8, 2) := by decide +kernel
theorem dL_law_381 : decode cL_law 381 = .ok (.ifCond .ge 17, 3) := by decide +kernel
theorem dL_law_384 : decode cL_law 384 = .ok (.aload 7, 2) := by decide +kernel
theorem dL_law_386 : decode cL_law 386 = .ok (.aload_n 1, 1) := by decide +kernel
theorem dL_law_387 : decode cL_law 387 = .ok (.invokestatic 381, 3) := by decide +kernel
theorem dL_law_390 : decode cL_law 390 = .ok (.invokevirtual 333, 3) := by decide +kernel
theorem dL_law_393 : decode cL_law 393 = .ok (.ifCond .ne 5, 3) := by decide +kernel
theorem dL_law_396 : decode cL_law 396 = .ok (.iconst 0, 1) := by decide +kernel
theorem dL_law_397 : decode cL_law 397 = .ok (.ireturn, 1) := by decide +kernel
theorem dL_law_398 : decode cL_law 398 = .ok (.iload 8, 2) := by decide +kernel
theorem dL_law_400 : decode cL_law 400 = .ok (.ifCond .lt 33, 3) := by decide +kernel
theorem dL_law_403 : decode cL_law 403 = .ok (.aload 6, 2) := by decide +kernel
theorem dL_law_405 : decode cL_law 405 = .ok (.iconst 4, 1) := by decide +kernel
theorem dL_law_406 : decode cL_law 406 = .ok (.invokevirtual 181, 3) := by decide +kernel
theorem dL_law_409 : decode cL_law 409 = .ok (.ifCond .ne 24, 3) := by decide +kernel
theorem dL_law_412 : decode cL_law 412 = .ok (.aload_n 1, 1) := by decide +kernel
theorem dL_law_413 : decode cL_law 413 = .ok (.invokestatic 359, 3) := by decide +kernel
theorem dL_law_416 : decode cL_law 416 = .ok (.ifCond .lt 15, 3) := by decide +kernel
theorem dL_law_419 : decode cL_law 419 = .ok (.aload 7, 2) := by decide +kernel
theorem dL_law_421 : decode cL_law 421 = .ok (.aload_n 1, 1) := by decide +kernel
theorem dL_law_422 : decode cL_law 422 = .ok (.invokestatic 381, 3) := by decide +kernel
theorem dL_law_425 : decode cL_law 425 = .ok (.invokevirtual 333, 3) := by decide +kernel
theorem dL_law_428 : decode cL_law 428 = .ok (.ifCond .ne 5, 3) := by decide +kernel
theorem dL_law_431 : decode cL_law 431 = .ok (.iconst 0, 1) := by decide +kernel
theorem dL_law_432 : decode cL_law 432 = .ok (.ireturn, 1) := by decide +kernel
theorem dL_law_433 : decode cL_law 433 = .ok (.aload_n 1, 1) := by decide +kernel
theorem dL_law_434 : decode cL_law 434 = .ok (.aload 6, 2) := by decide +kernel
theorem dL_law_436 : decode cL_law 436 = .ok (.iconst 3, 1) := by decide +kernel
theorem dL_law_437 : decode cL_law 437 = .ok (.invokevirtual 181, 3) := by decide +kernel
theorem dL_law_440 : decode cL_law 440 = .ok (.aload 6, 2) := by decide +kernel
theorem dL_law_442 : decode cL_law 442 = .ok (.invokestatic 389, 3) := by decide +kernel
theorem dL_law_445 : decode cL_law 445 = .ok (.ifCond .eq 10, 3) := by decide +kernel
theorem dL_law_448 : decode cL_law 448 = .ok (.aload_n 1, 1) := by decide +kernel
theorem dL_law_449 : decode cL_law 449 = .ok (.invokestatic 393, 3) := by decide +kernel
theorem dL_law_452 : decode cL_law 452 = .ok (.ifCond .ne 5, 3) := by decide +kernel
theorem dL_law_455 : decode cL_law 455 = .ok (.iconst 0, 1) := by decide +kernel
theorem dL_law_456 : decode cL_law 456 = .ok (.ireturn, 1) := by decide +kernel
theorem dL_law_457 : decode cL_law 457 = .ok (.iload 4, 2) := by decide +kernel
theorem dL_law_459 : decode cL_law 459 = .ok (.iconst 3, 1) := by decide +kernel
theorem dL_law_460 : decode cL_law 460 = .ok (.irem, 1) := by decide +kernel
theorem dL_law_461 : decode cL_law 461 = .ok (.iconst 2, 1) := by decide +kernel
theorem dL_law_462 : decode cL_law 462 = .ok (.if_icmp .ne 40, 3) := by decide +kernel
theorem dL_law_465 : decode cL_law 465 = .ok (.aload_n 1, 1) := by decide +kernel
theorem dL_law_466 : decode cL_law 466 = .ok (.invokestatic 381, 3) := by decide +kernel
theorem dL_law_469 : decode cL_law 469 = .ok (.astore 7, 2) := by decide +kernel
theorem dL_law_471 : decode cL_law 471 = .ok (.aload_n 1, 1) := by decide +kernel
theorem dL_law_472 : decode cL_law 472 = .ok (.aload 6, 2) := by decide +kernel
theorem dL_law_474 : decode cL_law 474 = .ok (.invokestatic 397, 3) := by decide +kernel
theorem dL_law_477 : decode cL_law 477 = .ok (.ifCond .eq 23, 3) := by decide +kernel
theorem dL_law_480 : decode cL_law 480 = .ok (.aload 7, 2) := by decide +kernel
theorem dL_law_482 : decode cL_law 482 = .ok (.aload_n 1, 1) := by decide +kernel
theorem dL_law_483 : decode cL_law 483 = .ok (.invokestatic 381, 3) := by decide +kernel
theorem dL_law_486 : decode cL_law 486 = .ok (.invokevirtual 333, 3) := by decide +kernel
theorem dL_law_489 : decode cL_law 489 = .ok (.ifCond .eq 11, 3) := by decide +kernel
theorem dL_law_492 : decode cL_law 492 = .ok (.aload_n 1, 1) := by decide +kernel
theorem dL_law_493 : decode cL_law 493 = .ok (.invokestatic 359, 3) := by decide +kernel
theorem dL_law_496 : decode cL_law 496 = .ok (.iconst (-1), 1) := by decide +kernel
theorem dL_law_497 : decode cL_law 497 = .ok (.if_icmp .eq 5, 3) := by decide +kernel
theorem dL_law_500 : decode cL_law 500 = .ok (.iconst 0, 1) := by decide +kernel
theorem dL_law_501 : decode cL_law 501 = .ok (.ireturn, 1) := by decide +kernel
theorem dL_law_502 : decode cL_law 502 = .ok (.iinc 4 1, 3) := by decide +kernel
theorem dL_law_505 : decode cL_law 505 = .ok (.goto (-179), 3) := by decide +kernel
theorem dL_law_508 : decode cL_law 508 = .ok (.iload_n 3, 1) := by decide +kernel
theorem dL_law_509 : decode cL_law 509 = .ok (.ifCond .le 7, 3) := by decide +kernel
theorem dL_law_512 : decode cL_law 512 = .ok (.iconst 1, 1) := by decide +kernel
theorem dL_law_513 : decode cL_law 513 = .ok (.goto 4, 3) := by decide +kernel
theorem dL_law_516 : decode cL_law 516 = .ok (.iconst 0, 1) := by decide +kernel
theorem dL_law_517 : decode cL_law 517 = .ok (.ireturn, 1) := by decide +kernel
