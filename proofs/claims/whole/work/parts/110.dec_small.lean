theorem d_JI_bitCount_0 : decode b_JI_bitCount 0 = .ok (.iload_n 0, 1) := by decide +kernel
theorem d_JI_bitCount_1 : decode b_JI_bitCount 1 = .ok (.iload_n 0, 1) := by decide +kernel
theorem d_JI_bitCount_2 : decode b_JI_bitCount 2 = .ok (.iconst 1, 1) := by decide +kernel
theorem d_JI_bitCount_3 : decode b_JI_bitCount 3 = .ok (.iushr, 1) := by decide +kernel
theorem d_JI_bitCount_4 : decode b_JI_bitCount 4 = .ok (.ldc_w 265, 3) := by decide +kernel
theorem d_JI_bitCount_7 : decode b_JI_bitCount 7 = .ok (.iand, 1) := by decide +kernel
theorem d_JI_bitCount_8 : decode b_JI_bitCount 8 = .ok (.isub, 1) := by decide +kernel
theorem d_JI_bitCount_9 : decode b_JI_bitCount 9 = .ok (.istore_n 0, 1) := by decide +kernel
theorem d_JI_bitCount_10 : decode b_JI_bitCount 10 = .ok (.iload_n 0, 1) := by decide +kernel
theorem d_JI_bitCount_11 : decode b_JI_bitCount 11 = .ok (.ldc_w 266, 3) := by decide +kernel
theorem d_JI_bitCount_14 : decode b_JI_bitCount 14 = .ok (.iand, 1) := by decide +kernel
theorem d_JI_bitCount_15 : decode b_JI_bitCount 15 = .ok (.iload_n 0, 1) := by decide +kernel
theorem d_JI_bitCount_16 : decode b_JI_bitCount 16 = .ok (.iconst 2, 1) := by decide +kernel
theorem d_JI_bitCount_17 : decode b_JI_bitCount 17 = .ok (.iushr, 1) := by decide +kernel
theorem d_JI_bitCount_18 : decode b_JI_bitCount 18 = .ok (.ldc_w 266, 3) := by decide +kernel
theorem d_JI_bitCount_21 : decode b_JI_bitCount 21 = .ok (.iand, 1) := by decide +kernel
theorem d_JI_bitCount_22 : decode b_JI_bitCount 22 = .ok (.iadd, 1) := by decide +kernel
theorem d_JI_bitCount_23 : decode b_JI_bitCount 23 = .ok (.istore_n 0, 1) := by decide +kernel
theorem d_JI_bitCount_24 : decode b_JI_bitCount 24 = .ok (.iload_n 0, 1) := by decide +kernel
theorem d_JI_bitCount_25 : decode b_JI_bitCount 25 = .ok (.iload_n 0, 1) := by decide +kernel
theorem d_JI_bitCount_26 : decode b_JI_bitCount 26 = .ok (.iconst 4, 1) := by decide +kernel
theorem d_JI_bitCount_27 : decode b_JI_bitCount 27 = .ok (.iushr, 1) := by decide +kernel
theorem d_JI_bitCount_28 : decode b_JI_bitCount 28 = .ok (.iadd, 1) := by decide +kernel
theorem d_JI_bitCount_29 : decode b_JI_bitCount 29 = .ok (.ldc_w 267, 3) := by decide +kernel
theorem d_JI_bitCount_32 : decode b_JI_bitCount 32 = .ok (.iand, 1) := by decide +kernel
theorem d_JI_bitCount_33 : decode b_JI_bitCount 33 = .ok (.istore_n 0, 1) := by decide +kernel
theorem d_JI_bitCount_34 : decode b_JI_bitCount 34 = .ok (.iload_n 0, 1) := by decide +kernel
theorem d_JI_bitCount_35 : decode b_JI_bitCount 35 = .ok (.iload_n 0, 1) := by decide +kernel
theorem d_JI_bitCount_36 : decode b_JI_bitCount 36 = .ok (.bipush 8, 2) := by decide +kernel
theorem d_JI_bitCount_38 : decode b_JI_bitCount 38 = .ok (.iushr, 1) := by decide +kernel
theorem d_JI_bitCount_39 : decode b_JI_bitCount 39 = .ok (.iadd, 1) := by decide +kernel
theorem d_JI_bitCount_40 : decode b_JI_bitCount 40 = .ok (.istore_n 0, 1) := by decide +kernel
theorem d_JI_bitCount_41 : decode b_JI_bitCount 41 = .ok (.iload_n 0, 1) := by decide +kernel
theorem d_JI_bitCount_42 : decode b_JI_bitCount 42 = .ok (.iload_n 0, 1) := by decide +kernel
theorem d_JI_bitCount_43 : decode b_JI_bitCount 43 = .ok (.bipush 16, 2) := by decide +kernel
theorem d_JI_bitCount_45 : decode b_JI_bitCount 45 = .ok (.iushr, 1) := by decide +kernel
theorem d_JI_bitCount_46 : decode b_JI_bitCount 46 = .ok (.iadd, 1) := by decide +kernel
theorem d_JI_bitCount_47 : decode b_JI_bitCount 47 = .ok (.istore_n 0, 1) := by decide +kernel
theorem d_JI_bitCount_48 : decode b_JI_bitCount 48 = .ok (.iload_n 0, 1) := by decide +kernel
theorem d_JI_bitCount_49 : decode b_JI_bitCount 49 = .ok (.bipush 63, 2) := by decide +kernel
theorem d_JI_bitCount_51 : decode b_JI_bitCount 51 = .ok (.iand, 1) := by decide +kernel
theorem d_JI_bitCount_52 : decode b_JI_bitCount 52 = .ok (.ireturn, 1) := by decide +kernel
theorem d_A_bodyOf_0 : decode b_A_bodyOf 0 = .ok (.aload_n 0, 1) := by decide +kernel
theorem d_A_bodyOf_1 : decode b_A_bodyOf 1 = .ok (.getfield 19, 3) := by decide +kernel
theorem d_A_bodyOf_4 : decode b_A_bodyOf 4 = .ok (.iconst 4, 1) := by decide +kernel
theorem d_A_bodyOf_5 : decode b_A_bodyOf 5 = .ok (.imul, 1) := by decide +kernel
theorem d_A_bodyOf_6 : decode b_A_bodyOf 6 = .ok (.iload_n 1, 1) := by decide +kernel
theorem d_A_bodyOf_7 : decode b_A_bodyOf 7 = .ok (.iadd, 1) := by decide +kernel
theorem d_A_bodyOf_8 : decode b_A_bodyOf 8 = .ok (.istore_n 2, 1) := by decide +kernel
theorem d_A_bodyOf_9 : decode b_A_bodyOf 9 = .ok (.iload_n 2, 1) := by decide +kernel
theorem d_A_bodyOf_10 : decode b_A_bodyOf 10 = .ok (.ifCond .lt 19, 3) := by decide +kernel
theorem d_A_bodyOf_13 : decode b_A_bodyOf 13 = .ok (.iload_n 2, 1) := by decide +kernel
theorem d_A_bodyOf_14 : decode b_A_bodyOf 14 = .ok (.getstatic 40, 3) := by decide +kernel
theorem d_A_bodyOf_17 : decode b_A_bodyOf 17 = .ok (.arraylength, 1) := by decide +kernel
theorem d_A_bodyOf_18 : decode b_A_bodyOf 18 = .ok (.if_icmp .ge 11, 3) := by decide +kernel
theorem d_A_bodyOf_21 : decode b_A_bodyOf 21 = .ok (.getstatic 40, 3) := by decide +kernel
theorem d_A_bodyOf_24 : decode b_A_bodyOf 24 = .ok (.iload_n 2, 1) := by decide +kernel
theorem d_A_bodyOf_25 : decode b_A_bodyOf 25 = .ok (.iaload, 1) := by decide +kernel
theorem d_A_bodyOf_26 : decode b_A_bodyOf 26 = .ok (.goto 4, 3) := by decide +kernel
theorem d_A_bodyOf_29 : decode b_A_bodyOf 29 = .ok (.iconst 0, 1) := by decide +kernel
theorem d_A_bodyOf_30 : decode b_A_bodyOf 30 = .ok (.ireturn, 1) := by decide +kernel
theorem d_A_partedBy_0 : decode b_A_partedBy 0 = .ok (.iload_n 2, 1) := by decide +kernel
theorem d_A_partedBy_1 : decode b_A_partedBy 1 = .ok (.ifCond .ne 10, 3) := by decide +kernel
theorem d_A_partedBy_4 : decode b_A_partedBy 4 = .ok (.aload_n 0, 1) := by decide +kernel
theorem d_A_partedBy_5 : decode b_A_partedBy 5 = .ok (.iconst 1, 1) := by decide +kernel
theorem d_A_partedBy_6 : decode b_A_partedBy 6 = .ok (.putfield 28, 3) := by decide +kernel
theorem d_A_partedBy_9 : decode b_A_partedBy 9 = .ok (.iconst 0, 1) := by decide +kernel
theorem d_A_partedBy_10 : decode b_A_partedBy 10 = .ok (.ireturn, 1) := by decide +kernel
theorem d_A_partedBy_11 : decode b_A_partedBy 11 = .ok (.iload_n 1, 1) := by decide +kernel
theorem d_A_partedBy_12 : decode b_A_partedBy 12 = .ok (.iload_n 2, 1) := by decide +kernel
theorem d_A_partedBy_13 : decode b_A_partedBy 13 = .ok (.idiv, 1) := by decide +kernel
theorem d_A_partedBy_14 : decode b_A_partedBy 14 = .ok (.ireturn, 1) := by decide +kernel
theorem d_A_run_0 : decode b_A_run 0 = .ok (.iload_n 3, 1) := by decide +kernel
theorem d_A_run_1 : decode b_A_run 1 = .ok (.bipush 30, 2) := by decide +kernel
theorem d_A_run_3 : decode b_A_run 3 = .ok (.if_icmp .gt 10, 3) := by decide +kernel
theorem d_A_run_6 : decode b_A_run 6 = .ok (.aload_n 0, 1) := by decide +kernel
theorem d_A_run_7 : decode b_A_run 7 = .ok (.getfield 28, 3) := by decide +kernel
theorem d_A_run_10 : decode b_A_run 10 = .ok (.ifCond .eq 5, 3) := by decide +kernel
theorem d_A_run_13 : decode b_A_run 13 = .ok (.iconst 0, 1) := by decide +kernel
theorem d_A_run_14 : decode b_A_run 14 = .ok (.ireturn, 1) := by decide +kernel
theorem d_A_run_15 : decode b_A_run 15 = .ok (.aload_n 0, 1) := by decide +kernel
theorem d_A_run_16 : decode b_A_run 16 = .ok (.getfield 15, 3) := by decide +kernel
theorem d_A_run_19 : decode b_A_run 19 = .ok (.bipush 30, 2) := by decide +kernel
theorem d_A_run_21 : decode b_A_run 21 = .ok (.if_icmp .ge 23, 3) := by decide +kernel
theorem d_A_run_24 : decode b_A_run 24 = .ok (.aload_n 0, 1) := by decide +kernel
theorem d_A_run_25 : decode b_A_run 25 = .ok (.getfield 9, 3) := by decide +kernel
theorem d_A_run_28 : decode b_A_run 28 = .ok (.aload_n 0, 1) := by decide +kernel
theorem d_A_run_29 : decode b_A_run 29 = .ok (.getfield 15, 3) := by decide +kernel
theorem d_A_run_32 : decode b_A_run 32 = .ok (.iload_n 1, 1) := by decide +kernel
theorem d_A_run_33 : decode b_A_run 33 = .ok (.iastore, 1) := by decide +kernel
theorem d_A_run_34 : decode b_A_run 34 = .ok (.aload_n 0, 1) := by decide +kernel
theorem d_A_run_35 : decode b_A_run 35 = .ok (.dup, 1) := by decide +kernel
theorem d_A_run_36 : decode b_A_run 36 = .ok (.getfield 15, 3) := by decide +kernel
theorem d_A_run_39 : decode b_A_run 39 = .ok (.iconst 1, 1) := by decide +kernel
theorem d_A_run_40 : decode b_A_run 40 = .ok (.iadd, 1) := by decide +kernel
theorem d_A_run_41 : decode b_A_run 41 = .ok (.putfield 15, 3) := by decide +kernel
theorem d_A_run_44 : decode b_A_run 44 = .ok (.iload_n 3, 1) := by decide +kernel
theorem d_A_run_45 : decode b_A_run 45 = .ok (.iconst 1, 1) := by decide +kernel
theorem d_A_run_46 : decode b_A_run 46 = .ok (.iadd, 1) := by decide +kernel
theorem d_A_run_47 : decode b_A_run 47 = .ok (.istore 4, 2) := by decide +kernel
theorem d_A_run_49 : decode b_A_run 49 = .ok (.iload_n 1, 1) := by decide +kernel
theorem d_A_run_50 : decode b_A_run 50 = .ok (.tableswitch 442 10 61 #[222, 231, 251, 266, 442, 442, 442, 442, 442, 442, 283, 442, 442, 442, 442, 442, 442, 442, 442, 442, 295, 307, 442, 442, 442, 442, 442, 442, 442, 442, 333, 345, 442, 442, 442, 442, 442, 442, 442, 442, 371, 391, 442, 442, 442, 442, 442, 442, 442, 442, 404, 416], 222) := by decide +kernel
theorem d_A_run_272 : decode b_A_run 272 = .ok (.iload_n 2, 1) := by decide +kernel
theorem d_A_run_273 : decode b_A_run 273 = .ok (.iconst 3, 1) := by decide +kernel
theorem d_A_run_274 : decode b_A_run 274 = .ok (.imul, 1) := by decide +kernel
theorem d_A_run_275 : decode b_A_run 275 = .ok (.aload_n 0, 1) := by decide +kernel
theorem d_A_run_276 : decode b_A_run 276 = .ok (.getfield 22, 3) := by decide +kernel
theorem d_A_run_279 : decode b_A_run 279 = .ok (.iadd, 1) := by decide +kernel
theorem d_A_run_280 : decode b_A_run 280 = .ok (.ireturn, 1) := by decide +kernel
theorem d_A_run_281 : decode b_A_run 281 = .ok (.aload_n 0, 1) := by decide +kernel
theorem d_A_run_282 : decode b_A_run 282 = .ok (.aload_n 0, 1) := by decide +kernel
theorem d_A_run_283 : decode b_A_run 283 = .ok (.iconst 0, 1) := by decide +kernel
theorem d_A_run_284 : decode b_A_run 284 = .ok (.invokevirtual 32, 3) := by decide +kernel
theorem d_A_run_287 : decode b_A_run 287 = .ok (.iload_n 2, 1) := by decide +kernel
theorem d_A_run_288 : decode b_A_run 288 = .ok (.iload 4, 2) := by decide +kernel
theorem d_A_run_290 : decode b_A_run 290 = .ok (.invokevirtual 36, 3) := by decide +kernel
theorem d_A_run_293 : decode b_A_run 293 = .ok (.aload_n 0, 1) := by decide +kernel
theorem d_A_run_294 : decode b_A_run 294 = .ok (.getfield 25, 3) := by decide +kernel
theorem d_A_run_297 : decode b_A_run 297 = .ok (.iconst 2, 1) := by decide +kernel
theorem d_A_run_298 : decode b_A_run 298 = .ok (.imul, 1) := by decide +kernel
theorem d_A_run_299 : decode b_A_run 299 = .ok (.isub, 1) := by decide +kernel
theorem d_A_run_300 : decode b_A_run 300 = .ok (.ireturn, 1) := by decide +kernel
theorem d_A_run_301 : decode b_A_run 301 = .ok (.aload_n 0, 1) := by decide +kernel
theorem d_A_run_302 : decode b_A_run 302 = .ok (.iload_n 2, 1) := by decide +kernel
theorem d_A_run_303 : decode b_A_run 303 = .ok (.aload_n 0, 1) := by decide +kernel
theorem d_A_run_304 : decode b_A_run 304 = .ok (.getfield 25, 3) := by decide +kernel
theorem d_A_run_307 : decode b_A_run 307 = .ok (.aload_n 0, 1) := by decide +kernel
theorem d_A_run_308 : decode b_A_run 308 = .ok (.getfield 22, 3) := by decide +kernel
theorem d_A_run_311 : decode b_A_run 311 = .ok (.isub, 1) := by decide +kernel
theorem d_A_run_312 : decode b_A_run 312 = .ok (.invokevirtual 43, 3) := by decide +kernel
theorem d_A_run_315 : decode b_A_run 315 = .ok (.ireturn, 1) := by decide +kernel
theorem d_A_run_316 : decode b_A_run 316 = .ok (.aload_n 0, 1) := by decide +kernel
theorem d_A_run_317 : decode b_A_run 317 = .ok (.aload_n 0, 1) := by decide +kernel
theorem d_A_run_318 : decode b_A_run 318 = .ok (.iconst 1, 1) := by decide +kernel
theorem d_A_run_319 : decode b_A_run 319 = .ok (.invokevirtual 32, 3) := by decide +kernel
theorem d_A_run_322 : decode b_A_run 322 = .ok (.iload_n 2, 1) := by decide +kernel
theorem d_A_run_323 : decode b_A_run 323 = .ok (.iload 4, 2) := by decide +kernel
theorem d_A_run_325 : decode b_A_run 325 = .ok (.invokevirtual 36, 3) := by decide +kernel
theorem d_A_run_328 : decode b_A_run 328 = .ok (.sipush 170, 3) := by decide +kernel
theorem d_A_run_331 : decode b_A_run 331 = .ok (.ixor, 1) := by decide +kernel
theorem d_A_run_332 : decode b_A_run 332 = .ok (.ireturn, 1) := by decide +kernel
theorem d_A_run_333 : decode b_A_run 333 = .ok (.iconst 0, 1) := by decide +kernel
theorem d_A_run_334 : decode b_A_run 334 = .ok (.aload_n 0, 1) := by decide +kernel
theorem d_A_run_335 : decode b_A_run 335 = .ok (.bipush 11, 2) := by decide +kernel
theorem d_A_run_337 : decode b_A_run 337 = .ok (.iload_n 2, 1) := by decide +kernel
theorem d_A_run_338 : decode b_A_run 338 = .ok (.iload 4, 2) := by decide +kernel
theorem d_A_run_340 : decode b_A_run 340 = .ok (.invokevirtual 36, 3) := by decide +kernel
theorem d_A_run_343 : decode b_A_run 343 = .ok (.isub, 1) := by decide +kernel
theorem d_A_run_344 : decode b_A_run 344 = .ok (.ireturn, 1) := by decide +kernel
theorem d_A_run_345 : decode b_A_run 345 = .ok (.aload_n 0, 1) := by decide +kernel
theorem d_A_run_346 : decode b_A_run 346 = .ok (.bipush 10, 2) := by decide +kernel
theorem d_A_run_348 : decode b_A_run 348 = .ok (.iload_n 2, 1) := by decide +kernel
theorem d_A_run_349 : decode b_A_run 349 = .ok (.iload 4, 2) := by decide +kernel
theorem d_A_run_351 : decode b_A_run 351 = .ok (.invokevirtual 36, 3) := by decide +kernel
theorem d_A_run_354 : decode b_A_run 354 = .ok (.iconst 4, 1) := by decide +kernel
theorem d_A_run_355 : decode b_A_run 355 = .ok (.iadd, 1) := by decide +kernel
theorem d_A_run_356 : decode b_A_run 356 = .ok (.ireturn, 1) := by decide +kernel
theorem d_A_run_357 : decode b_A_run 357 = .ok (.aload_n 0, 1) := by decide +kernel
theorem d_A_run_358 : decode b_A_run 358 = .ok (.bipush 13, 2) := by decide +kernel
theorem d_A_run_360 : decode b_A_run 360 = .ok (.iload_n 2, 1) := by decide +kernel
theorem d_A_run_361 : decode b_A_run 361 = .ok (.iload 4, 2) := by decide +kernel
theorem d_A_run_363 : decode b_A_run 363 = .ok (.invokevirtual 36, 3) := by decide +kernel
theorem d_A_run_366 : decode b_A_run 366 = .ok (.aload_n 0, 1) := by decide +kernel
theorem d_A_run_367 : decode b_A_run 367 = .ok (.aload_n 0, 1) := by decide +kernel
theorem d_A_run_368 : decode b_A_run 368 = .ok (.iconst 2, 1) := by decide +kernel
theorem d_A_run_369 : decode b_A_run 369 = .ok (.invokevirtual 32, 3) := by decide +kernel
theorem d_A_run_372 : decode b_A_run 372 = .ok (.aload_n 0, 1) := by decide +kernel
theorem d_A_run_373 : decode b_A_run 373 = .ok (.getfield 22, 3) := by decide +kernel
theorem d_A_run_376 : decode b_A_run 376 = .ok (.iload 4, 2) := by decide +kernel
theorem d_A_run_378 : decode b_A_run 378 = .ok (.invokevirtual 36, 3) := by decide +kernel
theorem d_A_run_381 : decode b_A_run 381 = .ok (.isub, 1) := by decide +kernel
theorem d_A_run_382 : decode b_A_run 382 = .ok (.ireturn, 1) := by decide +kernel
theorem d_A_run_383 : decode b_A_run 383 = .ok (.aload_n 0, 1) := by decide +kernel
theorem d_A_run_384 : decode b_A_run 384 = .ok (.bipush 30, 2) := by decide +kernel
theorem d_A_run_386 : decode b_A_run 386 = .ok (.iload_n 2, 1) := by decide +kernel
theorem d_A_run_387 : decode b_A_run 387 = .ok (.iload 4, 2) := by decide +kernel
theorem d_A_run_389 : decode b_A_run 389 = .ok (.invokevirtual 36, 3) := by decide +kernel
theorem d_A_run_392 : decode b_A_run 392 = .ok (.iconst 2, 1) := by decide +kernel
theorem d_A_run_393 : decode b_A_run 393 = .ok (.imul, 1) := by decide +kernel
theorem d_A_run_394 : decode b_A_run 394 = .ok (.ireturn, 1) := by decide +kernel
theorem d_A_run_395 : decode b_A_run 395 = .ok (.aload_n 0, 1) := by decide +kernel
theorem d_A_run_396 : decode b_A_run 396 = .ok (.bipush 11, 2) := by decide +kernel
theorem d_A_run_398 : decode b_A_run 398 = .ok (.iload_n 2, 1) := by decide +kernel
theorem d_A_run_399 : decode b_A_run 399 = .ok (.iload 4, 2) := by decide +kernel
theorem d_A_run_401 : decode b_A_run 401 = .ok (.invokevirtual 36, 3) := by decide +kernel
theorem d_A_run_404 : decode b_A_run 404 = .ok (.aload_n 0, 1) := by decide +kernel
theorem d_A_run_405 : decode b_A_run 405 = .ok (.aload_n 0, 1) := by decide +kernel
theorem d_A_run_406 : decode b_A_run 406 = .ok (.iconst 0, 1) := by decide +kernel
theorem d_A_run_407 : decode b_A_run 407 = .ok (.invokevirtual 32, 3) := by decide +kernel
theorem d_A_run_410 : decode b_A_run 410 = .ok (.aload_n 0, 1) := by decide +kernel
theorem d_A_run_411 : decode b_A_run 411 = .ok (.getfield 25, 3) := by decide +kernel
theorem d_A_run_414 : decode b_A_run 414 = .ok (.iload 4, 2) := by decide +kernel
theorem d_A_run_416 : decode b_A_run 416 = .ok (.invokevirtual 36, 3) := by decide +kernel
theorem d_A_run_419 : decode b_A_run 419 = .ok (.iadd, 1) := by decide +kernel
theorem d_A_run_420 : decode b_A_run 420 = .ok (.ireturn, 1) := by decide +kernel
theorem d_A_run_421 : decode b_A_run 421 = .ok (.aload_n 0, 1) := by decide +kernel
theorem d_A_run_422 : decode b_A_run 422 = .ok (.bipush 12, 2) := by decide +kernel
theorem d_A_run_424 : decode b_A_run 424 = .ok (.iload_n 2, 1) := by decide +kernel
theorem d_A_run_425 : decode b_A_run 425 = .ok (.aload_n 0, 1) := by decide +kernel
theorem d_A_run_426 : decode b_A_run 426 = .ok (.getfield 25, 3) := by decide +kernel
theorem d_A_run_429 : decode b_A_run 429 = .ok (.iadd, 1) := by decide +kernel
theorem d_A_run_430 : decode b_A_run 430 = .ok (.iload 4, 2) := by decide +kernel
theorem d_A_run_432 : decode b_A_run 432 = .ok (.invokevirtual 36, 3) := by decide +kernel
theorem d_A_run_435 : decode b_A_run 435 = .ok (.aload_n 0, 1) := by decide +kernel
theorem d_A_run_436 : decode b_A_run 436 = .ok (.getfield 22, 3) := by decide +kernel
theorem d_A_run_439 : decode b_A_run 439 = .ok (.ixor, 1) := by decide +kernel
theorem d_A_run_440 : decode b_A_run 440 = .ok (.ireturn, 1) := by decide +kernel
theorem d_A_run_441 : decode b_A_run 441 = .ok (.aload_n 0, 1) := by decide +kernel
theorem d_A_run_442 : decode b_A_run 442 = .ok (.bipush 10, 2) := by decide +kernel
theorem d_A_run_444 : decode b_A_run 444 = .ok (.iload_n 2, 1) := by decide +kernel
theorem d_A_run_445 : decode b_A_run 445 = .ok (.iload 4, 2) := by decide +kernel
theorem d_A_run_447 : decode b_A_run 447 = .ok (.invokevirtual 36, 3) := by decide +kernel
theorem d_A_run_450 : decode b_A_run 450 = .ok (.bipush 7, 2) := by decide +kernel
theorem d_A_run_452 : decode b_A_run 452 = .ok (.isub, 1) := by decide +kernel
theorem d_A_run_453 : decode b_A_run 453 = .ok (.ireturn, 1) := by decide +kernel
theorem d_A_run_454 : decode b_A_run 454 = .ok (.aload_n 0, 1) := by decide +kernel
theorem d_A_run_455 : decode b_A_run 455 = .ok (.bipush 13, 2) := by decide +kernel
theorem d_A_run_457 : decode b_A_run 457 = .ok (.iload_n 2, 1) := by decide +kernel
theorem d_A_run_458 : decode b_A_run 458 = .ok (.iload 4, 2) := by decide +kernel
theorem d_A_run_460 : decode b_A_run 460 = .ok (.invokevirtual 36, 3) := by decide +kernel
theorem d_A_run_463 : decode b_A_run 463 = .ok (.iconst 5, 1) := by decide +kernel
theorem d_A_run_464 : decode b_A_run 464 = .ok (.imul, 1) := by decide +kernel
theorem d_A_run_465 : decode b_A_run 465 = .ok (.ireturn, 1) := by decide +kernel
theorem d_A_run_466 : decode b_A_run 466 = .ok (.aload_n 0, 1) := by decide +kernel
theorem d_A_run_467 : decode b_A_run 467 = .ok (.bipush 12, 2) := by decide +kernel
theorem d_A_run_469 : decode b_A_run 469 = .ok (.iload_n 2, 1) := by decide +kernel
theorem d_A_run_470 : decode b_A_run 470 = .ok (.iload 4, 2) := by decide +kernel
theorem d_A_run_472 : decode b_A_run 472 = .ok (.invokevirtual 36, 3) := by decide +kernel
theorem d_A_run_475 : decode b_A_run 475 = .ok (.aload_n 0, 1) := by decide +kernel
theorem d_A_run_476 : decode b_A_run 476 = .ok (.aload_n 0, 1) := by decide +kernel
theorem d_A_run_477 : decode b_A_run 477 = .ok (.iconst 0, 1) := by decide +kernel
theorem d_A_run_478 : decode b_A_run 478 = .ok (.invokevirtual 32, 3) := by decide +kernel
theorem d_A_run_481 : decode b_A_run 481 = .ok (.aload_n 0, 1) := by decide +kernel
theorem d_A_run_482 : decode b_A_run 482 = .ok (.getfield 22, 3) := by decide +kernel
theorem d_A_run_485 : decode b_A_run 485 = .ok (.iload 4, 2) := by decide +kernel
theorem d_A_run_487 : decode b_A_run 487 = .ok (.invokevirtual 36, 3) := by decide +kernel
theorem d_A_run_490 : decode b_A_run 490 = .ok (.isub, 1) := by decide +kernel
theorem d_A_run_491 : decode b_A_run 491 = .ok (.ireturn, 1) := by decide +kernel
theorem d_A_run_492 : decode b_A_run 492 = .ok (.iconst 0, 1) := by decide +kernel
theorem d_A_run_493 : decode b_A_run 493 = .ok (.ireturn, 1) := by decide +kernel
theorem d_A_perform_0 : decode b_A_perform 0 = .ok (.aload_n 0, 1) := by decide +kernel
theorem d_A_perform_1 : decode b_A_perform 1 = .ok (.iconst 0, 1) := by decide +kernel
theorem d_A_perform_2 : decode b_A_perform 2 = .ok (.putfield 15, 3) := by decide +kernel
theorem d_A_perform_5 : decode b_A_perform 5 = .ok (.aload_n 0, 1) := by decide +kernel
theorem d_A_perform_6 : decode b_A_perform 6 = .ok (.iconst 0, 1) := by decide +kernel
theorem d_A_perform_7 : decode b_A_perform 7 = .ok (.putfield 28, 3) := by decide +kernel
theorem d_A_perform_10 : decode b_A_perform 10 = .ok (.aload_n 0, 1) := by decide +kernel
theorem d_A_perform_11 : decode b_A_perform 11 = .ok (.iload_n 2, 1) := by decide +kernel
theorem d_A_perform_12 : decode b_A_perform 12 = .ok (.putfield 19, 3) := by decide +kernel
theorem d_A_perform_15 : decode b_A_perform 15 = .ok (.aload_n 0, 1) := by decide +kernel
theorem d_A_perform_16 : decode b_A_perform 16 = .ok (.iload_n 3, 1) := by decide +kernel
theorem d_A_perform_17 : decode b_A_perform 17 = .ok (.putfield 22, 3) := by decide +kernel
theorem d_A_perform_20 : decode b_A_perform 20 = .ok (.aload_n 0, 1) := by decide +kernel
theorem d_A_perform_21 : decode b_A_perform 21 = .ok (.iload 4, 2) := by decide +kernel
theorem d_A_perform_23 : decode b_A_perform 23 = .ok (.putfield 25, 3) := by decide +kernel
theorem d_A_perform_26 : decode b_A_perform 26 = .ok (.aload_n 0, 1) := by decide +kernel
theorem d_A_perform_27 : decode b_A_perform 27 = .ok (.aload_n 0, 1) := by decide +kernel
theorem d_A_perform_28 : decode b_A_perform 28 = .ok (.iload_n 1, 1) := by decide +kernel
theorem d_A_perform_29 : decode b_A_perform 29 = .ok (.invokevirtual 32, 3) := by decide +kernel
theorem d_A_perform_32 : decode b_A_perform 32 = .ok (.iload 5, 2) := by decide +kernel
theorem d_A_perform_34 : decode b_A_perform 34 = .ok (.iconst 0, 1) := by decide +kernel
theorem d_A_perform_35 : decode b_A_perform 35 = .ok (.invokevirtual 36, 3) := by decide +kernel
theorem d_A_perform_38 : decode b_A_perform 38 = .ok (.istore 6, 2) := by decide +kernel
theorem d_A_perform_40 : decode b_A_perform 40 = .ok (.aload_n 0, 1) := by decide +kernel
theorem d_A_perform_41 : decode b_A_perform 41 = .ok (.getfield 28, 3) := by decide +kernel
theorem d_A_perform_44 : decode b_A_perform 44 = .ok (.ifCond .eq 8, 3) := by decide +kernel
theorem d_A_perform_47 : decode b_A_perform 47 = .ok (.bipush (-15), 2) := by decide +kernel
theorem d_A_perform_49 : decode b_A_perform 49 = .ok (.goto 5, 3) := by decide +kernel
theorem d_A_perform_52 : decode b_A_perform 52 = .ok (.iload 6, 2) := by decide +kernel
theorem d_A_perform_54 : decode b_A_perform 54 = .ok (.ireturn, 1) := by decide +kernel
theorem d_S_clearTo_0 : decode b_S_clearTo 0 = .ok (.aload_n 0, 1) := by decide +kernel
theorem d_S_clearTo_1 : decode b_S_clearTo 1 = .ok (.getfield 9, 3) := by decide +kernel
theorem d_S_clearTo_4 : decode b_S_clearTo 4 = .ok (.iconst 0, 1) := by decide +kernel
theorem d_S_clearTo_5 : decode b_S_clearTo 5 = .ok (.invokestatic 22, 3) := by decide +kernel
theorem d_S_clearTo_8 : decode b_S_clearTo 8 = .ok (.aload_n 0, 1) := by decide +kernel
theorem d_S_clearTo_9 : decode b_S_clearTo 9 = .ok (.iload_n 1, 1) := by decide +kernel
theorem d_S_clearTo_10 : decode b_S_clearTo 10 = .ok (.putfield 15, 3) := by decide +kernel
theorem d_S_clearTo_13 : decode b_S_clearTo 13 = .ok (.aload_n 0, 1) := by decide +kernel
theorem d_S_clearTo_14 : decode b_S_clearTo 14 = .ok (.iload_n 2, 1) := by decide +kernel
theorem d_S_clearTo_15 : decode b_S_clearTo 15 = .ok (.putfield 19, 3) := by decide +kernel
theorem d_S_clearTo_18 : decode b_S_clearTo 18 = .ok (.return_, 1) := by decide +kernel
theorem d_S_hasItem_0 : decode b_S_hasItem 0 = .ok (.iload_n 1, 1) := by decide +kernel
theorem d_S_hasItem_1 : decode b_S_hasItem 1 = .ok (.ifCond .lt 21, 3) := by decide +kernel
theorem d_S_hasItem_4 : decode b_S_hasItem 4 = .ok (.iload_n 1, 1) := by decide +kernel
theorem d_S_hasItem_5 : decode b_S_hasItem 5 = .ok (.aload_n 0, 1) := by decide +kernel
theorem d_S_hasItem_6 : decode b_S_hasItem 6 = .ok (.getfield 19, 3) := by decide +kernel
theorem d_S_hasItem_9 : decode b_S_hasItem 9 = .ok (.if_icmp .ge 13, 3) := by decide +kernel
theorem d_S_hasItem_12 : decode b_S_hasItem 12 = .ok (.iload_n 1, 1) := by decide +kernel
theorem d_S_hasItem_13 : decode b_S_hasItem 13 = .ok (.bipush 40, 2) := by decide +kernel
theorem d_S_hasItem_15 : decode b_S_hasItem 15 = .ok (.if_icmp .ge 7, 3) := by decide +kernel
theorem d_S_hasItem_18 : decode b_S_hasItem 18 = .ok (.iconst 1, 1) := by decide +kernel
theorem d_S_hasItem_19 : decode b_S_hasItem 19 = .ok (.goto 4, 3) := by decide +kernel
theorem d_S_hasItem_22 : decode b_S_hasItem 22 = .ok (.iconst 0, 1) := by decide +kernel
theorem d_S_hasItem_23 : decode b_S_hasItem 23 = .ok (.ireturn, 1) := by decide +kernel
theorem d_S_narrowed_0 : decode b_S_narrowed 0 = .ok (.aload_n 0, 1) := by decide +kernel
theorem d_S_narrowed_1 : decode b_S_narrowed 1 = .ok (.getfield 15, 3) := by decide +kernel
theorem d_S_narrowed_4 : decode b_S_narrowed 4 = .ok (.lookupswitch 34 #[(0, 28), (1, 31)], 28) := by decide +kernel
theorem d_S_narrowed_32 : decode b_S_narrowed 32 = .ok (.iload_n 1, 1) := by decide +kernel
theorem d_S_narrowed_33 : decode b_S_narrowed 33 = .ok (.i2b, 1) := by decide +kernel
theorem d_S_narrowed_34 : decode b_S_narrowed 34 = .ok (.ireturn, 1) := by decide +kernel
theorem d_S_narrowed_35 : decode b_S_narrowed 35 = .ok (.iload_n 1, 1) := by decide +kernel
theorem d_S_narrowed_36 : decode b_S_narrowed 36 = .ok (.i2s, 1) := by decide +kernel
theorem d_S_narrowed_37 : decode b_S_narrowed 37 = .ok (.ireturn, 1) := by decide +kernel
theorem d_S_narrowed_38 : decode b_S_narrowed 38 = .ok (.iload_n 1, 1) := by decide +kernel
theorem d_S_narrowed_39 : decode b_S_narrowed 39 = .ok (.ireturn, 1) := by decide +kernel
theorem d_H_clear_0 : decode b_H_clear 0 = .ok (.aload_n 0, 1) := by decide +kernel
theorem d_H_clear_1 : decode b_H_clear 1 = .ok (.iconst 2, 1) := by decide +kernel
theorem d_H_clear_2 : decode b_H_clear 2 = .ok (.putfield 9, 3) := by decide +kernel
theorem d_H_clear_5 : decode b_H_clear 5 = .ok (.return_, 1) := by decide +kernel
theorem d_H_holdBarge_0 : decode b_H_holdBarge 0 = .ok (.aload_n 0, 1) := by decide +kernel
theorem d_H_holdBarge_1 : decode b_H_holdBarge 1 = .ok (.iconst 0, 1) := by decide +kernel
theorem d_H_holdBarge_2 : decode b_H_holdBarge 2 = .ok (.putfield 9, 3) := by decide +kernel
theorem d_H_holdBarge_5 : decode b_H_holdBarge 5 = .ok (.aload_n 0, 1) := by decide +kernel
theorem d_H_holdBarge_6 : decode b_H_holdBarge 6 = .ok (.iload_n 1, 1) := by decide +kernel
theorem d_H_holdBarge_7 : decode b_H_holdBarge 7 = .ok (.putfield 15, 3) := by decide +kernel
theorem d_H_holdBarge_10 : decode b_H_holdBarge 10 = .ok (.return_, 1) := by decide +kernel
theorem d_H_holdRow_0 : decode b_H_holdRow 0 = .ok (.aload_n 0, 1) := by decide +kernel
theorem d_H_holdRow_1 : decode b_H_holdRow 1 = .ok (.iload_n 1, 1) := by decide +kernel
theorem d_H_holdRow_2 : decode b_H_holdRow 2 = .ok (.iconst (-1), 1) := by decide +kernel
theorem d_H_holdRow_3 : decode b_H_holdRow 3 = .ok (.if_icmp .ne 7, 3) := by decide +kernel
theorem d_H_holdRow_6 : decode b_H_holdRow 6 = .ok (.iconst 2, 1) := by decide +kernel
theorem d_H_holdRow_7 : decode b_H_holdRow 7 = .ok (.goto 4, 3) := by decide +kernel
theorem d_H_holdRow_10 : decode b_H_holdRow 10 = .ok (.iconst 1, 1) := by decide +kernel
theorem d_H_holdRow_11 : decode b_H_holdRow 11 = .ok (.putfield 9, 3) := by decide +kernel
theorem d_H_holdRow_14 : decode b_H_holdRow 14 = .ok (.aload_n 0, 1) := by decide +kernel
theorem d_H_holdRow_15 : decode b_H_holdRow 15 = .ok (.iload_n 1, 1) := by decide +kernel
theorem d_H_holdRow_16 : decode b_H_holdRow 16 = .ok (.putfield 18, 3) := by decide +kernel
theorem d_H_holdRow_19 : decode b_H_holdRow 19 = .ok (.aload_n 0, 1) := by decide +kernel
theorem d_H_holdRow_20 : decode b_H_holdRow 20 = .ok (.iload_n 2, 1) := by decide +kernel
theorem d_H_holdRow_21 : decode b_H_holdRow 21 = .ok (.putfield 21, 3) := by decide +kernel
theorem d_H_holdRow_24 : decode b_H_holdRow 24 = .ok (.return_, 1) := by decide +kernel
