theorem d_L_0 : decode code 0 = .ok (.new 7, 3) := by decide +kernel
theorem d_L_3 : decode code 3 = .ok (.dup, 1) := by decide +kernel
theorem d_L_4 : decode code 4 = .ok (.invokespecial 9, 3) := by decide +kernel
theorem d_L_7 : decode code 7 = .ok (.astore_n 1, 1) := by decide +kernel
theorem d_L_8 : decode code 8 = .ok (.new 10, 3) := by decide +kernel
theorem d_L_11 : decode code 11 = .ok (.dup, 1) := by decide +kernel
theorem d_L_12 : decode code 12 = .ok (.invokespecial 12, 3) := by decide +kernel
theorem d_L_15 : decode code 15 = .ok (.astore_n 2, 1) := by decide +kernel
theorem d_L_16 : decode code 16 = .ok (.iconst 0, 1) := by decide +kernel
theorem d_L_17 : decode code 17 = .ok (.istore_n 3, 1) := by decide +kernel
theorem d_L_18 : decode code 18 = .ok (.iload_n 3, 1) := by decide +kernel
theorem d_L_19 : decode code 19 = .ok (.aload_n 0, 1) := by decide +kernel
theorem d_L_20 : decode code 20 = .ok (.arraylength, 1) := by decide +kernel
theorem d_L_21 : decode code 21 = .ok (.iconst 5, 1) := by decide +kernel
theorem d_L_22 : decode code 22 = .ok (.isub, 1) := by decide +kernel
theorem d_L_23 : decode code 23 = .ok (.if_icmp .gt 1695, 3) := by decide +kernel
theorem d_L_26 : decode code 26 = .ok (.aload_n 0, 1) := by decide +kernel
theorem d_L_27 : decode code 27 = .ok (.iload_n 3, 1) := by decide +kernel
theorem d_L_28 : decode code 28 = .ok (.iaload, 1) := by decide +kernel
theorem d_L_29 : decode code 29 = .ok (.bipush 63, 2) := by decide +kernel
theorem d_L_31 : decode code 31 = .ok (.iand, 1) := by decide +kernel
theorem d_L_32 : decode code 32 = .ok (.tableswitch 1680 0 45 #[200, 263, 276, 309, 332, 385, 418, 451, 494, 527, 560, 593, 626, 659, 682, 705, 718, 741, 764, 797, 820, 853, 866, 889, 922, 955, 998, 1031, 1054, 1097, 1141, 1175, 1208, 1241, 1284, 1307, 1360, 1403, 1446, 1489, 1532, 1565, 1608, 1631, 1654, 1667], 200) := by decide +kernel
theorem d_L_232 : decode code 232 = .ok (.aload_n 1, 1) := by decide +kernel
theorem d_L_233 : decode code 233 = .ok (.aload_n 0, 1) := by decide +kernel
theorem d_L_234 : decode code 234 = .ok (.iload_n 3, 1) := by decide +kernel
theorem d_L_235 : decode code 235 = .ok (.iconst 1, 1) := by decide +kernel
theorem d_L_236 : decode code 236 = .ok (.iadd, 1) := by decide +kernel
theorem d_L_237 : decode code 237 = .ok (.iaload, 1) := by decide +kernel
theorem d_L_238 : decode code 238 = .ok (.i2l, 1) := by decide +kernel
theorem d_L_239 : decode code 239 = .ok (.bipush 32, 2) := by decide +kernel
theorem d_L_241 : decode code 241 = .ok (.lshl, 1) := by decide +kernel
theorem d_L_242 : decode code 242 = .ok (.aload_n 0, 1) := by decide +kernel
theorem d_L_243 : decode code 243 = .ok (.iload_n 3, 1) := by decide +kernel
theorem d_L_244 : decode code 244 = .ok (.iconst 2, 1) := by decide +kernel
theorem d_L_245 : decode code 245 = .ok (.iadd, 1) := by decide +kernel
theorem d_L_246 : decode code 246 = .ok (.iaload, 1) := by decide +kernel
theorem d_L_247 : decode code 247 = .ok (.i2l, 1) := by decide +kernel
theorem d_L_248 : decode code 248 = .ok (.ldc2_w 13, 3) := by decide +kernel
theorem d_L_251 : decode code 251 = .ok (.land, 1) := by decide +kernel
theorem d_L_252 : decode code 252 = .ok (.lor, 1) := by decide +kernel
theorem d_L_253 : decode code 253 = .ok (.aload_n 0, 1) := by decide +kernel
theorem d_L_254 : decode code 254 = .ok (.iload_n 3, 1) := by decide +kernel
theorem d_L_255 : decode code 255 = .ok (.iconst 3, 1) := by decide +kernel
theorem d_L_256 : decode code 256 = .ok (.iadd, 1) := by decide +kernel
theorem d_L_257 : decode code 257 = .ok (.iaload, 1) := by decide +kernel
theorem d_L_258 : decode code 258 = .ok (.invokevirtual 15, 3) := by decide +kernel
theorem d_L_261 : decode code 261 = .ok (.aload_n 2, 1) := by decide +kernel
theorem d_L_262 : decode code 262 = .ok (.aload_n 0, 1) := by decide +kernel
theorem d_L_263 : decode code 263 = .ok (.iload_n 3, 1) := by decide +kernel
theorem d_L_264 : decode code 264 = .ok (.iconst 1, 1) := by decide +kernel
theorem d_L_265 : decode code 265 = .ok (.iadd, 1) := by decide +kernel
theorem d_L_266 : decode code 266 = .ok (.iaload, 1) := by decide +kernel
theorem d_L_267 : decode code 267 = .ok (.i2l, 1) := by decide +kernel
theorem d_L_268 : decode code 268 = .ok (.bipush 32, 2) := by decide +kernel
theorem d_L_270 : decode code 270 = .ok (.lshl, 1) := by decide +kernel
theorem d_L_271 : decode code 271 = .ok (.aload_n 0, 1) := by decide +kernel
theorem d_L_272 : decode code 272 = .ok (.iload_n 3, 1) := by decide +kernel
theorem d_L_273 : decode code 273 = .ok (.iconst 2, 1) := by decide +kernel
theorem d_L_274 : decode code 274 = .ok (.iadd, 1) := by decide +kernel
theorem d_L_275 : decode code 275 = .ok (.iaload, 1) := by decide +kernel
theorem d_L_276 : decode code 276 = .ok (.i2l, 1) := by decide +kernel
theorem d_L_277 : decode code 277 = .ok (.ldc2_w 13, 3) := by decide +kernel
theorem d_L_280 : decode code 280 = .ok (.land, 1) := by decide +kernel
theorem d_L_281 : decode code 281 = .ok (.lor, 1) := by decide +kernel
theorem d_L_282 : decode code 282 = .ok (.aload_n 0, 1) := by decide +kernel
theorem d_L_283 : decode code 283 = .ok (.iload_n 3, 1) := by decide +kernel
theorem d_L_284 : decode code 284 = .ok (.iconst 3, 1) := by decide +kernel
theorem d_L_285 : decode code 285 = .ok (.iadd, 1) := by decide +kernel
theorem d_L_286 : decode code 286 = .ok (.iaload, 1) := by decide +kernel
theorem d_L_287 : decode code 287 = .ok (.invokevirtual 19, 3) := by decide +kernel
theorem d_L_290 : decode code 290 = .ok (.if_icmp .eq 1422, 3) := by decide +kernel
theorem d_L_293 : decode code 293 = .ok (.iconst 0, 1) := by decide +kernel
theorem d_L_294 : decode code 294 = .ok (.ireturn, 1) := by decide +kernel
theorem d_L_295 : decode code 295 = .ok (.aload_n 1, 1) := by decide +kernel
theorem d_L_296 : decode code 296 = .ok (.invokevirtual 20, 3) := by decide +kernel
theorem d_L_299 : decode code 299 = .ok (.aload_n 2, 1) := by decide +kernel
theorem d_L_300 : decode code 300 = .ok (.invokevirtual 24, 3) := by decide +kernel
theorem d_L_303 : decode code 303 = .ok (.if_icmp .eq 1409, 3) := by decide +kernel
theorem d_L_306 : decode code 306 = .ok (.iconst 0, 1) := by decide +kernel
theorem d_L_307 : decode code 307 = .ok (.ireturn, 1) := by decide +kernel
theorem d_L_308 : decode code 308 = .ok (.aload_n 1, 1) := by decide +kernel
theorem d_L_309 : decode code 309 = .ok (.aload_n 0, 1) := by decide +kernel
theorem d_L_310 : decode code 310 = .ok (.iload_n 3, 1) := by decide +kernel
theorem d_L_311 : decode code 311 = .ok (.iconst 1, 1) := by decide +kernel
theorem d_L_312 : decode code 312 = .ok (.iadd, 1) := by decide +kernel
theorem d_L_313 : decode code 313 = .ok (.iaload, 1) := by decide +kernel
theorem d_L_314 : decode code 314 = .ok (.aload_n 0, 1) := by decide +kernel
theorem d_L_315 : decode code 315 = .ok (.iload_n 3, 1) := by decide +kernel
theorem d_L_316 : decode code 316 = .ok (.iconst 2, 1) := by decide +kernel
theorem d_L_317 : decode code 317 = .ok (.iadd, 1) := by decide +kernel
theorem d_L_318 : decode code 318 = .ok (.iaload, 1) := by decide +kernel
theorem d_L_319 : decode code 319 = .ok (.invokevirtual 25, 3) := by decide +kernel
theorem d_L_322 : decode code 322 = .ok (.aload_n 2, 1) := by decide +kernel
theorem d_L_323 : decode code 323 = .ok (.aload_n 0, 1) := by decide +kernel
theorem d_L_324 : decode code 324 = .ok (.iload_n 3, 1) := by decide +kernel
theorem d_L_325 : decode code 325 = .ok (.iconst 1, 1) := by decide +kernel
theorem d_L_326 : decode code 326 = .ok (.iadd, 1) := by decide +kernel
theorem d_L_327 : decode code 327 = .ok (.iaload, 1) := by decide +kernel
theorem d_L_328 : decode code 328 = .ok (.aload_n 0, 1) := by decide +kernel
theorem d_L_329 : decode code 329 = .ok (.iload_n 3, 1) := by decide +kernel
theorem d_L_330 : decode code 330 = .ok (.iconst 2, 1) := by decide +kernel
theorem d_L_331 : decode code 331 = .ok (.iadd, 1) := by decide +kernel
theorem d_L_332 : decode code 332 = .ok (.iaload, 1) := by decide +kernel
theorem d_L_333 : decode code 333 = .ok (.invokevirtual 29, 3) := by decide +kernel
theorem d_L_336 : decode code 336 = .ok (.if_icmp .eq 1376, 3) := by decide +kernel
theorem d_L_339 : decode code 339 = .ok (.iconst 0, 1) := by decide +kernel
theorem d_L_340 : decode code 340 = .ok (.ireturn, 1) := by decide +kernel
theorem d_L_341 : decode code 341 = .ok (.aload_n 1, 1) := by decide +kernel
theorem d_L_342 : decode code 342 = .ok (.aload_n 0, 1) := by decide +kernel
theorem d_L_343 : decode code 343 = .ok (.iload_n 3, 1) := by decide +kernel
theorem d_L_344 : decode code 344 = .ok (.iconst 1, 1) := by decide +kernel
theorem d_L_345 : decode code 345 = .ok (.iadd, 1) := by decide +kernel
theorem d_L_346 : decode code 346 = .ok (.iaload, 1) := by decide +kernel
theorem d_L_347 : decode code 347 = .ok (.invokevirtual 30, 3) := by decide +kernel
theorem d_L_350 : decode code 350 = .ok (.aload_n 2, 1) := by decide +kernel
theorem d_L_351 : decode code 351 = .ok (.aload_n 0, 1) := by decide +kernel
theorem d_L_352 : decode code 352 = .ok (.iload_n 3, 1) := by decide +kernel
theorem d_L_353 : decode code 353 = .ok (.iconst 1, 1) := by decide +kernel
theorem d_L_354 : decode code 354 = .ok (.iadd, 1) := by decide +kernel
theorem d_L_355 : decode code 355 = .ok (.iaload, 1) := by decide +kernel
theorem d_L_356 : decode code 356 = .ok (.invokevirtual 34, 3) := by decide +kernel
theorem d_L_359 : decode code 359 = .ok (.if_icmp .eq 1353, 3) := by decide +kernel
theorem d_L_362 : decode code 362 = .ok (.iconst 0, 1) := by decide +kernel
theorem d_L_363 : decode code 363 = .ok (.ireturn, 1) := by decide +kernel
theorem d_L_364 : decode code 364 = .ok (.aload_n 1, 1) := by decide +kernel
theorem d_L_365 : decode code 365 = .ok (.aload_n 0, 1) := by decide +kernel
theorem d_L_366 : decode code 366 = .ok (.iload_n 3, 1) := by decide +kernel
theorem d_L_367 : decode code 367 = .ok (.iconst 1, 1) := by decide +kernel
theorem d_L_368 : decode code 368 = .ok (.iadd, 1) := by decide +kernel
theorem d_L_369 : decode code 369 = .ok (.iaload, 1) := by decide +kernel
theorem d_L_370 : decode code 370 = .ok (.aload_n 0, 1) := by decide +kernel
theorem d_L_371 : decode code 371 = .ok (.iload_n 3, 1) := by decide +kernel
theorem d_L_372 : decode code 372 = .ok (.iconst 2, 1) := by decide +kernel
theorem d_L_373 : decode code 373 = .ok (.iadd, 1) := by decide +kernel
theorem d_L_374 : decode code 374 = .ok (.iaload, 1) := by decide +kernel
theorem d_L_375 : decode code 375 = .ok (.aload_n 0, 1) := by decide +kernel
theorem d_L_376 : decode code 376 = .ok (.iload_n 3, 1) := by decide +kernel
theorem d_L_377 : decode code 377 = .ok (.iconst 3, 1) := by decide +kernel
theorem d_L_378 : decode code 378 = .ok (.iadd, 1) := by decide +kernel
theorem d_L_379 : decode code 379 = .ok (.iaload, 1) := by decide +kernel
theorem d_L_380 : decode code 380 = .ok (.aload_n 0, 1) := by decide +kernel
theorem d_L_381 : decode code 381 = .ok (.iload_n 3, 1) := by decide +kernel
theorem d_L_382 : decode code 382 = .ok (.iconst 4, 1) := by decide +kernel
theorem d_L_383 : decode code 383 = .ok (.iadd, 1) := by decide +kernel
theorem d_L_384 : decode code 384 = .ok (.iaload, 1) := by decide +kernel
theorem d_L_385 : decode code 385 = .ok (.invokevirtual 35, 3) := by decide +kernel
theorem d_L_388 : decode code 388 = .ok (.aload_n 2, 1) := by decide +kernel
theorem d_L_389 : decode code 389 = .ok (.aload_n 0, 1) := by decide +kernel
theorem d_L_390 : decode code 390 = .ok (.iload_n 3, 1) := by decide +kernel
theorem d_L_391 : decode code 391 = .ok (.iconst 1, 1) := by decide +kernel
theorem d_L_392 : decode code 392 = .ok (.iadd, 1) := by decide +kernel
theorem d_L_393 : decode code 393 = .ok (.iaload, 1) := by decide +kernel
theorem d_L_394 : decode code 394 = .ok (.aload_n 0, 1) := by decide +kernel
theorem d_L_395 : decode code 395 = .ok (.iload_n 3, 1) := by decide +kernel
theorem d_L_396 : decode code 396 = .ok (.iconst 2, 1) := by decide +kernel
theorem d_L_397 : decode code 397 = .ok (.iadd, 1) := by decide +kernel
theorem d_L_398 : decode code 398 = .ok (.iaload, 1) := by decide +kernel
theorem d_L_399 : decode code 399 = .ok (.aload_n 0, 1) := by decide +kernel
theorem d_L_400 : decode code 400 = .ok (.iload_n 3, 1) := by decide +kernel
theorem d_L_401 : decode code 401 = .ok (.iconst 3, 1) := by decide +kernel
theorem d_L_402 : decode code 402 = .ok (.iadd, 1) := by decide +kernel
theorem d_L_403 : decode code 403 = .ok (.iaload, 1) := by decide +kernel
theorem d_L_404 : decode code 404 = .ok (.aload_n 0, 1) := by decide +kernel
theorem d_L_405 : decode code 405 = .ok (.iload_n 3, 1) := by decide +kernel
theorem d_L_406 : decode code 406 = .ok (.iconst 4, 1) := by decide +kernel
theorem d_L_407 : decode code 407 = .ok (.iadd, 1) := by decide +kernel
theorem d_L_408 : decode code 408 = .ok (.iaload, 1) := by decide +kernel
theorem d_L_409 : decode code 409 = .ok (.invokevirtual 39, 3) := by decide +kernel
theorem d_L_412 : decode code 412 = .ok (.if_icmp .eq 1300, 3) := by decide +kernel
theorem d_L_415 : decode code 415 = .ok (.iconst 0, 1) := by decide +kernel
theorem d_L_416 : decode code 416 = .ok (.ireturn, 1) := by decide +kernel
theorem d_L_417 : decode code 417 = .ok (.aload_n 1, 1) := by decide +kernel
theorem d_L_418 : decode code 418 = .ok (.aload_n 0, 1) := by decide +kernel
theorem d_L_419 : decode code 419 = .ok (.iload_n 3, 1) := by decide +kernel
theorem d_L_420 : decode code 420 = .ok (.iconst 1, 1) := by decide +kernel
theorem d_L_421 : decode code 421 = .ok (.iadd, 1) := by decide +kernel
theorem d_L_422 : decode code 422 = .ok (.iaload, 1) := by decide +kernel
theorem d_L_423 : decode code 423 = .ok (.aload_n 0, 1) := by decide +kernel
theorem d_L_424 : decode code 424 = .ok (.iload_n 3, 1) := by decide +kernel
theorem d_L_425 : decode code 425 = .ok (.iconst 2, 1) := by decide +kernel
theorem d_L_426 : decode code 426 = .ok (.iadd, 1) := by decide +kernel
theorem d_L_427 : decode code 427 = .ok (.iaload, 1) := by decide +kernel
theorem d_L_428 : decode code 428 = .ok (.invokevirtual 40, 3) := by decide +kernel
theorem d_L_431 : decode code 431 = .ok (.aload_n 2, 1) := by decide +kernel
theorem d_L_432 : decode code 432 = .ok (.aload_n 0, 1) := by decide +kernel
theorem d_L_433 : decode code 433 = .ok (.iload_n 3, 1) := by decide +kernel
theorem d_L_434 : decode code 434 = .ok (.iconst 1, 1) := by decide +kernel
theorem d_L_435 : decode code 435 = .ok (.iadd, 1) := by decide +kernel
theorem d_L_436 : decode code 436 = .ok (.iaload, 1) := by decide +kernel
theorem d_L_437 : decode code 437 = .ok (.aload_n 0, 1) := by decide +kernel
theorem d_L_438 : decode code 438 = .ok (.iload_n 3, 1) := by decide +kernel
theorem d_L_439 : decode code 439 = .ok (.iconst 2, 1) := by decide +kernel
theorem d_L_440 : decode code 440 = .ok (.iadd, 1) := by decide +kernel
theorem d_L_441 : decode code 441 = .ok (.iaload, 1) := by decide +kernel
theorem d_L_442 : decode code 442 = .ok (.invokevirtual 43, 3) := by decide +kernel
theorem d_L_445 : decode code 445 = .ok (.if_icmp .eq 1267, 3) := by decide +kernel
theorem d_L_448 : decode code 448 = .ok (.iconst 0, 1) := by decide +kernel
theorem d_L_449 : decode code 449 = .ok (.ireturn, 1) := by decide +kernel
theorem d_L_450 : decode code 450 = .ok (.aload_n 1, 1) := by decide +kernel
theorem d_L_451 : decode code 451 = .ok (.aload_n 0, 1) := by decide +kernel
theorem d_L_452 : decode code 452 = .ok (.iload_n 3, 1) := by decide +kernel
theorem d_L_453 : decode code 453 = .ok (.iconst 1, 1) := by decide +kernel
theorem d_L_454 : decode code 454 = .ok (.iadd, 1) := by decide +kernel
theorem d_L_455 : decode code 455 = .ok (.iaload, 1) := by decide +kernel
theorem d_L_456 : decode code 456 = .ok (.aload_n 0, 1) := by decide +kernel
theorem d_L_457 : decode code 457 = .ok (.iload_n 3, 1) := by decide +kernel
theorem d_L_458 : decode code 458 = .ok (.iconst 2, 1) := by decide +kernel
theorem d_L_459 : decode code 459 = .ok (.iadd, 1) := by decide +kernel
theorem d_L_460 : decode code 460 = .ok (.iaload, 1) := by decide +kernel
theorem d_L_461 : decode code 461 = .ok (.invokevirtual 44, 3) := by decide +kernel
theorem d_L_464 : decode code 464 = .ok (.aload_n 2, 1) := by decide +kernel
theorem d_L_465 : decode code 465 = .ok (.aload_n 0, 1) := by decide +kernel
theorem d_L_466 : decode code 466 = .ok (.iload_n 3, 1) := by decide +kernel
theorem d_L_467 : decode code 467 = .ok (.iconst 1, 1) := by decide +kernel
theorem d_L_468 : decode code 468 = .ok (.iadd, 1) := by decide +kernel
theorem d_L_469 : decode code 469 = .ok (.iaload, 1) := by decide +kernel
theorem d_L_470 : decode code 470 = .ok (.aload_n 0, 1) := by decide +kernel
theorem d_L_471 : decode code 471 = .ok (.iload_n 3, 1) := by decide +kernel
theorem d_L_472 : decode code 472 = .ok (.iconst 2, 1) := by decide +kernel
theorem d_L_473 : decode code 473 = .ok (.iadd, 1) := by decide +kernel
theorem d_L_474 : decode code 474 = .ok (.iaload, 1) := by decide +kernel
theorem d_L_475 : decode code 475 = .ok (.invokevirtual 47, 3) := by decide +kernel
theorem d_L_478 : decode code 478 = .ok (.if_icmp .eq 1234, 3) := by decide +kernel
theorem d_L_481 : decode code 481 = .ok (.iconst 0, 1) := by decide +kernel
theorem d_L_482 : decode code 482 = .ok (.ireturn, 1) := by decide +kernel
theorem d_L_483 : decode code 483 = .ok (.aload_n 1, 1) := by decide +kernel
theorem d_L_484 : decode code 484 = .ok (.aload_n 0, 1) := by decide +kernel
theorem d_L_485 : decode code 485 = .ok (.iload_n 3, 1) := by decide +kernel
theorem d_L_486 : decode code 486 = .ok (.iconst 1, 1) := by decide +kernel
theorem d_L_487 : decode code 487 = .ok (.iadd, 1) := by decide +kernel
theorem d_L_488 : decode code 488 = .ok (.iaload, 1) := by decide +kernel
theorem d_L_489 : decode code 489 = .ok (.aload_n 0, 1) := by decide +kernel
theorem d_L_490 : decode code 490 = .ok (.iload_n 3, 1) := by decide +kernel
theorem d_L_491 : decode code 491 = .ok (.iconst 2, 1) := by decide +kernel
theorem d_L_492 : decode code 492 = .ok (.iadd, 1) := by decide +kernel
theorem d_L_493 : decode code 493 = .ok (.iaload, 1) := by decide +kernel
theorem d_L_494 : decode code 494 = .ok (.aload_n 0, 1) := by decide +kernel
theorem d_L_495 : decode code 495 = .ok (.iload_n 3, 1) := by decide +kernel
theorem d_L_496 : decode code 496 = .ok (.iconst 3, 1) := by decide +kernel
theorem d_L_497 : decode code 497 = .ok (.iadd, 1) := by decide +kernel
theorem d_L_498 : decode code 498 = .ok (.iaload, 1) := by decide +kernel
theorem d_L_499 : decode code 499 = .ok (.invokevirtual 48, 3) := by decide +kernel
theorem d_L_502 : decode code 502 = .ok (.aload_n 2, 1) := by decide +kernel
theorem d_L_503 : decode code 503 = .ok (.aload_n 0, 1) := by decide +kernel
theorem d_L_504 : decode code 504 = .ok (.iload_n 3, 1) := by decide +kernel
theorem d_L_505 : decode code 505 = .ok (.iconst 1, 1) := by decide +kernel
theorem d_L_506 : decode code 506 = .ok (.iadd, 1) := by decide +kernel
theorem d_L_507 : decode code 507 = .ok (.iaload, 1) := by decide +kernel
theorem d_L_508 : decode code 508 = .ok (.aload_n 0, 1) := by decide +kernel
theorem d_L_509 : decode code 509 = .ok (.iload_n 3, 1) := by decide +kernel
theorem d_L_510 : decode code 510 = .ok (.iconst 2, 1) := by decide +kernel
theorem d_L_511 : decode code 511 = .ok (.iadd, 1) := by decide +kernel
theorem d_L_512 : decode code 512 = .ok (.iaload, 1) := by decide +kernel
theorem d_L_513 : decode code 513 = .ok (.aload_n 0, 1) := by decide +kernel
theorem d_L_514 : decode code 514 = .ok (.iload_n 3, 1) := by decide +kernel
theorem d_L_515 : decode code 515 = .ok (.iconst 3, 1) := by decide +kernel
theorem d_L_516 : decode code 516 = .ok (.iadd, 1) := by decide +kernel
theorem d_L_517 : decode code 517 = .ok (.iaload, 1) := by decide +kernel
theorem d_L_518 : decode code 518 = .ok (.invokevirtual 52, 3) := by decide +kernel
theorem d_L_521 : decode code 521 = .ok (.if_icmp .eq 1191, 3) := by decide +kernel
theorem d_L_524 : decode code 524 = .ok (.iconst 0, 1) := by decide +kernel
theorem d_L_525 : decode code 525 = .ok (.ireturn, 1) := by decide +kernel
theorem d_L_526 : decode code 526 = .ok (.aload_n 1, 1) := by decide +kernel
theorem d_L_527 : decode code 527 = .ok (.aload_n 0, 1) := by decide +kernel
theorem d_L_528 : decode code 528 = .ok (.iload_n 3, 1) := by decide +kernel
theorem d_L_529 : decode code 529 = .ok (.iconst 1, 1) := by decide +kernel
theorem d_L_530 : decode code 530 = .ok (.iadd, 1) := by decide +kernel
theorem d_L_531 : decode code 531 = .ok (.iaload, 1) := by decide +kernel
theorem d_L_532 : decode code 532 = .ok (.aload_n 0, 1) := by decide +kernel
theorem d_L_533 : decode code 533 = .ok (.iload_n 3, 1) := by decide +kernel
theorem d_L_534 : decode code 534 = .ok (.iconst 2, 1) := by decide +kernel
theorem d_L_535 : decode code 535 = .ok (.iadd, 1) := by decide +kernel
theorem d_L_536 : decode code 536 = .ok (.iaload, 1) := by decide +kernel
theorem d_L_537 : decode code 537 = .ok (.invokevirtual 53, 3) := by decide +kernel
theorem d_L_540 : decode code 540 = .ok (.aload_n 2, 1) := by decide +kernel
theorem d_L_541 : decode code 541 = .ok (.aload_n 0, 1) := by decide +kernel
theorem d_L_542 : decode code 542 = .ok (.iload_n 3, 1) := by decide +kernel
theorem d_L_543 : decode code 543 = .ok (.iconst 1, 1) := by decide +kernel
theorem d_L_544 : decode code 544 = .ok (.iadd, 1) := by decide +kernel
theorem d_L_545 : decode code 545 = .ok (.iaload, 1) := by decide +kernel
theorem d_L_546 : decode code 546 = .ok (.aload_n 0, 1) := by decide +kernel
theorem d_L_547 : decode code 547 = .ok (.iload_n 3, 1) := by decide +kernel
theorem d_L_548 : decode code 548 = .ok (.iconst 2, 1) := by decide +kernel
theorem d_L_549 : decode code 549 = .ok (.iadd, 1) := by decide +kernel
theorem d_L_550 : decode code 550 = .ok (.iaload, 1) := by decide +kernel
theorem d_L_551 : decode code 551 = .ok (.invokevirtual 56, 3) := by decide +kernel
theorem d_L_554 : decode code 554 = .ok (.if_icmp .eq 1158, 3) := by decide +kernel
theorem d_L_557 : decode code 557 = .ok (.iconst 0, 1) := by decide +kernel
theorem d_L_558 : decode code 558 = .ok (.ireturn, 1) := by decide +kernel
theorem d_L_559 : decode code 559 = .ok (.aload_n 1, 1) := by decide +kernel
theorem d_L_560 : decode code 560 = .ok (.aload_n 0, 1) := by decide +kernel
theorem d_L_561 : decode code 561 = .ok (.iload_n 3, 1) := by decide +kernel
theorem d_L_562 : decode code 562 = .ok (.iconst 1, 1) := by decide +kernel
theorem d_L_563 : decode code 563 = .ok (.iadd, 1) := by decide +kernel
theorem d_L_564 : decode code 564 = .ok (.iaload, 1) := by decide +kernel
theorem d_L_565 : decode code 565 = .ok (.aload_n 0, 1) := by decide +kernel
theorem d_L_566 : decode code 566 = .ok (.iload_n 3, 1) := by decide +kernel
theorem d_L_567 : decode code 567 = .ok (.iconst 2, 1) := by decide +kernel
theorem d_L_568 : decode code 568 = .ok (.iadd, 1) := by decide +kernel
theorem d_L_569 : decode code 569 = .ok (.iaload, 1) := by decide +kernel
theorem d_L_570 : decode code 570 = .ok (.invokevirtual 57, 3) := by decide +kernel
theorem d_L_573 : decode code 573 = .ok (.aload_n 2, 1) := by decide +kernel
theorem d_L_574 : decode code 574 = .ok (.aload_n 0, 1) := by decide +kernel
theorem d_L_575 : decode code 575 = .ok (.iload_n 3, 1) := by decide +kernel
theorem d_L_576 : decode code 576 = .ok (.iconst 1, 1) := by decide +kernel
theorem d_L_577 : decode code 577 = .ok (.iadd, 1) := by decide +kernel
theorem d_L_578 : decode code 578 = .ok (.iaload, 1) := by decide +kernel
theorem d_L_579 : decode code 579 = .ok (.aload_n 0, 1) := by decide +kernel
theorem d_L_580 : decode code 580 = .ok (.iload_n 3, 1) := by decide +kernel
theorem d_L_581 : decode code 581 = .ok (.iconst 2, 1) := by decide +kernel
theorem d_L_582 : decode code 582 = .ok (.iadd, 1) := by decide +kernel
theorem d_L_583 : decode code 583 = .ok (.iaload, 1) := by decide +kernel
theorem d_L_584 : decode code 584 = .ok (.invokevirtual 60, 3) := by decide +kernel
theorem d_L_587 : decode code 587 = .ok (.if_icmp .eq 1125, 3) := by decide +kernel
theorem d_L_590 : decode code 590 = .ok (.iconst 0, 1) := by decide +kernel
theorem d_L_591 : decode code 591 = .ok (.ireturn, 1) := by decide +kernel
theorem d_L_592 : decode code 592 = .ok (.aload_n 1, 1) := by decide +kernel
theorem d_L_593 : decode code 593 = .ok (.aload_n 0, 1) := by decide +kernel
theorem d_L_594 : decode code 594 = .ok (.iload_n 3, 1) := by decide +kernel
theorem d_L_595 : decode code 595 = .ok (.iconst 1, 1) := by decide +kernel
theorem d_L_596 : decode code 596 = .ok (.iadd, 1) := by decide +kernel
theorem d_L_597 : decode code 597 = .ok (.iaload, 1) := by decide +kernel
theorem d_L_598 : decode code 598 = .ok (.aload_n 0, 1) := by decide +kernel
theorem d_L_599 : decode code 599 = .ok (.iload_n 3, 1) := by decide +kernel
theorem d_L_600 : decode code 600 = .ok (.iconst 2, 1) := by decide +kernel
theorem d_L_601 : decode code 601 = .ok (.iadd, 1) := by decide +kernel
theorem d_L_602 : decode code 602 = .ok (.iaload, 1) := by decide +kernel
theorem d_L_603 : decode code 603 = .ok (.invokevirtual 61, 3) := by decide +kernel
theorem d_L_606 : decode code 606 = .ok (.aload_n 2, 1) := by decide +kernel
theorem d_L_607 : decode code 607 = .ok (.aload_n 0, 1) := by decide +kernel
theorem d_L_608 : decode code 608 = .ok (.iload_n 3, 1) := by decide +kernel
theorem d_L_609 : decode code 609 = .ok (.iconst 1, 1) := by decide +kernel
theorem d_L_610 : decode code 610 = .ok (.iadd, 1) := by decide +kernel
theorem d_L_611 : decode code 611 = .ok (.iaload, 1) := by decide +kernel
theorem d_L_612 : decode code 612 = .ok (.aload_n 0, 1) := by decide +kernel
theorem d_L_613 : decode code 613 = .ok (.iload_n 3, 1) := by decide +kernel
theorem d_L_614 : decode code 614 = .ok (.iconst 2, 1) := by decide +kernel
theorem d_L_615 : decode code 615 = .ok (.iadd, 1) := by decide +kernel
theorem d_L_616 : decode code 616 = .ok (.iaload, 1) := by decide +kernel
theorem d_L_617 : decode code 617 = .ok (.invokevirtual 64, 3) := by decide +kernel
theorem d_L_620 : decode code 620 = .ok (.if_icmp .eq 1092, 3) := by decide +kernel
theorem d_L_623 : decode code 623 = .ok (.iconst 0, 1) := by decide +kernel
theorem d_L_624 : decode code 624 = .ok (.ireturn, 1) := by decide +kernel
theorem d_L_625 : decode code 625 = .ok (.aload_n 1, 1) := by decide +kernel
theorem d_L_626 : decode code 626 = .ok (.aload_n 0, 1) := by decide +kernel
theorem d_L_627 : decode code 627 = .ok (.iload_n 3, 1) := by decide +kernel
theorem d_L_628 : decode code 628 = .ok (.iconst 1, 1) := by decide +kernel
theorem d_L_629 : decode code 629 = .ok (.iadd, 1) := by decide +kernel
theorem d_L_630 : decode code 630 = .ok (.iaload, 1) := by decide +kernel
theorem d_L_631 : decode code 631 = .ok (.aload_n 0, 1) := by decide +kernel
theorem d_L_632 : decode code 632 = .ok (.iload_n 3, 1) := by decide +kernel
theorem d_L_633 : decode code 633 = .ok (.iconst 2, 1) := by decide +kernel
theorem d_L_634 : decode code 634 = .ok (.iadd, 1) := by decide +kernel
theorem d_L_635 : decode code 635 = .ok (.iaload, 1) := by decide +kernel
theorem d_L_636 : decode code 636 = .ok (.invokevirtual 65, 3) := by decide +kernel
theorem d_L_639 : decode code 639 = .ok (.aload_n 2, 1) := by decide +kernel
theorem d_L_640 : decode code 640 = .ok (.aload_n 0, 1) := by decide +kernel
theorem d_L_641 : decode code 641 = .ok (.iload_n 3, 1) := by decide +kernel
theorem d_L_642 : decode code 642 = .ok (.iconst 1, 1) := by decide +kernel
theorem d_L_643 : decode code 643 = .ok (.iadd, 1) := by decide +kernel
theorem d_L_644 : decode code 644 = .ok (.iaload, 1) := by decide +kernel
theorem d_L_645 : decode code 645 = .ok (.aload_n 0, 1) := by decide +kernel
theorem d_L_646 : decode code 646 = .ok (.iload_n 3, 1) := by decide +kernel
theorem d_L_647 : decode code 647 = .ok (.iconst 2, 1) := by decide +kernel
theorem d_L_648 : decode code 648 = .ok (.iadd, 1) := by decide +kernel
theorem d_L_649 : decode code 649 = .ok (.iaload, 1) := by decide +kernel
theorem d_L_650 : decode code 650 = .ok (.invokevirtual 68, 3) := by decide +kernel
theorem d_L_653 : decode code 653 = .ok (.if_icmp .eq 1059, 3) := by decide +kernel
theorem d_L_656 : decode code 656 = .ok (.iconst 0, 1) := by decide +kernel
theorem d_L_657 : decode code 657 = .ok (.ireturn, 1) := by decide +kernel
theorem d_L_658 : decode code 658 = .ok (.aload_n 1, 1) := by decide +kernel
theorem d_L_659 : decode code 659 = .ok (.aload_n 0, 1) := by decide +kernel
theorem d_L_660 : decode code 660 = .ok (.iload_n 3, 1) := by decide +kernel
theorem d_L_661 : decode code 661 = .ok (.iconst 1, 1) := by decide +kernel
theorem d_L_662 : decode code 662 = .ok (.iadd, 1) := by decide +kernel
theorem d_L_663 : decode code 663 = .ok (.iaload, 1) := by decide +kernel
theorem d_L_664 : decode code 664 = .ok (.aload_n 0, 1) := by decide +kernel
theorem d_L_665 : decode code 665 = .ok (.iload_n 3, 1) := by decide +kernel
theorem d_L_666 : decode code 666 = .ok (.iconst 2, 1) := by decide +kernel
theorem d_L_667 : decode code 667 = .ok (.iadd, 1) := by decide +kernel
theorem d_L_668 : decode code 668 = .ok (.iaload, 1) := by decide +kernel
theorem d_L_669 : decode code 669 = .ok (.invokevirtual 69, 3) := by decide +kernel
theorem d_L_672 : decode code 672 = .ok (.aload_n 2, 1) := by decide +kernel
theorem d_L_673 : decode code 673 = .ok (.aload_n 0, 1) := by decide +kernel
theorem d_L_674 : decode code 674 = .ok (.iload_n 3, 1) := by decide +kernel
theorem d_L_675 : decode code 675 = .ok (.iconst 1, 1) := by decide +kernel
theorem d_L_676 : decode code 676 = .ok (.iadd, 1) := by decide +kernel
theorem d_L_677 : decode code 677 = .ok (.iaload, 1) := by decide +kernel
theorem d_L_678 : decode code 678 = .ok (.aload_n 0, 1) := by decide +kernel
theorem d_L_679 : decode code 679 = .ok (.iload_n 3, 1) := by decide +kernel
theorem d_L_680 : decode code 680 = .ok (.iconst 2, 1) := by decide +kernel
theorem d_L_681 : decode code 681 = .ok (.iadd, 1) := by decide +kernel
theorem d_L_682 : decode code 682 = .ok (.iaload, 1) := by decide +kernel
theorem d_L_683 : decode code 683 = .ok (.invokevirtual 72, 3) := by decide +kernel
theorem d_L_686 : decode code 686 = .ok (.if_icmp .eq 1026, 3) := by decide +kernel
theorem d_L_689 : decode code 689 = .ok (.iconst 0, 1) := by decide +kernel
theorem d_L_690 : decode code 690 = .ok (.ireturn, 1) := by decide +kernel
theorem d_L_691 : decode code 691 = .ok (.aload_n 1, 1) := by decide +kernel
theorem d_L_692 : decode code 692 = .ok (.aload_n 0, 1) := by decide +kernel
theorem d_L_693 : decode code 693 = .ok (.iload_n 3, 1) := by decide +kernel
theorem d_L_694 : decode code 694 = .ok (.iconst 1, 1) := by decide +kernel
theorem d_L_695 : decode code 695 = .ok (.iadd, 1) := by decide +kernel
theorem d_L_696 : decode code 696 = .ok (.iaload, 1) := by decide +kernel
theorem d_L_697 : decode code 697 = .ok (.invokevirtual 73, 3) := by decide +kernel
theorem d_L_700 : decode code 700 = .ok (.aload_n 2, 1) := by decide +kernel
theorem d_L_701 : decode code 701 = .ok (.aload_n 0, 1) := by decide +kernel
theorem d_L_702 : decode code 702 = .ok (.iload_n 3, 1) := by decide +kernel
theorem d_L_703 : decode code 703 = .ok (.iconst 1, 1) := by decide +kernel
theorem d_L_704 : decode code 704 = .ok (.iadd, 1) := by decide +kernel
theorem d_L_705 : decode code 705 = .ok (.iaload, 1) := by decide +kernel
theorem d_L_706 : decode code 706 = .ok (.invokevirtual 76, 3) := by decide +kernel
theorem d_L_709 : decode code 709 = .ok (.if_icmp .eq 1003, 3) := by decide +kernel
theorem d_L_712 : decode code 712 = .ok (.iconst 0, 1) := by decide +kernel
theorem d_L_713 : decode code 713 = .ok (.ireturn, 1) := by decide +kernel
theorem d_L_714 : decode code 714 = .ok (.aload_n 1, 1) := by decide +kernel
theorem d_L_715 : decode code 715 = .ok (.aload_n 0, 1) := by decide +kernel
theorem d_L_716 : decode code 716 = .ok (.iload_n 3, 1) := by decide +kernel
theorem d_L_717 : decode code 717 = .ok (.iconst 1, 1) := by decide +kernel
theorem d_L_718 : decode code 718 = .ok (.iadd, 1) := by decide +kernel
theorem d_L_719 : decode code 719 = .ok (.iaload, 1) := by decide +kernel
theorem d_L_720 : decode code 720 = .ok (.invokevirtual 77, 3) := by decide +kernel
theorem d_L_723 : decode code 723 = .ok (.aload_n 2, 1) := by decide +kernel
theorem d_L_724 : decode code 724 = .ok (.aload_n 0, 1) := by decide +kernel
theorem d_L_725 : decode code 725 = .ok (.iload_n 3, 1) := by decide +kernel
theorem d_L_726 : decode code 726 = .ok (.iconst 1, 1) := by decide +kernel
theorem d_L_727 : decode code 727 = .ok (.iadd, 1) := by decide +kernel
theorem d_L_728 : decode code 728 = .ok (.iaload, 1) := by decide +kernel
theorem d_L_729 : decode code 729 = .ok (.invokevirtual 80, 3) := by decide +kernel
theorem d_L_732 : decode code 732 = .ok (.if_icmp .eq 980, 3) := by decide +kernel
theorem d_L_735 : decode code 735 = .ok (.iconst 0, 1) := by decide +kernel
theorem d_L_736 : decode code 736 = .ok (.ireturn, 1) := by decide +kernel
theorem d_L_737 : decode code 737 = .ok (.aload_n 1, 1) := by decide +kernel
theorem d_L_738 : decode code 738 = .ok (.invokevirtual 81, 3) := by decide +kernel
theorem d_L_741 : decode code 741 = .ok (.aload_n 2, 1) := by decide +kernel
theorem d_L_742 : decode code 742 = .ok (.invokevirtual 84, 3) := by decide +kernel
theorem d_L_745 : decode code 745 = .ok (.if_icmp .eq 967, 3) := by decide +kernel
theorem d_L_748 : decode code 748 = .ok (.iconst 0, 1) := by decide +kernel
theorem d_L_749 : decode code 749 = .ok (.ireturn, 1) := by decide +kernel
theorem d_L_750 : decode code 750 = .ok (.aload_n 1, 1) := by decide +kernel
theorem d_L_751 : decode code 751 = .ok (.aload_n 0, 1) := by decide +kernel
theorem d_L_752 : decode code 752 = .ok (.iload_n 3, 1) := by decide +kernel
theorem d_L_753 : decode code 753 = .ok (.iconst 1, 1) := by decide +kernel
theorem d_L_754 : decode code 754 = .ok (.iadd, 1) := by decide +kernel
theorem d_L_755 : decode code 755 = .ok (.iaload, 1) := by decide +kernel
theorem d_L_756 : decode code 756 = .ok (.invokevirtual 85, 3) := by decide +kernel
theorem d_L_759 : decode code 759 = .ok (.aload_n 2, 1) := by decide +kernel
theorem d_L_760 : decode code 760 = .ok (.aload_n 0, 1) := by decide +kernel
theorem d_L_761 : decode code 761 = .ok (.iload_n 3, 1) := by decide +kernel
theorem d_L_762 : decode code 762 = .ok (.iconst 1, 1) := by decide +kernel
theorem d_L_763 : decode code 763 = .ok (.iadd, 1) := by decide +kernel
theorem d_L_764 : decode code 764 = .ok (.iaload, 1) := by decide +kernel
theorem d_L_765 : decode code 765 = .ok (.invokevirtual 88, 3) := by decide +kernel
theorem d_L_768 : decode code 768 = .ok (.if_icmp .eq 944, 3) := by decide +kernel
theorem d_L_771 : decode code 771 = .ok (.iconst 0, 1) := by decide +kernel
theorem d_L_772 : decode code 772 = .ok (.ireturn, 1) := by decide +kernel
theorem d_L_773 : decode code 773 = .ok (.aload_n 1, 1) := by decide +kernel
theorem d_L_774 : decode code 774 = .ok (.aload_n 0, 1) := by decide +kernel
theorem d_L_775 : decode code 775 = .ok (.iload_n 3, 1) := by decide +kernel
theorem d_L_776 : decode code 776 = .ok (.iconst 1, 1) := by decide +kernel
theorem d_L_777 : decode code 777 = .ok (.iadd, 1) := by decide +kernel
theorem d_L_778 : decode code 778 = .ok (.iaload, 1) := by decide +kernel
theorem d_L_779 : decode code 779 = .ok (.invokevirtual 89, 3) := by decide +kernel
theorem d_L_782 : decode code 782 = .ok (.aload_n 2, 1) := by decide +kernel
theorem d_L_783 : decode code 783 = .ok (.aload_n 0, 1) := by decide +kernel
theorem d_L_784 : decode code 784 = .ok (.iload_n 3, 1) := by decide +kernel
theorem d_L_785 : decode code 785 = .ok (.iconst 1, 1) := by decide +kernel
theorem d_L_786 : decode code 786 = .ok (.iadd, 1) := by decide +kernel
theorem d_L_787 : decode code 787 = .ok (.iaload, 1) := by decide +kernel
theorem d_L_788 : decode code 788 = .ok (.invokevirtual 92, 3) := by decide +kernel
theorem d_L_791 : decode code 791 = .ok (.if_icmp .eq 921, 3) := by decide +kernel
theorem d_L_794 : decode code 794 = .ok (.iconst 0, 1) := by decide +kernel
theorem d_L_795 : decode code 795 = .ok (.ireturn, 1) := by decide +kernel
theorem d_L_796 : decode code 796 = .ok (.aload_n 1, 1) := by decide +kernel
theorem d_L_797 : decode code 797 = .ok (.aload_n 0, 1) := by decide +kernel
theorem d_L_798 : decode code 798 = .ok (.iload_n 3, 1) := by decide +kernel
theorem d_L_799 : decode code 799 = .ok (.iconst 1, 1) := by decide +kernel
theorem d_L_800 : decode code 800 = .ok (.iadd, 1) := by decide +kernel
theorem d_L_801 : decode code 801 = .ok (.iaload, 1) := by decide +kernel
theorem d_L_802 : decode code 802 = .ok (.aload_n 0, 1) := by decide +kernel
theorem d_L_803 : decode code 803 = .ok (.iload_n 3, 1) := by decide +kernel
theorem d_L_804 : decode code 804 = .ok (.iconst 2, 1) := by decide +kernel
theorem d_L_805 : decode code 805 = .ok (.iadd, 1) := by decide +kernel
theorem d_L_806 : decode code 806 = .ok (.iaload, 1) := by decide +kernel
theorem d_L_807 : decode code 807 = .ok (.invokevirtual 93, 3) := by decide +kernel
theorem d_L_810 : decode code 810 = .ok (.aload_n 2, 1) := by decide +kernel
theorem d_L_811 : decode code 811 = .ok (.aload_n 0, 1) := by decide +kernel
theorem d_L_812 : decode code 812 = .ok (.iload_n 3, 1) := by decide +kernel
theorem d_L_813 : decode code 813 = .ok (.iconst 1, 1) := by decide +kernel
theorem d_L_814 : decode code 814 = .ok (.iadd, 1) := by decide +kernel
theorem d_L_815 : decode code 815 = .ok (.iaload, 1) := by decide +kernel
theorem d_L_816 : decode code 816 = .ok (.aload_n 0, 1) := by decide +kernel
theorem d_L_817 : decode code 817 = .ok (.iload_n 3, 1) := by decide +kernel
theorem d_L_818 : decode code 818 = .ok (.iconst 2, 1) := by decide +kernel
theorem d_L_819 : decode code 819 = .ok (.iadd, 1) := by decide +kernel
theorem d_L_820 : decode code 820 = .ok (.iaload, 1) := by decide +kernel
theorem d_L_821 : decode code 821 = .ok (.invokevirtual 96, 3) := by decide +kernel
theorem d_L_824 : decode code 824 = .ok (.if_icmp .eq 888, 3) := by decide +kernel
theorem d_L_827 : decode code 827 = .ok (.iconst 0, 1) := by decide +kernel
theorem d_L_828 : decode code 828 = .ok (.ireturn, 1) := by decide +kernel
theorem d_L_829 : decode code 829 = .ok (.aload_n 1, 1) := by decide +kernel
theorem d_L_830 : decode code 830 = .ok (.aload_n 0, 1) := by decide +kernel
theorem d_L_831 : decode code 831 = .ok (.iload_n 3, 1) := by decide +kernel
theorem d_L_832 : decode code 832 = .ok (.iconst 1, 1) := by decide +kernel
theorem d_L_833 : decode code 833 = .ok (.iadd, 1) := by decide +kernel
theorem d_L_834 : decode code 834 = .ok (.iaload, 1) := by decide +kernel
theorem d_L_835 : decode code 835 = .ok (.invokevirtual 97, 3) := by decide +kernel
theorem d_L_838 : decode code 838 = .ok (.aload_n 2, 1) := by decide +kernel
theorem d_L_839 : decode code 839 = .ok (.aload_n 0, 1) := by decide +kernel
theorem d_L_840 : decode code 840 = .ok (.iload_n 3, 1) := by decide +kernel
theorem d_L_841 : decode code 841 = .ok (.iconst 1, 1) := by decide +kernel
theorem d_L_842 : decode code 842 = .ok (.iadd, 1) := by decide +kernel
theorem d_L_843 : decode code 843 = .ok (.iaload, 1) := by decide +kernel
theorem d_L_844 : decode code 844 = .ok (.invokevirtual 100, 3) := by decide +kernel
theorem d_L_847 : decode code 847 = .ok (.if_icmp .eq 865, 3) := by decide +kernel
theorem d_L_850 : decode code 850 = .ok (.iconst 0, 1) := by decide +kernel
theorem d_L_851 : decode code 851 = .ok (.ireturn, 1) := by decide +kernel
theorem d_L_852 : decode code 852 = .ok (.aload_n 1, 1) := by decide +kernel
theorem d_L_853 : decode code 853 = .ok (.aload_n 0, 1) := by decide +kernel
theorem d_L_854 : decode code 854 = .ok (.iload_n 3, 1) := by decide +kernel
theorem d_L_855 : decode code 855 = .ok (.iconst 1, 1) := by decide +kernel
theorem d_L_856 : decode code 856 = .ok (.iadd, 1) := by decide +kernel
theorem d_L_857 : decode code 857 = .ok (.iaload, 1) := by decide +kernel
theorem d_L_858 : decode code 858 = .ok (.aload_n 0, 1) := by decide +kernel
theorem d_L_859 : decode code 859 = .ok (.iload_n 3, 1) := by decide +kernel
theorem d_L_860 : decode code 860 = .ok (.iconst 2, 1) := by decide +kernel
theorem d_L_861 : decode code 861 = .ok (.iadd, 1) := by decide +kernel
theorem d_L_862 : decode code 862 = .ok (.iaload, 1) := by decide +kernel
theorem d_L_863 : decode code 863 = .ok (.invokevirtual 101, 3) := by decide +kernel
theorem d_L_866 : decode code 866 = .ok (.aload_n 2, 1) := by decide +kernel
theorem d_L_867 : decode code 867 = .ok (.aload_n 0, 1) := by decide +kernel
theorem d_L_868 : decode code 868 = .ok (.iload_n 3, 1) := by decide +kernel
theorem d_L_869 : decode code 869 = .ok (.iconst 1, 1) := by decide +kernel
theorem d_L_870 : decode code 870 = .ok (.iadd, 1) := by decide +kernel
theorem d_L_871 : decode code 871 = .ok (.iaload, 1) := by decide +kernel
theorem d_L_872 : decode code 872 = .ok (.aload_n 0, 1) := by decide +kernel
theorem d_L_873 : decode code 873 = .ok (.iload_n 3, 1) := by decide +kernel
theorem d_L_874 : decode code 874 = .ok (.iconst 2, 1) := by decide +kernel
theorem d_L_875 : decode code 875 = .ok (.iadd, 1) := by decide +kernel
theorem d_L_876 : decode code 876 = .ok (.iaload, 1) := by decide +kernel
theorem d_L_877 : decode code 877 = .ok (.invokevirtual 104, 3) := by decide +kernel
theorem d_L_880 : decode code 880 = .ok (.if_icmp .eq 832, 3) := by decide +kernel
theorem d_L_883 : decode code 883 = .ok (.iconst 0, 1) := by decide +kernel
theorem d_L_884 : decode code 884 = .ok (.ireturn, 1) := by decide +kernel
theorem d_L_885 : decode code 885 = .ok (.aload_n 1, 1) := by decide +kernel
theorem d_L_886 : decode code 886 = .ok (.invokevirtual 105, 3) := by decide +kernel
theorem d_L_889 : decode code 889 = .ok (.aload_n 2, 1) := by decide +kernel
theorem d_L_890 : decode code 890 = .ok (.invokevirtual 108, 3) := by decide +kernel
theorem d_L_893 : decode code 893 = .ok (.if_icmp .eq 819, 3) := by decide +kernel
theorem d_L_896 : decode code 896 = .ok (.iconst 0, 1) := by decide +kernel
theorem d_L_897 : decode code 897 = .ok (.ireturn, 1) := by decide +kernel
theorem d_L_898 : decode code 898 = .ok (.aload_n 1, 1) := by decide +kernel
theorem d_L_899 : decode code 899 = .ok (.aload_n 0, 1) := by decide +kernel
theorem d_L_900 : decode code 900 = .ok (.iload_n 3, 1) := by decide +kernel
theorem d_L_901 : decode code 901 = .ok (.iconst 1, 1) := by decide +kernel
theorem d_L_902 : decode code 902 = .ok (.iadd, 1) := by decide +kernel
theorem d_L_903 : decode code 903 = .ok (.iaload, 1) := by decide +kernel
theorem d_L_904 : decode code 904 = .ok (.invokevirtual 109, 3) := by decide +kernel
theorem d_L_907 : decode code 907 = .ok (.aload_n 2, 1) := by decide +kernel
theorem d_L_908 : decode code 908 = .ok (.aload_n 0, 1) := by decide +kernel
theorem d_L_909 : decode code 909 = .ok (.iload_n 3, 1) := by decide +kernel
theorem d_L_910 : decode code 910 = .ok (.iconst 1, 1) := by decide +kernel
theorem d_L_911 : decode code 911 = .ok (.iadd, 1) := by decide +kernel
theorem d_L_912 : decode code 912 = .ok (.iaload, 1) := by decide +kernel
theorem d_L_913 : decode code 913 = .ok (.invokevirtual 112, 3) := by decide +kernel
theorem d_L_916 : decode code 916 = .ok (.if_icmp .eq 796, 3) := by decide +kernel
theorem d_L_919 : decode code 919 = .ok (.iconst 0, 1) := by decide +kernel
theorem d_L_920 : decode code 920 = .ok (.ireturn, 1) := by decide +kernel
theorem d_L_921 : decode code 921 = .ok (.aload_n 1, 1) := by decide +kernel
theorem d_L_922 : decode code 922 = .ok (.aload_n 0, 1) := by decide +kernel
theorem d_L_923 : decode code 923 = .ok (.iload_n 3, 1) := by decide +kernel
theorem d_L_924 : decode code 924 = .ok (.iconst 1, 1) := by decide +kernel
theorem d_L_925 : decode code 925 = .ok (.iadd, 1) := by decide +kernel
theorem d_L_926 : decode code 926 = .ok (.iaload, 1) := by decide +kernel
theorem d_L_927 : decode code 927 = .ok (.aload_n 0, 1) := by decide +kernel
theorem d_L_928 : decode code 928 = .ok (.iload_n 3, 1) := by decide +kernel
theorem d_L_929 : decode code 929 = .ok (.iconst 2, 1) := by decide +kernel
theorem d_L_930 : decode code 930 = .ok (.iadd, 1) := by decide +kernel
theorem d_L_931 : decode code 931 = .ok (.iaload, 1) := by decide +kernel
theorem d_L_932 : decode code 932 = .ok (.invokevirtual 113, 3) := by decide +kernel
theorem d_L_935 : decode code 935 = .ok (.aload_n 2, 1) := by decide +kernel
theorem d_L_936 : decode code 936 = .ok (.aload_n 0, 1) := by decide +kernel
theorem d_L_937 : decode code 937 = .ok (.iload_n 3, 1) := by decide +kernel
theorem d_L_938 : decode code 938 = .ok (.iconst 1, 1) := by decide +kernel
theorem d_L_939 : decode code 939 = .ok (.iadd, 1) := by decide +kernel
theorem d_L_940 : decode code 940 = .ok (.iaload, 1) := by decide +kernel
theorem d_L_941 : decode code 941 = .ok (.aload_n 0, 1) := by decide +kernel
theorem d_L_942 : decode code 942 = .ok (.iload_n 3, 1) := by decide +kernel
theorem d_L_943 : decode code 943 = .ok (.iconst 2, 1) := by decide +kernel
theorem d_L_944 : decode code 944 = .ok (.iadd, 1) := by decide +kernel
theorem d_L_945 : decode code 945 = .ok (.iaload, 1) := by decide +kernel
theorem d_L_946 : decode code 946 = .ok (.invokevirtual 116, 3) := by decide +kernel
theorem d_L_949 : decode code 949 = .ok (.if_icmp .eq 763, 3) := by decide +kernel
theorem d_L_952 : decode code 952 = .ok (.iconst 0, 1) := by decide +kernel
theorem d_L_953 : decode code 953 = .ok (.ireturn, 1) := by decide +kernel
theorem d_L_954 : decode code 954 = .ok (.aload_n 1, 1) := by decide +kernel
theorem d_L_955 : decode code 955 = .ok (.aload_n 0, 1) := by decide +kernel
theorem d_L_956 : decode code 956 = .ok (.iload_n 3, 1) := by decide +kernel
theorem d_L_957 : decode code 957 = .ok (.iconst 1, 1) := by decide +kernel
theorem d_L_958 : decode code 958 = .ok (.iadd, 1) := by decide +kernel
theorem d_L_959 : decode code 959 = .ok (.iaload, 1) := by decide +kernel
theorem d_L_960 : decode code 960 = .ok (.aload_n 0, 1) := by decide +kernel
theorem d_L_961 : decode code 961 = .ok (.iload_n 3, 1) := by decide +kernel
theorem d_L_962 : decode code 962 = .ok (.iconst 2, 1) := by decide +kernel
theorem d_L_963 : decode code 963 = .ok (.iadd, 1) := by decide +kernel
theorem d_L_964 : decode code 964 = .ok (.iaload, 1) := by decide +kernel
theorem d_L_965 : decode code 965 = .ok (.invokevirtual 117, 3) := by decide +kernel
theorem d_L_968 : decode code 968 = .ok (.aload_n 2, 1) := by decide +kernel
theorem d_L_969 : decode code 969 = .ok (.aload_n 0, 1) := by decide +kernel
theorem d_L_970 : decode code 970 = .ok (.iload_n 3, 1) := by decide +kernel
theorem d_L_971 : decode code 971 = .ok (.iconst 1, 1) := by decide +kernel
theorem d_L_972 : decode code 972 = .ok (.iadd, 1) := by decide +kernel
theorem d_L_973 : decode code 973 = .ok (.iaload, 1) := by decide +kernel
theorem d_L_974 : decode code 974 = .ok (.aload_n 0, 1) := by decide +kernel
theorem d_L_975 : decode code 975 = .ok (.iload_n 3, 1) := by decide +kernel
theorem d_L_976 : decode code 976 = .ok (.iconst 2, 1) := by decide +kernel
theorem d_L_977 : decode code 977 = .ok (.iadd, 1) := by decide +kernel
theorem d_L_978 : decode code 978 = .ok (.iaload, 1) := by decide +kernel
theorem d_L_979 : decode code 979 = .ok (.invokevirtual 120, 3) := by decide +kernel
theorem d_L_982 : decode code 982 = .ok (.if_icmp .eq 730, 3) := by decide +kernel
theorem d_L_985 : decode code 985 = .ok (.iconst 0, 1) := by decide +kernel
