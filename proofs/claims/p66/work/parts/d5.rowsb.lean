/-! what the bytes of the law say -/
theorem dL_law_264 : decode cL_law 264 = .ok (.iconst 5, 1) := by decide +kernel
theorem dL_law_265 : decode cL_law 265 = .ok (.invokestatic 214, 3) := by decide +kernel
theorem dL_law_268 : decode cL_law 268 = .ok (.ifCond .eq 50, 3) := by decide +kernel
theorem dL_law_271 : decode cL_law 271 = .ok (.aload_n 1, 1) := by decide +kernel
theorem dL_law_272 : decode cL_law 272 = .ok (.ldc 231, 2) := by decide +kernel
theorem dL_law_274 : decode cL_law 274 = .ok (.iconst 5, 1) := by decide +kernel
theorem dL_law_275 : decode cL_law 275 = .ok (.invokestatic 214, 3) := by decide +kernel
theorem dL_law_278 : decode cL_law 278 = .ok (.ifCond .eq 40, 3) := by decide +kernel
theorem dL_law_281 : decode cL_law 281 = .ok (.aload_n 1, 1) := by decide +kernel
theorem dL_law_282 : decode cL_law 282 = .ok (.ldc 233, 2) := by decide +kernel
theorem dL_law_284 : decode cL_law 284 = .ok (.bipush 7, 2) := by decide +kernel
theorem dL_law_286 : decode cL_law 286 = .ok (.invokestatic 214, 3) := by decide +kernel
theorem dL_law_289 : decode cL_law 289 = .ok (.ifCond .eq 29, 3) := by decide +kernel
theorem dL_law_292 : decode cL_law 292 = .ok (.aload_n 1, 1) := by decide +kernel
theorem dL_law_293 : decode cL_law 293 = .ok (.ldc 235, 2) := by decide +kernel
theorem dL_law_295 : decode cL_law 295 = .ok (.iconst 0, 1) := by decide +kernel
theorem dL_law_296 : decode cL_law 296 = .ok (.invokestatic 214, 3) := by decide +kernel
theorem dL_law_299 : decode cL_law 299 = .ok (.ifCond .eq 19, 3) := by decide +kernel
theorem dL_law_302 : decode cL_law 302 = .ok (.aload_n 1, 1) := by decide +kernel
theorem dL_law_303 : decode cL_law 303 = .ok (.invokevirtual 207, 3) := by decide +kernel
theorem dL_law_306 : decode cL_law 306 = .ok (.ifCond .ne 12, 3) := by decide +kernel
theorem dL_law_309 : decode cL_law 309 = .ok (.aload_n 1, 1) := by decide +kernel
theorem dL_law_310 : decode cL_law 310 = .ok (.invokestatic 185, 3) := by decide +kernel
theorem dL_law_313 : decode cL_law 313 = .ok (.iload 4, 2) := by decide +kernel
theorem dL_law_315 : decode cL_law 315 = .ok (.if_icmp .eq 5, 3) := by decide +kernel
theorem dL_law_318 : decode cL_law 318 = .ok (.iconst 0, 1) := by decide +kernel
theorem dL_law_319 : decode cL_law 319 = .ok (.ireturn, 1) := by decide +kernel
theorem dL_law_320 : decode cL_law 320 = .ok (.iconst 1, 1) := by decide +kernel
theorem dL_law_321 : decode cL_law 321 = .ok (.aload_n 0, 1) := by decide +kernel
theorem dL_law_322 : decode cL_law 322 = .ok (.bipush 13, 2) := by decide +kernel
theorem dL_law_324 : decode cL_law 324 = .ok (.invokestatic 24, 3) := by decide +kernel
theorem dL_law_327 : decode cL_law 327 = .ok (.bipush 7, 2) := by decide +kernel
theorem dL_law_329 : decode cL_law 329 = .ok (.iand, 1) := by decide +kernel
theorem dL_law_330 : decode cL_law 330 = .ok (.iadd, 1) := by decide +kernel
theorem dL_law_331 : decode cL_law 331 = .ok (.istore 5, 2) := by decide +kernel
theorem dL_law_333 : decode cL_law 333 = .ok (.new 18, 3) := by decide +kernel
theorem dL_law_336 : decode cL_law 336 = .ok (.dup, 1) := by decide +kernel
theorem dL_law_337 : decode cL_law 337 = .ok (.invokespecial 23, 3) := by decide +kernel
theorem dL_law_340 : decode cL_law 340 = .ok (.astore 6, 2) := by decide +kernel
theorem dL_law_342 : decode cL_law 342 = .ok (.aload 6, 2) := by decide +kernel
theorem dL_law_344 : decode cL_law 344 = .ok (.invokevirtual 237, 3) := by decide +kernel
theorem dL_law_347 : decode cL_law 347 = .ok (.ifCond .eq 130, 3) := by decide +kernel
theorem dL_law_350 : decode cL_law 350 = .ok (.aload 6, 2) := by decide +kernel
theorem dL_law_352 : decode cL_law 352 = .ok (.invokevirtual 30, 3) := by decide +kernel
theorem dL_law_355 : decode cL_law 355 = .ok (.bipush 6, 2) := by decide +kernel
theorem dL_law_357 : decode cL_law 357 = .ok (.if_icmp .ne 120, 3) := by decide +kernel
theorem dL_law_360 : decode cL_law 360 = .ok (.aload 6, 2) := by decide +kernel
theorem dL_law_362 : decode cL_law 362 = .ok (.iconst 0, 1) := by decide +kernel
theorem dL_law_363 : decode cL_law 363 = .ok (.invokevirtual 241, 3) := by decide +kernel
theorem dL_law_366 : decode cL_law 366 = .ok (.ldc2_w 244, 3) := by decide +kernel
theorem dL_law_369 : decode cL_law 369 = .ok (.lcmp, 1) := by decide +kernel
theorem dL_law_370 : decode cL_law 370 = .ok (.ifCond .ne 107, 3) := by decide +kernel
theorem dL_law_373 : decode cL_law 373 = .ok (.aload 6, 2) := by decide +kernel
theorem dL_law_375 : decode cL_law 375 = .ok (.iconst 3, 1) := by decide +kernel
theorem dL_law_376 : decode cL_law 376 = .ok (.invokevirtual 241, 3) := by decide +kernel
theorem dL_law_379 : decode cL_law 379 = .ok (.ldc2_w 244, 3) := by decide +kernel
theorem dL_law_382 : decode cL_law 382 = .ok (.lcmp, 1) := by decide +kernel
theorem dL_law_383 : decode cL_law 383 = .ok (.ifCond .ne 94, 3) := by decide +kernel
theorem dL_law_386 : decode cL_law 386 = .ok (.aload 6, 2) := by decide +kernel
theorem dL_law_388 : decode cL_law 388 = .ok (.invokevirtual 246, 3) := by decide +kernel
theorem dL_law_391 : decode cL_law 391 = .ok (.ldc2_w 244, 3) := by decide +kernel
theorem dL_law_394 : decode cL_law 394 = .ok (.lcmp, 1) := by decide +kernel
theorem dL_law_395 : decode cL_law 395 = .ok (.ifCond .ne 82, 3) := by decide +kernel
theorem dL_law_398 : decode cL_law 398 = .ok (.aload 6, 2) := by decide +kernel
theorem dL_law_400 : decode cL_law 400 = .ok (.invokevirtual 42, 3) := by decide +kernel
theorem dL_law_403 : decode cL_law 403 = .ok (.ifCond .ne 74, 3) := by decide +kernel
theorem dL_law_406 : decode cL_law 406 = .ok (.aload 6, 2) := by decide +kernel
theorem dL_law_408 : decode cL_law 408 = .ok (.iconst 0, 1) := by decide +kernel
theorem dL_law_409 : decode cL_law 409 = .ok (.invokevirtual 250, 3) := by decide +kernel
theorem dL_law_412 : decode cL_law 412 = .ok (.iconst 1, 1) := by decide +kernel
theorem dL_law_413 : decode cL_law 413 = .ok (.if_icmp .ne 64, 3) := by decide +kernel
theorem dL_law_416 : decode cL_law 416 = .ok (.aload 6, 2) := by decide +kernel
theorem dL_law_418 : decode cL_law 418 = .ok (.invokevirtual 253, 3) := by decide +kernel
theorem dL_law_421 : decode cL_law 421 = .ok (.fconst 0, 1) := by decide +kernel
theorem dL_law_422 : decode cL_law 422 = .ok (.fcmp .l, 1) := by decide +kernel
theorem dL_law_423 : decode cL_law 423 = .ok (.ifCond .ne 54, 3) := by decide +kernel
theorem dL_law_426 : decode cL_law 426 = .ok (.aload 6, 2) := by decide +kernel
theorem dL_law_428 : decode cL_law 428 = .ok (.invokevirtual 257, 3) := by decide +kernel
theorem dL_law_431 : decode cL_law 431 = .ok (.lconst 0, 1) := by decide +kernel
theorem dL_law_432 : decode cL_law 432 = .ok (.lcmp, 1) := by decide +kernel
theorem dL_law_433 : decode cL_law 433 = .ok (.ifCond .ne 44, 3) := by decide +kernel
theorem dL_law_436 : decode cL_law 436 = .ok (.aload 6, 2) := by decide +kernel
theorem dL_law_438 : decode cL_law 438 = .ok (.bipush 15, 2) := by decide +kernel
theorem dL_law_440 : decode cL_law 440 = .ok (.iconst 5, 1) := by decide +kernel
theorem dL_law_441 : decode cL_law 441 = .ok (.iconst 0, 1) := by decide +kernel
theorem dL_law_442 : decode cL_law 442 = .ok (.invokestatic 33, 3) := by decide +kernel
theorem dL_law_445 : decode cL_law 445 = .ok (.ldc 131, 2) := by decide +kernel
theorem dL_law_447 : decode cL_law 447 = .ok (.if_icmp .ne 30, 3) := by decide +kernel
theorem dL_law_450 : decode cL_law 450 = .ok (.aload 6, 2) := by decide +kernel
theorem dL_law_452 : decode cL_law 452 = .ok (.bipush 13, 2) := by decide +kernel
theorem dL_law_454 : decode cL_law 454 = .ok (.iconst 1, 1) := by decide +kernel
theorem dL_law_455 : decode cL_law 455 = .ok (.iconst 0, 1) := by decide +kernel
theorem dL_law_456 : decode cL_law 456 = .ok (.invokestatic 33, 3) := by decide +kernel
theorem dL_law_459 : decode cL_law 459 = .ok (.ldc 68, 2) := by decide +kernel
theorem dL_law_461 : decode cL_law 461 = .ok (.if_icmp .ne 16, 3) := by decide +kernel
theorem dL_law_464 : decode cL_law 464 = .ok (.aload 6, 2) := by decide +kernel
theorem dL_law_466 : decode cL_law 466 = .ok (.iconst 3, 1) := by decide +kernel
theorem dL_law_467 : decode cL_law 467 = .ok (.iconst 0, 1) := by decide +kernel
theorem dL_law_468 : decode cL_law 468 = .ok (.iconst 0, 1) := by decide +kernel
theorem dL_law_469 : decode cL_law 469 = .ok (.invokestatic 33, 3) := by decide +kernel
theorem dL_law_472 : decode cL_law 472 = .ok (.ldc 131, 2) := by decide +kernel
theorem dL_law_474 : decode cL_law 474 = .ok (.if_icmp .eq 5, 3) := by decide +kernel
theorem dL_law_477 : decode cL_law 477 = .ok (.iconst 0, 1) := by decide +kernel
theorem dL_law_478 : decode cL_law 478 = .ok (.ireturn, 1) := by decide +kernel
theorem dL_law_479 : decode cL_law 479 = .ok (.aload 6, 2) := by decide +kernel
theorem dL_law_481 : decode cL_law 481 = .ok (.ldc_w 260, 3) := by decide +kernel
theorem dL_law_484 : decode cL_law 484 = .ok (.invokestatic 191, 3) := by decide +kernel
theorem dL_law_487 : decode cL_law 487 = .ok (.aload 6, 2) := by decide +kernel
theorem dL_law_489 : decode cL_law 489 = .ok (.invokevirtual 195, 3) := by decide +kernel
theorem dL_law_492 : decode cL_law 492 = .ok (.bipush 7, 2) := by decide +kernel
theorem dL_law_494 : decode cL_law 494 = .ok (.if_icmp .ne 216, 3) := by decide +kernel
theorem dL_law_497 : decode cL_law 497 = .ok (.aload 6, 2) := by decide +kernel
theorem dL_law_499 : decode cL_law 499 = .ok (.iconst 0, 1) := by decide +kernel
theorem dL_law_500 : decode cL_law 500 = .ok (.invokevirtual 241, 3) := by decide +kernel
theorem dL_law_503 : decode cL_law 503 = .ok (.ldc2_w 262, 3) := by decide +kernel
theorem dL_law_506 : decode cL_law 506 = .ok (.lcmp, 1) := by decide +kernel
theorem dL_law_507 : decode cL_law 507 = .ok (.ifCond .ne 203, 3) := by decide +kernel
theorem dL_law_510 : decode cL_law 510 = .ok (.aload 6, 2) := by decide +kernel
theorem dL_law_512 : decode cL_law 512 = .ok (.iconst 1, 1) := by decide +kernel
theorem dL_law_513 : decode cL_law 513 = .ok (.invokevirtual 241, 3) := by decide +kernel
theorem dL_law_516 : decode cL_law 516 = .ok (.ldc2_w 264, 3) := by decide +kernel
theorem dL_law_519 : decode cL_law 519 = .ok (.lcmp, 1) := by decide +kernel
theorem dL_law_520 : decode cL_law 520 = .ok (.ifCond .ne 190, 3) := by decide +kernel
theorem dL_law_523 : decode cL_law 523 = .ok (.aload 6, 2) := by decide +kernel
theorem dL_law_525 : decode cL_law 525 = .ok (.iconst 2, 1) := by decide +kernel
theorem dL_law_526 : decode cL_law 526 = .ok (.invokevirtual 241, 3) := by decide +kernel
theorem dL_law_529 : decode cL_law 529 = .ok (.ldc2_w 266, 3) := by decide +kernel
theorem dL_law_532 : decode cL_law 532 = .ok (.lcmp, 1) := by decide +kernel
theorem dL_law_533 : decode cL_law 533 = .ok (.ifCond .ne 177, 3) := by decide +kernel
theorem dL_law_536 : decode cL_law 536 = .ok (.aload 6, 2) := by decide +kernel
