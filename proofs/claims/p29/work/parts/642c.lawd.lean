theorem dL_told_325 : decode cL_told 325 = .ok (.ifCond .lt 103, 3) := by decide +kernel
theorem dL_told_328 : decode cL_told 328 = .ok (.iload 19, 2) := by decide +kernel
theorem dL_told_330 : decode cL_told 330 = .ok (.iload 14, 2) := by decide +kernel
theorem dL_told_332 : decode cL_told 332 = .ok (.if_icmp .le 96, 3) := by decide +kernel
theorem dL_told_335 : decode cL_told 335 = .ok (.aload_n 2, 1) := by decide +kernel
theorem dL_told_336 : decode cL_told 336 = .ok (.iconst 4, 1) := by decide +kernel
theorem dL_told_337 : decode cL_told 337 = .ok (.iload 19, 2) := by decide +kernel
theorem dL_told_339 : decode cL_told 339 = .ok (.iadd, 1) := by decide +kernel
theorem dL_told_340 : decode cL_told 340 = .ok (.iaload, 1) := by decide +kernel
theorem dL_told_341 : decode cL_told 341 = .ok (.ifCond .ge 6, 3) := by decide +kernel
theorem dL_told_344 : decode cL_told 344 = .ok (.goto 84, 3) := by decide +kernel
theorem dL_told_347 : decode cL_told 347 = .ok (.iinc 8 1, 3) := by decide +kernel
theorem dL_told_350 : decode cL_told 350 = .ok (.iload 9, 2) := by decide +kernel
theorem dL_told_352 : decode cL_told 352 = .ok (.iload 15, 2) := by decide +kernel
theorem dL_told_354 : decode cL_told 354 = .ok (.iload 18, 2) := by decide +kernel
theorem dL_told_356 : decode cL_told 356 = .ok (.iconst 0, 1) := by decide +kernel
theorem dL_told_357 : decode cL_told 357 = .ok (.aload_n 3, 1) := by decide +kernel
theorem dL_told_358 : decode cL_told 358 = .ok (.invokestatic 8, 3) := by decide +kernel
theorem dL_told_361 : decode cL_told 361 = .ok (.aload_n 2, 1) := by decide +kernel
theorem dL_told_362 : decode cL_told 362 = .ok (.iconst 4, 1) := by decide +kernel
theorem dL_told_363 : decode cL_told 363 = .ok (.iload 19, 2) := by decide +kernel
theorem dL_told_365 : decode cL_told 365 = .ok (.iadd, 1) := by decide +kernel
theorem dL_told_366 : decode cL_told 366 = .ok (.iaload, 1) := by decide +kernel
theorem dL_told_367 : decode cL_told 367 = .ok (.iload 18, 2) := by decide +kernel
theorem dL_told_369 : decode cL_told 369 = .ok (.iconst 2, 1) := by decide +kernel
theorem dL_told_370 : decode cL_told 370 = .ok (.iadd, 1) := by decide +kernel
theorem dL_told_371 : decode cL_told 371 = .ok (.iconst 3, 1) := by decide +kernel
theorem dL_told_372 : decode cL_told 372 = .ok (.iand, 1) := by decide +kernel
theorem dL_told_373 : decode cL_told 373 = .ok (.iconst 0, 1) := by decide +kernel
theorem dL_told_374 : decode cL_told 374 = .ok (.aload_n 3, 1) := by decide +kernel
theorem dL_told_375 : decode cL_told 375 = .ok (.invokestatic 8, 3) := by decide +kernel
theorem dL_told_378 : decode cL_told 378 = .ok (.if_icmp .ne 7, 3) := by decide +kernel
theorem dL_told_381 : decode cL_told 381 = .ok (.iconst 1, 1) := by decide +kernel
theorem dL_told_382 : decode cL_told 382 = .ok (.goto 4, 3) := by decide +kernel
theorem dL_told_385 : decode cL_told 385 = .ok (.iconst 0, 1) := by decide +kernel
theorem dL_told_386 : decode cL_told 386 = .ok (.iadd, 1) := by decide +kernel
theorem dL_told_387 : decode cL_told 387 = .ok (.istore 9, 2) := by decide +kernel
theorem dL_told_389 : decode cL_told 389 = .ok (.iload 10, 2) := by decide +kernel
theorem dL_told_391 : decode cL_told 391 = .ok (.iload 15, 2) := by decide +kernel
theorem dL_told_393 : decode cL_told 393 = .ok (.iload 18, 2) := by decide +kernel
theorem dL_told_395 : decode cL_told 395 = .ok (.iconst 1, 1) := by decide +kernel
theorem dL_told_396 : decode cL_told 396 = .ok (.aload_n 3, 1) := by decide +kernel
theorem dL_told_397 : decode cL_told 397 = .ok (.invokestatic 8, 3) := by decide +kernel
theorem dL_told_400 : decode cL_told 400 = .ok (.aload_n 2, 1) := by decide +kernel
theorem dL_told_401 : decode cL_told 401 = .ok (.iconst 4, 1) := by decide +kernel
theorem dL_told_402 : decode cL_told 402 = .ok (.iload 19, 2) := by decide +kernel
theorem dL_told_404 : decode cL_told 404 = .ok (.iadd, 1) := by decide +kernel
theorem dL_told_405 : decode cL_told 405 = .ok (.iaload, 1) := by decide +kernel
theorem dL_told_406 : decode cL_told 406 = .ok (.iload 18, 2) := by decide +kernel
theorem dL_told_408 : decode cL_told 408 = .ok (.iconst 2, 1) := by decide +kernel
theorem dL_told_409 : decode cL_told 409 = .ok (.iadd, 1) := by decide +kernel
theorem dL_told_410 : decode cL_told 410 = .ok (.iconst 3, 1) := by decide +kernel
theorem dL_told_411 : decode cL_told 411 = .ok (.iand, 1) := by decide +kernel
theorem dL_told_412 : decode cL_told 412 = .ok (.iconst 1, 1) := by decide +kernel
theorem dL_told_413 : decode cL_told 413 = .ok (.aload_n 3, 1) := by decide +kernel
theorem dL_told_414 : decode cL_told 414 = .ok (.invokestatic 8, 3) := by decide +kernel
theorem dL_told_417 : decode cL_told 417 = .ok (.if_icmp .ne 7, 3) := by decide +kernel
theorem dL_told_420 : decode cL_told 420 = .ok (.iconst 1, 1) := by decide +kernel
theorem dL_told_421 : decode cL_told 421 = .ok (.goto 4, 3) := by decide +kernel
theorem dL_told_424 : decode cL_told 424 = .ok (.iconst 0, 1) := by decide +kernel
theorem dL_told_425 : decode cL_told 425 = .ok (.iadd, 1) := by decide +kernel
theorem dL_told_426 : decode cL_told 426 = .ok (.istore 10, 2) := by decide +kernel
theorem dL_told_428 : decode cL_told 428 = .ok (.iinc 18 1, 3) := by decide +kernel
theorem dL_told_431 : decode cL_told 431 = .ok (.goto (-186), 3) := by decide +kernel
theorem dL_told_434 : decode cL_told 434 = .ok (.iinc 14 1, 3) := by decide +kernel
theorem dL_told_437 : decode cL_told 437 = .ok (.goto (-394), 3) := by decide +kernel
theorem dL_told_440 : decode cL_told 440 = .ok (.iconst 0, 1) := by decide +kernel
theorem dL_told_441 : decode cL_told 441 = .ok (.istore 14, 2) := by decide +kernel
theorem dL_told_443 : decode cL_told 443 = .ok (.iload 14, 2) := by decide +kernel
theorem dL_told_445 : decode cL_told 445 = .ok (.aload_n 2, 1) := by decide +kernel
theorem dL_told_446 : decode cL_told 446 = .ok (.iconst 3, 1) := by decide +kernel
theorem dL_told_447 : decode cL_told 447 = .ok (.iaload, 1) := by decide +kernel
theorem dL_told_448 : decode cL_told 448 = .ok (.if_icmp .ge 110, 3) := by decide +kernel
theorem dL_told_451 : decode cL_told 451 = .ok (.iconst 0, 1) := by decide +kernel
theorem dL_told_452 : decode cL_told 452 = .ok (.istore 15, 2) := by decide +kernel
theorem dL_told_454 : decode cL_told 454 = .ok (.iconst 0, 1) := by decide +kernel
theorem dL_told_455 : decode cL_told 455 = .ok (.istore 16, 2) := by decide +kernel
theorem dL_told_457 : decode cL_told 457 = .ok (.iconst 0, 1) := by decide +kernel
theorem dL_told_458 : decode cL_told 458 = .ok (.istore 17, 2) := by decide +kernel
theorem dL_told_460 : decode cL_told 460 = .ok (.iload 17, 2) := by decide +kernel
theorem dL_told_462 : decode cL_told 462 = .ok (.iconst 4, 1) := by decide +kernel
theorem dL_told_463 : decode cL_told 463 = .ok (.if_icmp .ge 47, 3) := by decide +kernel
theorem dL_told_466 : decode cL_told 466 = .ok (.bipush 10, 2) := by decide +kernel
theorem dL_told_468 : decode cL_told 468 = .ok (.iload 15, 2) := by decide +kernel
theorem dL_told_470 : decode cL_told 470 = .ok (.imul, 1) := by decide +kernel
theorem dL_told_471 : decode cL_told 471 = .ok (.aload_n 3, 1) := by decide +kernel
theorem dL_told_472 : decode cL_told 472 = .ok (.bipush 8, 2) := by decide +kernel
theorem dL_told_474 : decode cL_told 474 = .ok (.iload 14, 2) := by decide +kernel
theorem dL_told_476 : decode cL_told 476 = .ok (.imul, 1) := by decide +kernel
theorem dL_told_477 : decode cL_told 477 = .ok (.iload 17, 2) := by decide +kernel
