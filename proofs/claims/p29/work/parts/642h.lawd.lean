theorem dL_act_268 : decode cL_act 268 = .ok (.iadd, 1) := by decide +kernel
theorem dL_act_269 : decode cL_act 269 = .ok (.iaload, 1) := by decide +kernel
theorem dL_act_270 : decode cL_act 270 = .ok (.ifCond .ge 7, 3) := by decide +kernel
theorem dL_act_273 : decode cL_act 273 = .ok (.iconst 1, 1) := by decide +kernel
theorem dL_act_274 : decode cL_act 274 = .ok (.goto 4, 3) := by decide +kernel
theorem dL_act_277 : decode cL_act 277 = .ok (.iconst 0, 1) := by decide +kernel
theorem dL_act_278 : decode cL_act 278 = .ok (.iadd, 1) := by decide +kernel
theorem dL_act_279 : decode cL_act 279 = .ok (.istore 10, 2) := by decide +kernel
theorem dL_act_281 : decode cL_act 281 = .ok (.iinc 11 1, 3) := by decide +kernel
theorem dL_act_284 : decode cL_act 284 = .ok (.goto (-30), 3) := by decide +kernel
theorem dL_act_287 : decode cL_act 287 = .ok (.aload_n 0, 1) := by decide +kernel
theorem dL_act_288 : decode cL_act 288 = .ok (.iload 7, 2) := by decide +kernel
theorem dL_act_290 : decode cL_act 290 = .ok (.iload 9, 2) := by decide +kernel
theorem dL_act_292 : decode cL_act 292 = .ok (.invokevirtual 75, 3) := by decide +kernel
theorem dL_act_295 : decode cL_act 295 = .ok (.iload 10, 2) := by decide +kernel
theorem dL_act_297 : decode cL_act 297 = .ok (.if_icmp .ne 7, 3) := by decide +kernel
theorem dL_act_300 : decode cL_act 300 = .ok (.iconst 1, 1) := by decide +kernel
theorem dL_act_301 : decode cL_act 301 = .ok (.goto 4, 3) := by decide +kernel
theorem dL_act_304 : decode cL_act 304 = .ok (.iconst 0, 1) := by decide +kernel
theorem dL_act_305 : decode cL_act 305 = .ok (.ireturn, 1) := by decide +kernel
theorem dL_act_306 : decode cL_act 306 = .ok (.iinc 8 1, 3) := by decide +kernel
theorem dL_act_309 : decode cL_act 309 = .ok (.goto (-123), 3) := by decide +kernel
theorem dL_act_312 : decode cL_act 312 = .ok (.iconst 1, 1) := by decide +kernel
theorem dL_act_313 : decode cL_act 313 = .ok (.ireturn, 1) := by decide +kernel
theorem dL_act_314 : decode cL_act 314 = .ok (.iload_n 2, 1) := by decide +kernel
theorem dL_act_315 : decode cL_act 315 = .ok (.iload 6, 2) := by decide +kernel
theorem dL_act_317 : decode cL_act 317 = .ok (.invokestatic 41, 3) := by decide +kernel
theorem dL_act_320 : decode cL_act 320 = .ok (.istore 7, 2) := by decide +kernel
theorem dL_act_322 : decode cL_act 322 = .ok (.iload_n 1, 1) := by decide +kernel
theorem dL_act_323 : decode cL_act 323 = .ok (.iconst 5, 1) := by decide +kernel
theorem dL_act_324 : decode cL_act 324 = .ok (.if_icmp .ne 61, 3) := by decide +kernel
theorem dL_act_327 : decode cL_act 327 = .ok (.aload 4, 2) := by decide +kernel
theorem dL_act_329 : decode cL_act 329 = .ok (.iconst 4, 1) := by decide +kernel
theorem dL_act_330 : decode cL_act 330 = .ok (.iload 7, 2) := by decide +kernel
theorem dL_act_332 : decode cL_act 332 = .ok (.iadd, 1) := by decide +kernel
theorem dL_act_333 : decode cL_act 333 = .ok (.iaload, 1) := by decide +kernel
theorem dL_act_334 : decode cL_act 334 = .ok (.ifCond .lt 15, 3) := by decide +kernel
theorem dL_act_337 : decode cL_act 337 = .ok (.aload 4, 2) := by decide +kernel
theorem dL_act_339 : decode cL_act 339 = .ok (.bipush 16, 2) := by decide +kernel
theorem dL_act_341 : decode cL_act 341 = .ok (.iload 7, 2) := by decide +kernel
theorem dL_act_343 : decode cL_act 343 = .ok (.iadd, 1) := by decide +kernel
theorem dL_act_344 : decode cL_act 344 = .ok (.iaload, 1) := by decide +kernel
theorem dL_act_345 : decode cL_act 345 = .ok (.iconst 1, 1) := by decide +kernel
theorem dL_act_346 : decode cL_act 346 = .ok (.if_icmp .ne 5, 3) := by decide +kernel
theorem dL_act_349 : decode cL_act 349 = .ok (.iconst 1, 1) := by decide +kernel
theorem dL_act_350 : decode cL_act 350 = .ok (.ireturn, 1) := by decide +kernel
theorem dL_act_351 : decode cL_act 351 = .ok (.aload 4, 2) := by decide +kernel
theorem dL_act_353 : decode cL_act 353 = .ok (.iconst 4, 1) := by decide +kernel
theorem dL_act_354 : decode cL_act 354 = .ok (.iload 7, 2) := by decide +kernel
theorem dL_act_356 : decode cL_act 356 = .ok (.iadd, 1) := by decide +kernel
theorem dL_act_357 : decode cL_act 357 = .ok (.iaload, 1) := by decide +kernel
theorem dL_act_358 : decode cL_act 358 = .ok (.istore 8, 2) := by decide +kernel
theorem dL_act_360 : decode cL_act 360 = .ok (.aload 4, 2) := by decide +kernel
theorem dL_act_362 : decode cL_act 362 = .ok (.iconst 4, 1) := by decide +kernel
theorem dL_act_363 : decode cL_act 363 = .ok (.iload 7, 2) := by decide +kernel
theorem dL_act_365 : decode cL_act 365 = .ok (.iadd, 1) := by decide +kernel
theorem dL_act_366 : decode cL_act 366 = .ok (.iconst (-1), 1) := by decide +kernel
theorem dL_act_367 : decode cL_act 367 = .ok (.iastore, 1) := by decide +kernel
theorem dL_act_368 : decode cL_act 368 = .ok (.aload_n 0, 1) := by decide +kernel
theorem dL_act_369 : decode cL_act 369 = .ok (.iload 7, 2) := by decide +kernel
theorem dL_act_371 : decode cL_act 371 = .ok (.invokevirtual 78, 3) := by decide +kernel
theorem dL_act_374 : decode cL_act 374 = .ok (.iload 8, 2) := by decide +kernel
theorem dL_act_376 : decode cL_act 376 = .ok (.if_icmp .ne 7, 3) := by decide +kernel
theorem dL_act_379 : decode cL_act 379 = .ok (.iconst 1, 1) := by decide +kernel
theorem dL_act_380 : decode cL_act 380 = .ok (.goto 4, 3) := by decide +kernel
theorem dL_act_383 : decode cL_act 383 = .ok (.iconst 0, 1) := by decide +kernel
theorem dL_act_384 : decode cL_act 384 = .ok (.ireturn, 1) := by decide +kernel
theorem dL_act_385 : decode cL_act 385 = .ok (.iload_n 1, 1) := by decide +kernel
theorem dL_act_386 : decode cL_act 386 = .ok (.bipush 6, 2) := by decide +kernel
theorem dL_act_388 : decode cL_act 388 = .ok (.if_icmp .ne 56, 3) := by decide +kernel
theorem dL_act_391 : decode cL_act 391 = .ok (.aload 4, 2) := by decide +kernel
theorem dL_act_393 : decode cL_act 393 = .ok (.iconst 4, 1) := by decide +kernel
theorem dL_act_394 : decode cL_act 394 = .ok (.iload 7, 2) := by decide +kernel
theorem dL_act_396 : decode cL_act 396 = .ok (.iadd, 1) := by decide +kernel
theorem dL_act_397 : decode cL_act 397 = .ok (.iaload, 1) := by decide +kernel
theorem dL_act_398 : decode cL_act 398 = .ok (.ifCond .ge 5, 3) := by decide +kernel
theorem dL_act_401 : decode cL_act 401 = .ok (.iconst 1, 1) := by decide +kernel
theorem dL_act_402 : decode cL_act 402 = .ok (.ireturn, 1) := by decide +kernel
theorem dL_act_403 : decode cL_act 403 = .ok (.aload 4, 2) := by decide +kernel
theorem dL_act_405 : decode cL_act 405 = .ok (.bipush 16, 2) := by decide +kernel
theorem dL_act_407 : decode cL_act 407 = .ok (.iload 7, 2) := by decide +kernel
theorem dL_act_409 : decode cL_act 409 = .ok (.iadd, 1) := by decide +kernel
theorem dL_act_410 : decode cL_act 410 = .ok (.iconst 1, 1) := by decide +kernel
theorem dL_act_411 : decode cL_act 411 = .ok (.aload 4, 2) := by decide +kernel
theorem dL_act_413 : decode cL_act 413 = .ok (.bipush 16, 2) := by decide +kernel
theorem dL_act_415 : decode cL_act 415 = .ok (.iload 7, 2) := by decide +kernel
theorem dL_act_417 : decode cL_act 417 = .ok (.iadd, 1) := by decide +kernel
theorem dL_act_418 : decode cL_act 418 = .ok (.iaload, 1) := by decide +kernel
theorem dL_act_419 : decode cL_act 419 = .ok (.isub, 1) := by decide +kernel
theorem dL_act_420 : decode cL_act 420 = .ok (.iastore, 1) := by decide +kernel
