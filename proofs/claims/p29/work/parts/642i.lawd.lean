theorem dL_act_421 : decode cL_act 421 = .ok (.aload_n 0, 1) := by decide +kernel
theorem dL_act_422 : decode cL_act 422 = .ok (.iload 7, 2) := by decide +kernel
theorem dL_act_424 : decode cL_act 424 = .ok (.invokevirtual 81, 3) := by decide +kernel
theorem dL_act_427 : decode cL_act 427 = .ok (.aload 4, 2) := by decide +kernel
theorem dL_act_429 : decode cL_act 429 = .ok (.bipush 16, 2) := by decide +kernel
theorem dL_act_431 : decode cL_act 431 = .ok (.iload 7, 2) := by decide +kernel
theorem dL_act_433 : decode cL_act 433 = .ok (.iadd, 1) := by decide +kernel
theorem dL_act_434 : decode cL_act 434 = .ok (.iaload, 1) := by decide +kernel
theorem dL_act_435 : decode cL_act 435 = .ok (.if_icmp .ne 7, 3) := by decide +kernel
theorem dL_act_438 : decode cL_act 438 = .ok (.iconst 1, 1) := by decide +kernel
theorem dL_act_439 : decode cL_act 439 = .ok (.goto 4, 3) := by decide +kernel
theorem dL_act_442 : decode cL_act 442 = .ok (.iconst 0, 1) := by decide +kernel
theorem dL_act_443 : decode cL_act 443 = .ok (.ireturn, 1) := by decide +kernel
theorem dL_act_444 : decode cL_act 444 = .ok (.iload_n 1, 1) := by decide +kernel
theorem dL_act_445 : decode cL_act 445 = .ok (.bipush 7, 2) := by decide +kernel
theorem dL_act_447 : decode cL_act 447 = .ok (.if_icmp .ne 37, 3) := by decide +kernel
theorem dL_act_450 : decode cL_act 450 = .ok (.aload 4, 2) := by decide +kernel
theorem dL_act_452 : decode cL_act 452 = .ok (.iconst 2, 1) := by decide +kernel
theorem dL_act_453 : decode cL_act 453 = .ok (.iaload, 1) := by decide +kernel
theorem dL_act_454 : decode cL_act 454 = .ok (.istore 8, 2) := by decide +kernel
theorem dL_act_456 : decode cL_act 456 = .ok (.aload 4, 2) := by decide +kernel
theorem dL_act_458 : decode cL_act 458 = .ok (.iconst 2, 1) := by decide +kernel
theorem dL_act_459 : decode cL_act 459 = .ok (.iload_n 3, 1) := by decide +kernel
theorem dL_act_460 : decode cL_act 460 = .ok (.iconst 3, 1) := by decide +kernel
theorem dL_act_461 : decode cL_act 461 = .ok (.invokestatic 41, 3) := by decide +kernel
theorem dL_act_464 : decode cL_act 464 = .ok (.iastore, 1) := by decide +kernel
theorem dL_act_465 : decode cL_act 465 = .ok (.aload_n 0, 1) := by decide +kernel
theorem dL_act_466 : decode cL_act 466 = .ok (.aload 4, 2) := by decide +kernel
theorem dL_act_468 : decode cL_act 468 = .ok (.iconst 2, 1) := by decide +kernel
theorem dL_act_469 : decode cL_act 469 = .ok (.iaload, 1) := by decide +kernel
theorem dL_act_470 : decode cL_act 470 = .ok (.invokevirtual 84, 3) := by decide +kernel
theorem dL_act_473 : decode cL_act 473 = .ok (.iload 8, 2) := by decide +kernel
theorem dL_act_475 : decode cL_act 475 = .ok (.if_icmp .ne 7, 3) := by decide +kernel
theorem dL_act_478 : decode cL_act 478 = .ok (.iconst 1, 1) := by decide +kernel
theorem dL_act_479 : decode cL_act 479 = .ok (.goto 4, 3) := by decide +kernel
theorem dL_act_482 : decode cL_act 482 = .ok (.iconst 0, 1) := by decide +kernel
theorem dL_act_483 : decode cL_act 483 = .ok (.ireturn, 1) := by decide +kernel
theorem dL_act_484 : decode cL_act 484 = .ok (.iload_n 1, 1) := by decide +kernel
theorem dL_act_485 : decode cL_act 485 = .ok (.bipush 8, 2) := by decide +kernel
theorem dL_act_487 : decode cL_act 487 = .ok (.if_icmp .ne 73, 3) := by decide +kernel
theorem dL_act_490 : decode cL_act 490 = .ok (.iconst 0, 1) := by decide +kernel
theorem dL_act_491 : decode cL_act 491 = .ok (.istore 8, 2) := by decide +kernel
theorem dL_act_493 : decode cL_act 493 = .ok (.iconst 0, 1) := by decide +kernel
theorem dL_act_494 : decode cL_act 494 = .ok (.istore 9, 2) := by decide +kernel
theorem dL_act_496 : decode cL_act 496 = .ok (.iload 9, 2) := by decide +kernel
theorem dL_act_498 : decode cL_act 498 = .ok (.iload 6, 2) := by decide +kernel
theorem dL_act_500 : decode cL_act 500 = .ok (.if_icmp .ge 45, 3) := by decide +kernel
theorem dL_act_503 : decode cL_act 503 = .ok (.aload 4, 2) := by decide +kernel
theorem dL_act_505 : decode cL_act 505 = .ok (.iconst 4, 1) := by decide +kernel
theorem dL_act_506 : decode cL_act 506 = .ok (.iload 9, 2) := by decide +kernel
theorem dL_act_508 : decode cL_act 508 = .ok (.iadd, 1) := by decide +kernel
theorem dL_act_509 : decode cL_act 509 = .ok (.iaload, 1) := by decide +kernel
theorem dL_act_510 : decode cL_act 510 = .ok (.ifCond .lt 29, 3) := by decide +kernel
theorem dL_act_513 : decode cL_act 513 = .ok (.aload 4, 2) := by decide +kernel
theorem dL_act_515 : decode cL_act 515 = .ok (.bipush 16, 2) := by decide +kernel
theorem dL_act_517 : decode cL_act 517 = .ok (.iload 9, 2) := by decide +kernel
theorem dL_act_519 : decode cL_act 519 = .ok (.iadd, 1) := by decide +kernel
theorem dL_act_520 : decode cL_act 520 = .ok (.iaload, 1) := by decide +kernel
theorem dL_act_521 : decode cL_act 521 = .ok (.iconst 1, 1) := by decide +kernel
theorem dL_act_522 : decode cL_act 522 = .ok (.if_icmp .ne 6, 3) := by decide +kernel
theorem dL_act_525 : decode cL_act 525 = .ok (.goto 14, 3) := by decide +kernel
theorem dL_act_528 : decode cL_act 528 = .ok (.aload 4, 2) := by decide +kernel
theorem dL_act_530 : decode cL_act 530 = .ok (.iconst 4, 1) := by decide +kernel
theorem dL_act_531 : decode cL_act 531 = .ok (.iload 9, 2) := by decide +kernel
theorem dL_act_533 : decode cL_act 533 = .ok (.iadd, 1) := by decide +kernel
theorem dL_act_534 : decode cL_act 534 = .ok (.iconst (-1), 1) := by decide +kernel
theorem dL_act_535 : decode cL_act 535 = .ok (.iastore, 1) := by decide +kernel
theorem dL_act_536 : decode cL_act 536 = .ok (.iinc 8 1, 3) := by decide +kernel
theorem dL_act_539 : decode cL_act 539 = .ok (.iinc 9 1, 3) := by decide +kernel
theorem dL_act_542 : decode cL_act 542 = .ok (.goto (-46), 3) := by decide +kernel
theorem dL_act_545 : decode cL_act 545 = .ok (.aload_n 0, 1) := by decide +kernel
theorem dL_act_546 : decode cL_act 546 = .ok (.invokevirtual 87, 3) := by decide +kernel
theorem dL_act_549 : decode cL_act 549 = .ok (.iload 8, 2) := by decide +kernel
theorem dL_act_551 : decode cL_act 551 = .ok (.if_icmp .ne 7, 3) := by decide +kernel
theorem dL_act_554 : decode cL_act 554 = .ok (.iconst 1, 1) := by decide +kernel
theorem dL_act_555 : decode cL_act 555 = .ok (.goto 4, 3) := by decide +kernel
theorem dL_act_558 : decode cL_act 558 = .ok (.iconst 0, 1) := by decide +kernel
theorem dL_act_559 : decode cL_act 559 = .ok (.ireturn, 1) := by decide +kernel
theorem dL_act_560 : decode cL_act 560 = .ok (.iload_n 1, 1) := by decide +kernel
theorem dL_act_561 : decode cL_act 561 = .ok (.bipush 9, 2) := by decide +kernel
theorem dL_act_563 : decode cL_act 563 = .ok (.if_icmp .ne 172, 3) := by decide +kernel
theorem dL_act_566 : decode cL_act 566 = .ok (.bipush 28, 2) := by decide +kernel
theorem dL_act_568 : decode cL_act 568 = .ok (.newarray .int, 2) := by decide +kernel
theorem dL_act_570 : decode cL_act 570 = .ok (.astore 8, 2) := by decide +kernel
theorem dL_act_572 : decode cL_act 572 = .ok (.iconst 0, 1) := by decide +kernel
theorem dL_act_573 : decode cL_act 573 = .ok (.istore 9, 2) := by decide +kernel
theorem dL_act_575 : decode cL_act 575 = .ok (.iconst 0, 1) := by decide +kernel
theorem dL_act_576 : decode cL_act 576 = .ok (.istore 10, 2) := by decide +kernel
theorem dL_act_578 : decode cL_act 578 = .ok (.iload 10, 2) := by decide +kernel
theorem dL_act_580 : decode cL_act 580 = .ok (.bipush 28, 2) := by decide +kernel
