theorem dL_told_479 : decode cL_told 479 = .ok (.iadd, 1) := by decide +kernel
theorem dL_told_480 : decode cL_told 480 = .ok (.iaload, 1) := by decide +kernel
theorem dL_told_481 : decode cL_told 481 = .ok (.iadd, 1) := by decide +kernel
theorem dL_told_482 : decode cL_told 482 = .ok (.istore 15, 2) := by decide +kernel
theorem dL_told_484 : decode cL_told 484 = .ok (.bipush 10, 2) := by decide +kernel
theorem dL_told_486 : decode cL_told 486 = .ok (.iload 16, 2) := by decide +kernel
theorem dL_told_488 : decode cL_told 488 = .ok (.imul, 1) := by decide +kernel
theorem dL_told_489 : decode cL_told 489 = .ok (.aload_n 3, 1) := by decide +kernel
theorem dL_told_490 : decode cL_told 490 = .ok (.bipush 8, 2) := by decide +kernel
theorem dL_told_492 : decode cL_told 492 = .ok (.iload 14, 2) := by decide +kernel
theorem dL_told_494 : decode cL_told 494 = .ok (.imul, 1) := by decide +kernel
theorem dL_told_495 : decode cL_told 495 = .ok (.iconst 4, 1) := by decide +kernel
theorem dL_told_496 : decode cL_told 496 = .ok (.iadd, 1) := by decide +kernel
theorem dL_told_497 : decode cL_told 497 = .ok (.iload 17, 2) := by decide +kernel
theorem dL_told_499 : decode cL_told 499 = .ok (.iadd, 1) := by decide +kernel
theorem dL_told_500 : decode cL_told 500 = .ok (.iaload, 1) := by decide +kernel
theorem dL_told_501 : decode cL_told 501 = .ok (.iadd, 1) := by decide +kernel
theorem dL_told_502 : decode cL_told 502 = .ok (.istore 16, 2) := by decide +kernel
theorem dL_told_504 : decode cL_told 504 = .ok (.iinc 17 1, 3) := by decide +kernel
theorem dL_told_507 : decode cL_told 507 = .ok (.goto (-47), 3) := by decide +kernel
theorem dL_told_510 : decode cL_told 510 = .ok (.aload_n 0, 1) := by decide +kernel
theorem dL_told_511 : decode cL_told 511 = .ok (.iload 14, 2) := by decide +kernel
theorem dL_told_513 : decode cL_told 513 = .ok (.iconst 0, 1) := by decide +kernel
theorem dL_told_514 : decode cL_told 514 = .ok (.invokevirtual 38, 3) := by decide +kernel
theorem dL_told_517 : decode cL_told 517 = .ok (.iload 15, 2) := by decide +kernel
theorem dL_told_519 : decode cL_told 519 = .ok (.if_icmp .ne 31, 3) := by decide +kernel
theorem dL_told_522 : decode cL_told 522 = .ok (.aload_n 0, 1) := by decide +kernel
theorem dL_told_523 : decode cL_told 523 = .ok (.iload 14, 2) := by decide +kernel
theorem dL_told_525 : decode cL_told 525 = .ok (.iconst 1, 1) := by decide +kernel
theorem dL_told_526 : decode cL_told 526 = .ok (.invokevirtual 38, 3) := by decide +kernel
theorem dL_told_529 : decode cL_told 529 = .ok (.iload 16, 2) := by decide +kernel
theorem dL_told_531 : decode cL_told 531 = .ok (.if_icmp .ne 19, 3) := by decide +kernel
theorem dL_told_534 : decode cL_told 534 = .ok (.aload_n 0, 1) := by decide +kernel
theorem dL_told_535 : decode cL_told 535 = .ok (.iload 14, 2) := by decide +kernel
theorem dL_told_537 : decode cL_told 537 = .ok (.iconst 2, 1) := by decide +kernel
theorem dL_told_538 : decode cL_told 538 = .ok (.invokevirtual 38, 3) := by decide +kernel
theorem dL_told_541 : decode cL_told 541 = .ok (.iload 14, 2) := by decide +kernel
theorem dL_told_543 : decode cL_told 543 = .ok (.aload_n 2, 1) := by decide +kernel
theorem dL_told_544 : decode cL_told 544 = .ok (.invokestatic 18, 3) := by decide +kernel
theorem dL_told_547 : decode cL_told 547 = .ok (.if_icmp .eq 5, 3) := by decide +kernel
theorem dL_told_550 : decode cL_told 550 = .ok (.iconst 0, 1) := by decide +kernel
theorem dL_told_551 : decode cL_told 551 = .ok (.ireturn, 1) := by decide +kernel
theorem dL_told_552 : decode cL_told 552 = .ok (.iinc 14 1, 3) := by decide +kernel
theorem dL_told_555 : decode cL_told 555 = .ok (.goto (-112), 3) := by decide +kernel
theorem dL_told_558 : decode cL_told 558 = .ok (.aload_n 2, 1) := by decide +kernel
theorem dL_told_559 : decode cL_told 559 = .ok (.iconst 3, 1) := by decide +kernel
theorem dL_told_560 : decode cL_told 560 = .ok (.iaload, 1) := by decide +kernel
theorem dL_told_561 : decode cL_told 561 = .ok (.ifCond .le 48, 3) := by decide +kernel
theorem dL_told_564 : decode cL_told 564 = .ok (.iload_n 1, 1) := by decide +kernel
theorem dL_told_565 : decode cL_told 565 = .ok (.bipush 8, 2) := by decide +kernel
theorem dL_told_567 : decode cL_told 567 = .ok (.aload_n 2, 1) := by decide +kernel
theorem dL_told_568 : decode cL_told 568 = .ok (.iconst 3, 1) := by decide +kernel
theorem dL_told_569 : decode cL_told 569 = .ok (.iaload, 1) := by decide +kernel
theorem dL_told_570 : decode cL_told 570 = .ok (.imul, 1) := by decide +kernel
theorem dL_told_571 : decode cL_told 571 = .ok (.invokestatic 41, 3) := by decide +kernel
theorem dL_told_574 : decode cL_told 574 = .ok (.istore 14, 2) := by decide +kernel
theorem dL_told_576 : decode cL_told 576 = .ok (.iload_n 1, 1) := by decide +kernel
theorem dL_told_577 : decode cL_told 577 = .ok (.bipush 6, 2) := by decide +kernel
theorem dL_told_579 : decode cL_told 579 = .ok (.ishr, 1) := by decide +kernel
theorem dL_told_580 : decode cL_told 580 = .ok (.iload 5, 2) := by decide +kernel
theorem dL_told_582 : decode cL_told 582 = .ok (.invokestatic 41, 3) := by decide +kernel
theorem dL_told_585 : decode cL_told 585 = .ok (.istore 15, 2) := by decide +kernel
theorem dL_told_587 : decode cL_told 587 = .ok (.aload_n 0, 1) := by decide +kernel
theorem dL_told_588 : decode cL_told 588 = .ok (.iload 15, 2) := by decide +kernel
theorem dL_told_590 : decode cL_told 590 = .ok (.iload 14, 2) := by decide +kernel
theorem dL_told_592 : decode cL_told 592 = .ok (.invokevirtual 44, 3) := by decide +kernel
theorem dL_told_595 : decode cL_told 595 = .ok (.iload 15, 2) := by decide +kernel
theorem dL_told_597 : decode cL_told 597 = .ok (.iload 14, 2) := by decide +kernel
theorem dL_told_599 : decode cL_told 599 = .ok (.aload_n 2, 1) := by decide +kernel
theorem dL_told_600 : decode cL_told 600 = .ok (.aload_n 3, 1) := by decide +kernel
theorem dL_told_601 : decode cL_told 601 = .ok (.invokestatic 26, 3) := by decide +kernel
theorem dL_told_604 : decode cL_told 604 = .ok (.if_icmp .eq 5, 3) := by decide +kernel
theorem dL_told_607 : decode cL_told 607 = .ok (.iconst 0, 1) := by decide +kernel
theorem dL_told_608 : decode cL_told 608 = .ok (.ireturn, 1) := by decide +kernel
theorem dL_told_609 : decode cL_told 609 = .ok (.iconst 1, 1) := by decide +kernel
theorem dL_told_610 : decode cL_told 610 = .ok (.iload_n 1, 1) := by decide +kernel
theorem dL_told_611 : decode cL_told 611 = .ok (.iconst 3, 1) := by decide +kernel
theorem dL_told_612 : decode cL_told 612 = .ok (.ishr, 1) := by decide +kernel
theorem dL_told_613 : decode cL_told 613 = .ok (.iconst 4, 1) := by decide +kernel
theorem dL_told_614 : decode cL_told 614 = .ok (.invokestatic 41, 3) := by decide +kernel
theorem dL_told_617 : decode cL_told 617 = .ok (.iadd, 1) := by decide +kernel
theorem dL_told_618 : decode cL_told 618 = .ok (.istore 14, 2) := by decide +kernel
theorem dL_told_620 : decode cL_told 620 = .ok (.iload 14, 2) := by decide +kernel
theorem dL_told_622 : decode cL_told 622 = .ok (.aload_n 2, 1) := by decide +kernel
theorem dL_told_623 : decode cL_told 623 = .ok (.aload_n 3, 1) := by decide +kernel
theorem dL_told_624 : decode cL_told 624 = .ok (.aload 4, 2) := by decide +kernel
theorem dL_told_626 : decode cL_told 626 = .ok (.invokestatic 46, 3) := by decide +kernel
theorem dL_told_629 : decode cL_told 629 = .ok (.aload_n 0, 1) := by decide +kernel
theorem dL_told_630 : decode cL_told 630 = .ok (.iload 14, 2) := by decide +kernel
theorem dL_told_632 : decode cL_told 632 = .ok (.iconst 0, 1) := by decide +kernel
