theorem dL_act_582 : decode cL_act 582 = .ok (.if_icmp .ge 19, 3) := by decide +kernel
theorem dL_act_585 : decode cL_act 585 = .ok (.aload 8, 2) := by decide +kernel
theorem dL_act_587 : decode cL_act 587 = .ok (.iload 10, 2) := by decide +kernel
theorem dL_act_589 : decode cL_act 589 = .ok (.aload 4, 2) := by decide +kernel
theorem dL_act_591 : decode cL_act 591 = .ok (.iload 10, 2) := by decide +kernel
theorem dL_act_593 : decode cL_act 593 = .ok (.iaload, 1) := by decide +kernel
theorem dL_act_594 : decode cL_act 594 = .ok (.iastore, 1) := by decide +kernel
theorem dL_act_595 : decode cL_act 595 = .ok (.iinc 10 1, 3) := by decide +kernel
theorem dL_act_598 : decode cL_act 598 = .ok (.goto (-20), 3) := by decide +kernel
theorem dL_act_601 : decode cL_act 601 = .ok (.iconst 0, 1) := by decide +kernel
theorem dL_act_602 : decode cL_act 602 = .ok (.istore 10, 2) := by decide +kernel
theorem dL_act_604 : decode cL_act 604 = .ok (.iload 10, 2) := by decide +kernel
theorem dL_act_606 : decode cL_act 606 = .ok (.iload 6, 2) := by decide +kernel
theorem dL_act_608 : decode cL_act 608 = .ok (.if_icmp .ge 112, 3) := by decide +kernel
theorem dL_act_611 : decode cL_act 611 = .ok (.iload 10, 2) := by decide +kernel
theorem dL_act_613 : decode cL_act 613 = .ok (.aload 4, 2) := by decide +kernel
theorem dL_act_615 : decode cL_act 615 = .ok (.iconst 1, 1) := by decide +kernel
theorem dL_act_616 : decode cL_act 616 = .ok (.iaload, 1) := by decide +kernel
theorem dL_act_617 : decode cL_act 617 = .ok (.idiv, 1) := by decide +kernel
theorem dL_act_618 : decode cL_act 618 = .ok (.aload 4, 2) := by decide +kernel
theorem dL_act_620 : decode cL_act 620 = .ok (.iconst 1, 1) := by decide +kernel
theorem dL_act_621 : decode cL_act 621 = .ok (.iaload, 1) := by decide +kernel
theorem dL_act_622 : decode cL_act 622 = .ok (.imul, 1) := by decide +kernel
theorem dL_act_623 : decode cL_act 623 = .ok (.aload 4, 2) := by decide +kernel
theorem dL_act_625 : decode cL_act 625 = .ok (.iconst 1, 1) := by decide +kernel
theorem dL_act_626 : decode cL_act 626 = .ok (.iaload, 1) := by decide +kernel
theorem dL_act_627 : decode cL_act 627 = .ok (.iadd, 1) := by decide +kernel
theorem dL_act_628 : decode cL_act 628 = .ok (.iconst 1, 1) := by decide +kernel
theorem dL_act_629 : decode cL_act 629 = .ok (.isub, 1) := by decide +kernel
theorem dL_act_630 : decode cL_act 630 = .ok (.iload 10, 2) := by decide +kernel
theorem dL_act_632 : decode cL_act 632 = .ok (.aload 4, 2) := by decide +kernel
theorem dL_act_634 : decode cL_act 634 = .ok (.iconst 1, 1) := by decide +kernel
theorem dL_act_635 : decode cL_act 635 = .ok (.iaload, 1) := by decide +kernel
theorem dL_act_636 : decode cL_act 636 = .ok (.irem, 1) := by decide +kernel
theorem dL_act_637 : decode cL_act 637 = .ok (.isub, 1) := by decide +kernel
theorem dL_act_638 : decode cL_act 638 = .ok (.istore 11, 2) := by decide +kernel
theorem dL_act_640 : decode cL_act 640 = .ok (.aload 8, 2) := by decide +kernel
theorem dL_act_642 : decode cL_act 642 = .ok (.iconst 4, 1) := by decide +kernel
theorem dL_act_643 : decode cL_act 643 = .ok (.iload 11, 2) := by decide +kernel
theorem dL_act_645 : decode cL_act 645 = .ok (.iadd, 1) := by decide +kernel
theorem dL_act_646 : decode cL_act 646 = .ok (.iaload, 1) := by decide +kernel
theorem dL_act_647 : decode cL_act 647 = .ok (.istore 12, 2) := by decide +kernel
theorem dL_act_649 : decode cL_act 649 = .ok (.aload 4, 2) := by decide +kernel
theorem dL_act_651 : decode cL_act 651 = .ok (.iconst 4, 1) := by decide +kernel
theorem dL_act_652 : decode cL_act 652 = .ok (.iload 10, 2) := by decide +kernel
theorem dL_act_654 : decode cL_act 654 = .ok (.iadd, 1) := by decide +kernel
theorem dL_act_655 : decode cL_act 655 = .ok (.iload 12, 2) := by decide +kernel
theorem dL_act_657 : decode cL_act 657 = .ok (.ifCond .ge 7, 3) := by decide +kernel
theorem dL_act_660 : decode cL_act 660 = .ok (.iconst (-1), 1) := by decide +kernel
theorem dL_act_661 : decode cL_act 661 = .ok (.goto 21, 3) := by decide +kernel
theorem dL_act_664 : decode cL_act 664 = .ok (.iload 12, 2) := by decide +kernel
theorem dL_act_666 : decode cL_act 666 = .ok (.iconst 4, 1) := by decide +kernel
theorem dL_act_667 : decode cL_act 667 = .ok (.ixor, 1) := by decide +kernel
theorem dL_act_668 : decode cL_act 668 = .ok (.iload 12, 2) := by decide +kernel
theorem dL_act_670 : decode cL_act 670 = .ok (.iconst 4, 1) := by decide +kernel
theorem dL_act_671 : decode cL_act 671 = .ok (.irem, 1) := by decide +kernel
theorem dL_act_672 : decode cL_act 672 = .ok (.isub, 1) := by decide +kernel
theorem dL_act_673 : decode cL_act 673 = .ok (.iconst 4, 1) := by decide +kernel
theorem dL_act_674 : decode cL_act 674 = .ok (.iload 12, 2) := by decide +kernel
theorem dL_act_676 : decode cL_act 676 = .ok (.iconst 4, 1) := by decide +kernel
theorem dL_act_677 : decode cL_act 677 = .ok (.irem, 1) := by decide +kernel
theorem dL_act_678 : decode cL_act 678 = .ok (.isub, 1) := by decide +kernel
theorem dL_act_679 : decode cL_act 679 = .ok (.iconst 4, 1) := by decide +kernel
theorem dL_act_680 : decode cL_act 680 = .ok (.irem, 1) := by decide +kernel
theorem dL_act_681 : decode cL_act 681 = .ok (.iadd, 1) := by decide +kernel
theorem dL_act_682 : decode cL_act 682 = .ok (.iastore, 1) := by decide +kernel
theorem dL_act_683 : decode cL_act 683 = .ok (.aload 4, 2) := by decide +kernel
theorem dL_act_685 : decode cL_act 685 = .ok (.bipush 16, 2) := by decide +kernel
theorem dL_act_687 : decode cL_act 687 = .ok (.iload 10, 2) := by decide +kernel
theorem dL_act_689 : decode cL_act 689 = .ok (.iadd, 1) := by decide +kernel
theorem dL_act_690 : decode cL_act 690 = .ok (.aload 8, 2) := by decide +kernel
theorem dL_act_692 : decode cL_act 692 = .ok (.bipush 16, 2) := by decide +kernel
theorem dL_act_694 : decode cL_act 694 = .ok (.iload 11, 2) := by decide +kernel
theorem dL_act_696 : decode cL_act 696 = .ok (.iadd, 1) := by decide +kernel
theorem dL_act_697 : decode cL_act 697 = .ok (.iaload, 1) := by decide +kernel
theorem dL_act_698 : decode cL_act 698 = .ok (.iastore, 1) := by decide +kernel
theorem dL_act_699 : decode cL_act 699 = .ok (.iload 9, 2) := by decide +kernel
theorem dL_act_701 : decode cL_act 701 = .ok (.iload 12, 2) := by decide +kernel
theorem dL_act_703 : decode cL_act 703 = .ok (.ifCond .ge 7, 3) := by decide +kernel
theorem dL_act_706 : decode cL_act 706 = .ok (.iconst 0, 1) := by decide +kernel
theorem dL_act_707 : decode cL_act 707 = .ok (.goto 4, 3) := by decide +kernel
theorem dL_act_710 : decode cL_act 710 = .ok (.iconst 1, 1) := by decide +kernel
theorem dL_act_711 : decode cL_act 711 = .ok (.iadd, 1) := by decide +kernel
theorem dL_act_712 : decode cL_act 712 = .ok (.istore 9, 2) := by decide +kernel
theorem dL_act_714 : decode cL_act 714 = .ok (.iinc 10 1, 3) := by decide +kernel
theorem dL_act_717 : decode cL_act 717 = .ok (.goto (-113), 3) := by decide +kernel
theorem dL_act_720 : decode cL_act 720 = .ok (.aload_n 0, 1) := by decide +kernel
theorem dL_act_721 : decode cL_act 721 = .ok (.invokevirtual 90, 3) := by decide +kernel
theorem dL_act_724 : decode cL_act 724 = .ok (.iload 9, 2) := by decide +kernel
theorem dL_act_726 : decode cL_act 726 = .ok (.if_icmp .ne 7, 3) := by decide +kernel
