theorem dL_told_633 : decode cL_told 633 = .ok (.invokevirtual 50, 3) := by decide +kernel
theorem dL_told_636 : decode cL_told 636 = .ok (.aload 4, 2) := by decide +kernel
theorem dL_told_638 : decode cL_told 638 = .ok (.iconst 0, 1) := by decide +kernel
theorem dL_told_639 : decode cL_told 639 = .ok (.iaload, 1) := by decide +kernel
theorem dL_told_640 : decode cL_told 640 = .ok (.if_icmp .ne 31, 3) := by decide +kernel
theorem dL_told_643 : decode cL_told 643 = .ok (.aload_n 0, 1) := by decide +kernel
theorem dL_told_644 : decode cL_told 644 = .ok (.iload 14, 2) := by decide +kernel
theorem dL_told_646 : decode cL_told 646 = .ok (.iconst 1, 1) := by decide +kernel
theorem dL_told_647 : decode cL_told 647 = .ok (.invokevirtual 50, 3) := by decide +kernel
theorem dL_told_650 : decode cL_told 650 = .ok (.aload 4, 2) := by decide +kernel
theorem dL_told_652 : decode cL_told 652 = .ok (.iconst 1, 1) := by decide +kernel
theorem dL_told_653 : decode cL_told 653 = .ok (.iaload, 1) := by decide +kernel
theorem dL_told_654 : decode cL_told 654 = .ok (.if_icmp .ne 17, 3) := by decide +kernel
theorem dL_told_657 : decode cL_told 657 = .ok (.aload_n 0, 1) := by decide +kernel
theorem dL_told_658 : decode cL_told 658 = .ok (.iload 14, 2) := by decide +kernel
theorem dL_told_660 : decode cL_told 660 = .ok (.iconst 2, 1) := by decide +kernel
theorem dL_told_661 : decode cL_told 661 = .ok (.invokevirtual 50, 3) := by decide +kernel
theorem dL_told_664 : decode cL_told 664 = .ok (.aload 4, 2) := by decide +kernel
theorem dL_told_666 : decode cL_told 666 = .ok (.iconst 2, 1) := by decide +kernel
theorem dL_told_667 : decode cL_told 667 = .ok (.iaload, 1) := by decide +kernel
theorem dL_told_668 : decode cL_told 668 = .ok (.if_icmp .eq 5, 3) := by decide +kernel
theorem dL_told_671 : decode cL_told 671 = .ok (.iconst 0, 1) := by decide +kernel
theorem dL_told_672 : decode cL_told 672 = .ok (.ireturn, 1) := by decide +kernel
theorem dL_told_673 : decode cL_told 673 = .ok (.aload_n 0, 1) := by decide +kernel
theorem dL_told_674 : decode cL_told 674 = .ok (.invokevirtual 53, 3) := by decide +kernel
theorem dL_told_677 : decode cL_told 677 = .ok (.iload 8, 2) := by decide +kernel
theorem dL_told_679 : decode cL_told 679 = .ok (.ifCond .ne 7, 3) := by decide +kernel
theorem dL_told_682 : decode cL_told 682 = .ok (.dconst 1, 1) := by decide +kernel
theorem dL_told_683 : decode cL_told 683 = .ok (.goto 17, 3) := by decide +kernel
theorem dL_told_686 : decode cL_told 686 = .ok (.dconst 1, 1) := by decide +kernel
theorem dL_told_687 : decode cL_told 687 = .ok (.iload 9, 2) := by decide +kernel
theorem dL_told_689 : decode cL_told 689 = .ok (.iload 10, 2) := by decide +kernel
theorem dL_told_691 : decode cL_told 691 = .ok (.iadd, 1) := by decide +kernel
theorem dL_told_692 : decode cL_told 692 = .ok (.i2d, 1) := by decide +kernel
theorem dL_told_693 : decode cL_told 693 = .ok (.dmul, 1) := by decide +kernel
theorem dL_told_694 : decode cL_told 694 = .ok (.iconst 2, 1) := by decide +kernel
theorem dL_told_695 : decode cL_told 695 = .ok (.iload 8, 2) := by decide +kernel
theorem dL_told_697 : decode cL_told 697 = .ok (.imul, 1) := by decide +kernel
theorem dL_told_698 : decode cL_told 698 = .ok (.i2d, 1) := by decide +kernel
theorem dL_told_699 : decode cL_told 699 = .ok (.ddiv, 1) := by decide +kernel
theorem dL_told_700 : decode cL_told 700 = .ok (.dcmp .l, 1) := by decide +kernel
theorem dL_told_701 : decode cL_told 701 = .ok (.ifCond .eq 5, 3) := by decide +kernel
theorem dL_told_704 : decode cL_told 704 = .ok (.iconst 0, 1) := by decide +kernel
theorem dL_told_705 : decode cL_told 705 = .ok (.ireturn, 1) := by decide +kernel
theorem dL_told_706 : decode cL_told 706 = .ok (.aload_n 0, 1) := by decide +kernel
theorem dL_told_707 : decode cL_told 707 = .ok (.invokevirtual 57, 3) := by decide +kernel
theorem dL_told_710 : decode cL_told 710 = .ok (.iload 12, 2) := by decide +kernel
theorem dL_told_712 : decode cL_told 712 = .ok (.if_icmp .ne 104, 3) := by decide +kernel
theorem dL_told_715 : decode cL_told 715 = .ok (.aload_n 0, 1) := by decide +kernel
theorem dL_told_716 : decode cL_told 716 = .ok (.iconst 0, 1) := by decide +kernel
theorem dL_told_717 : decode cL_told 717 = .ok (.invokevirtual 61, 3) := by decide +kernel
theorem dL_told_720 : decode cL_told 720 = .ok (.aload_n 2, 1) := by decide +kernel
theorem dL_told_721 : decode cL_told 721 = .ok (.iconst 0, 1) := by decide +kernel
theorem dL_told_722 : decode cL_told 722 = .ok (.iaload, 1) := by decide +kernel
theorem dL_told_723 : decode cL_told 723 = .ok (.if_icmp .ne 93, 3) := by decide +kernel
theorem dL_told_726 : decode cL_told 726 = .ok (.aload_n 0, 1) := by decide +kernel
theorem dL_told_727 : decode cL_told 727 = .ok (.iconst 1, 1) := by decide +kernel
theorem dL_told_728 : decode cL_told 728 = .ok (.invokevirtual 61, 3) := by decide +kernel
theorem dL_told_731 : decode cL_told 731 = .ok (.aload_n 2, 1) := by decide +kernel
theorem dL_told_732 : decode cL_told 732 = .ok (.iconst 1, 1) := by decide +kernel
theorem dL_told_733 : decode cL_told 733 = .ok (.iaload, 1) := by decide +kernel
theorem dL_told_734 : decode cL_told 734 = .ok (.if_icmp .ne 82, 3) := by decide +kernel
theorem dL_told_737 : decode cL_told 737 = .ok (.aload_n 0, 1) := by decide +kernel
theorem dL_told_738 : decode cL_told 738 = .ok (.iconst 2, 1) := by decide +kernel
theorem dL_told_739 : decode cL_told 739 = .ok (.invokevirtual 61, 3) := by decide +kernel
theorem dL_told_742 : decode cL_told 742 = .ok (.aload_n 2, 1) := by decide +kernel
theorem dL_told_743 : decode cL_told 743 = .ok (.iconst 3, 1) := by decide +kernel
theorem dL_told_744 : decode cL_told 744 = .ok (.iaload, 1) := by decide +kernel
theorem dL_told_745 : decode cL_told 745 = .ok (.if_icmp .ne 71, 3) := by decide +kernel
theorem dL_told_748 : decode cL_told 748 = .ok (.aload_n 0, 1) := by decide +kernel
theorem dL_told_749 : decode cL_told 749 = .ok (.iconst 3, 1) := by decide +kernel
theorem dL_told_750 : decode cL_told 750 = .ok (.invokevirtual 61, 3) := by decide +kernel
theorem dL_told_753 : decode cL_told 753 = .ok (.iload 6, 2) := by decide +kernel
theorem dL_told_755 : decode cL_told 755 = .ok (.if_icmp .ne 61, 3) := by decide +kernel
theorem dL_told_758 : decode cL_told 758 = .ok (.aload_n 0, 1) := by decide +kernel
theorem dL_told_759 : decode cL_told 759 = .ok (.iconst 4, 1) := by decide +kernel
theorem dL_told_760 : decode cL_told 760 = .ok (.invokevirtual 61, 3) := by decide +kernel
theorem dL_told_763 : decode cL_told 763 = .ok (.iload 7, 2) := by decide +kernel
theorem dL_told_765 : decode cL_told 765 = .ok (.if_icmp .ne 51, 3) := by decide +kernel
theorem dL_told_768 : decode cL_told 768 = .ok (.aload_n 0, 1) := by decide +kernel
theorem dL_told_769 : decode cL_told 769 = .ok (.iconst 5, 1) := by decide +kernel
theorem dL_told_770 : decode cL_told 770 = .ok (.invokevirtual 61, 3) := by decide +kernel
theorem dL_told_773 : decode cL_told 773 = .ok (.aload_n 2, 1) := by decide +kernel
theorem dL_told_774 : decode cL_told 774 = .ok (.iconst 2, 1) := by decide +kernel
theorem dL_told_775 : decode cL_told 775 = .ok (.iaload, 1) := by decide +kernel
theorem dL_told_776 : decode cL_told 776 = .ok (.if_icmp .ne 40, 3) := by decide +kernel
theorem dL_told_779 : decode cL_told 779 = .ok (.aload_n 0, 1) := by decide +kernel
theorem dL_told_780 : decode cL_told 780 = .ok (.bipush 6, 2) := by decide +kernel
theorem dL_told_782 : decode cL_told 782 = .ok (.invokevirtual 61, 3) := by decide +kernel
theorem dL_told_785 : decode cL_told 785 = .ok (.iload 9, 2) := by decide +kernel
