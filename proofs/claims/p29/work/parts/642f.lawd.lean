theorem dL_told_787 : decode cL_told 787 = .ok (.if_icmp .ne 29, 3) := by decide +kernel
theorem dL_told_790 : decode cL_told 790 = .ok (.aload_n 0, 1) := by decide +kernel
theorem dL_told_791 : decode cL_told 791 = .ok (.bipush 7, 2) := by decide +kernel
theorem dL_told_793 : decode cL_told 793 = .ok (.invokevirtual 61, 3) := by decide +kernel
theorem dL_told_796 : decode cL_told 796 = .ok (.iload 10, 2) := by decide +kernel
theorem dL_told_798 : decode cL_told 798 = .ok (.if_icmp .ne 18, 3) := by decide +kernel
theorem dL_told_801 : decode cL_told 801 = .ok (.aload_n 0, 1) := by decide +kernel
theorem dL_told_802 : decode cL_told 802 = .ok (.bipush 8, 2) := by decide +kernel
theorem dL_told_804 : decode cL_told 804 = .ok (.invokevirtual 61, 3) := by decide +kernel
theorem dL_told_807 : decode cL_told 807 = .ok (.iload 11, 2) := by decide +kernel
theorem dL_told_809 : decode cL_told 809 = .ok (.if_icmp .ne 7, 3) := by decide +kernel
theorem dL_told_812 : decode cL_told 812 = .ok (.iconst 1, 1) := by decide +kernel
theorem dL_told_813 : decode cL_told 813 = .ok (.goto 4, 3) := by decide +kernel
theorem dL_told_816 : decode cL_told 816 = .ok (.iconst 0, 1) := by decide +kernel
theorem dL_told_817 : decode cL_told 817 = .ok (.ireturn, 1) := by decide +kernel
theorem dL_act_0 : decode cL_act 0 = .ok (.aload 4, 2) := by decide +kernel
theorem dL_act_2 : decode cL_act 2 = .ok (.iconst 0, 1) := by decide +kernel
theorem dL_act_3 : decode cL_act 3 = .ok (.iaload, 1) := by decide +kernel
theorem dL_act_4 : decode cL_act 4 = .ok (.aload 4, 2) := by decide +kernel
theorem dL_act_6 : decode cL_act 6 = .ok (.iconst 1, 1) := by decide +kernel
theorem dL_act_7 : decode cL_act 7 = .ok (.iaload, 1) := by decide +kernel
theorem dL_act_8 : decode cL_act 8 = .ok (.imul, 1) := by decide +kernel
theorem dL_act_9 : decode cL_act 9 = .ok (.istore 6, 2) := by decide +kernel
theorem dL_act_11 : decode cL_act 11 = .ok (.iload_n 1, 1) := by decide +kernel
theorem dL_act_12 : decode cL_act 12 = .ok (.ifCond .eq 15, 3) := by decide +kernel
theorem dL_act_15 : decode cL_act 15 = .ok (.iload_n 1, 1) := by decide +kernel
theorem dL_act_16 : decode cL_act 16 = .ok (.iconst 5, 1) := by decide +kernel
theorem dL_act_17 : decode cL_act 17 = .ok (.if_icmp .ge 151, 3) := by decide +kernel
theorem dL_act_20 : decode cL_act 20 = .ok (.aload 4, 2) := by decide +kernel
theorem dL_act_22 : decode cL_act 22 = .ok (.iconst 3, 1) := by decide +kernel
theorem dL_act_23 : decode cL_act 23 = .ok (.iaload, 1) := by decide +kernel
theorem dL_act_24 : decode cL_act 24 = .ok (.ifCond .ne 144, 3) := by decide +kernel
theorem dL_act_27 : decode cL_act 27 = .ok (.aload 4, 2) := by decide +kernel
theorem dL_act_29 : decode cL_act 29 = .ok (.iconst 0, 1) := by decide +kernel
theorem dL_act_30 : decode cL_act 30 = .ok (.iconst 1, 1) := by decide +kernel
theorem dL_act_31 : decode cL_act 31 = .ok (.iload_n 2, 1) := by decide +kernel
theorem dL_act_32 : decode cL_act 32 = .ok (.iconst 2, 1) := by decide +kernel
theorem dL_act_33 : decode cL_act 33 = .ok (.invokestatic 41, 3) := by decide +kernel
theorem dL_act_36 : decode cL_act 36 = .ok (.iadd, 1) := by decide +kernel
theorem dL_act_37 : decode cL_act 37 = .ok (.iastore, 1) := by decide +kernel
theorem dL_act_38 : decode cL_act 38 = .ok (.aload 4, 2) := by decide +kernel
theorem dL_act_40 : decode cL_act 40 = .ok (.iconst 1, 1) := by decide +kernel
theorem dL_act_41 : decode cL_act 41 = .ok (.iconst 1, 1) := by decide +kernel
theorem dL_act_42 : decode cL_act 42 = .ok (.iload_n 2, 1) := by decide +kernel
theorem dL_act_43 : decode cL_act 43 = .ok (.iconst 1, 1) := by decide +kernel
theorem dL_act_44 : decode cL_act 44 = .ok (.ishr, 1) := by decide +kernel
theorem dL_act_45 : decode cL_act 45 = .ok (.iconst 3, 1) := by decide +kernel
theorem dL_act_46 : decode cL_act 46 = .ok (.invokestatic 41, 3) := by decide +kernel
theorem dL_act_49 : decode cL_act 49 = .ok (.iadd, 1) := by decide +kernel
theorem dL_act_50 : decode cL_act 50 = .ok (.iastore, 1) := by decide +kernel
theorem dL_act_51 : decode cL_act 51 = .ok (.iconst 0, 1) := by decide +kernel
theorem dL_act_52 : decode cL_act 52 = .ok (.istore 7, 2) := by decide +kernel
theorem dL_act_54 : decode cL_act 54 = .ok (.iload 7, 2) := by decide +kernel
theorem dL_act_56 : decode cL_act 56 = .ok (.bipush 12, 2) := by decide +kernel
theorem dL_act_58 : decode cL_act 58 = .ok (.if_icmp .ge 26, 3) := by decide +kernel
theorem dL_act_61 : decode cL_act 61 = .ok (.aload 4, 2) := by decide +kernel
theorem dL_act_63 : decode cL_act 63 = .ok (.iconst 4, 1) := by decide +kernel
theorem dL_act_64 : decode cL_act 64 = .ok (.iload 7, 2) := by decide +kernel
theorem dL_act_66 : decode cL_act 66 = .ok (.iadd, 1) := by decide +kernel
theorem dL_act_67 : decode cL_act 67 = .ok (.iconst (-1), 1) := by decide +kernel
theorem dL_act_68 : decode cL_act 68 = .ok (.iastore, 1) := by decide +kernel
theorem dL_act_69 : decode cL_act 69 = .ok (.aload 4, 2) := by decide +kernel
theorem dL_act_71 : decode cL_act 71 = .ok (.bipush 16, 2) := by decide +kernel
theorem dL_act_73 : decode cL_act 73 = .ok (.iload 7, 2) := by decide +kernel
theorem dL_act_75 : decode cL_act 75 = .ok (.iadd, 1) := by decide +kernel
theorem dL_act_76 : decode cL_act 76 = .ok (.iconst 0, 1) := by decide +kernel
theorem dL_act_77 : decode cL_act 77 = .ok (.iastore, 1) := by decide +kernel
theorem dL_act_78 : decode cL_act 78 = .ok (.iinc 7 1, 3) := by decide +kernel
theorem dL_act_81 : decode cL_act 81 = .ok (.goto (-27), 3) := by decide +kernel
theorem dL_act_84 : decode cL_act 84 = .ok (.aload_n 0, 1) := by decide +kernel
theorem dL_act_85 : decode cL_act 85 = .ok (.aload 4, 2) := by decide +kernel
theorem dL_act_87 : decode cL_act 87 = .ok (.iconst 0, 1) := by decide +kernel
theorem dL_act_88 : decode cL_act 88 = .ok (.iaload, 1) := by decide +kernel
theorem dL_act_89 : decode cL_act 89 = .ok (.aload 4, 2) := by decide +kernel
theorem dL_act_91 : decode cL_act 91 = .ok (.iconst 1, 1) := by decide +kernel
theorem dL_act_92 : decode cL_act 92 = .ok (.iaload, 1) := by decide +kernel
theorem dL_act_93 : decode cL_act 93 = .ok (.invokevirtual 65, 3) := by decide +kernel
theorem dL_act_96 : decode cL_act 96 = .ok (.aload 4, 2) := by decide +kernel
theorem dL_act_98 : decode cL_act 98 = .ok (.iconst 0, 1) := by decide +kernel
theorem dL_act_99 : decode cL_act 99 = .ok (.iaload, 1) := by decide +kernel
theorem dL_act_100 : decode cL_act 100 = .ok (.aload 4, 2) := by decide +kernel
theorem dL_act_102 : decode cL_act 102 = .ok (.iconst 1, 1) := by decide +kernel
theorem dL_act_103 : decode cL_act 103 = .ok (.iaload, 1) := by decide +kernel
theorem dL_act_104 : decode cL_act 104 = .ok (.imul, 1) := by decide +kernel
theorem dL_act_105 : decode cL_act 105 = .ok (.if_icmp .eq 5, 3) := by decide +kernel
theorem dL_act_108 : decode cL_act 108 = .ok (.iconst 0, 1) := by decide +kernel
theorem dL_act_109 : decode cL_act 109 = .ok (.ireturn, 1) := by decide +kernel
theorem dL_act_110 : decode cL_act 110 = .ok (.iconst 1, 1) := by decide +kernel
theorem dL_act_111 : decode cL_act 111 = .ok (.iload_n 3, 1) := by decide +kernel
theorem dL_act_112 : decode cL_act 112 = .ok (.ldc 68, 2) := by decide +kernel
