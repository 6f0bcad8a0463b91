theorem dL_told_0 : decode cL_told 0 = .ok (.bipush 15, 2) := by decide +kernel
theorem dL_told_2 : decode cL_told 2 = .ok (.newarray .int, 2) := by decide +kernel
theorem dL_told_4 : decode cL_told 4 = .ok (.astore 4, 2) := by decide +kernel
theorem dL_told_6 : decode cL_told 6 = .ok (.aload_n 2, 1) := by decide +kernel
theorem dL_told_7 : decode cL_told 7 = .ok (.iconst 0, 1) := by decide +kernel
theorem dL_told_8 : decode cL_told 8 = .ok (.iaload, 1) := by decide +kernel
theorem dL_told_9 : decode cL_told 9 = .ok (.aload_n 2, 1) := by decide +kernel
theorem dL_told_10 : decode cL_told 10 = .ok (.iconst 1, 1) := by decide +kernel
theorem dL_told_11 : decode cL_told 11 = .ok (.iaload, 1) := by decide +kernel
theorem dL_told_12 : decode cL_told 12 = .ok (.imul, 1) := by decide +kernel
theorem dL_told_13 : decode cL_told 13 = .ok (.istore 5, 2) := by decide +kernel
theorem dL_told_15 : decode cL_told 15 = .ok (.iconst 0, 1) := by decide +kernel
theorem dL_told_16 : decode cL_told 16 = .ok (.istore 6, 2) := by decide +kernel
theorem dL_told_18 : decode cL_told 18 = .ok (.iconst 0, 1) := by decide +kernel
theorem dL_told_19 : decode cL_told 19 = .ok (.istore 7, 2) := by decide +kernel
theorem dL_told_21 : decode cL_told 21 = .ok (.iconst 0, 1) := by decide +kernel
theorem dL_told_22 : decode cL_told 22 = .ok (.istore 8, 2) := by decide +kernel
theorem dL_told_24 : decode cL_told 24 = .ok (.iconst 0, 1) := by decide +kernel
theorem dL_told_25 : decode cL_told 25 = .ok (.istore 9, 2) := by decide +kernel
theorem dL_told_27 : decode cL_told 27 = .ok (.iconst 0, 1) := by decide +kernel
theorem dL_told_28 : decode cL_told 28 = .ok (.istore 10, 2) := by decide +kernel
theorem dL_told_30 : decode cL_told 30 = .ok (.iconst 0, 1) := by decide +kernel
theorem dL_told_31 : decode cL_told 31 = .ok (.istore 11, 2) := by decide +kernel
theorem dL_told_33 : decode cL_told 33 = .ok (.iconst (-1), 1) := by decide +kernel
theorem dL_told_34 : decode cL_told 34 = .ok (.istore 12, 2) := by decide +kernel
theorem dL_told_36 : decode cL_told 36 = .ok (.bipush 99, 2) := by decide +kernel
theorem dL_told_38 : decode cL_told 38 = .ok (.istore 13, 2) := by decide +kernel
theorem dL_told_40 : decode cL_told 40 = .ok (.iconst 0, 1) := by decide +kernel
theorem dL_told_41 : decode cL_told 41 = .ok (.istore 14, 2) := by decide +kernel
theorem dL_told_43 : decode cL_told 43 = .ok (.iload 14, 2) := by decide +kernel
theorem dL_told_45 : decode cL_told 45 = .ok (.iload 5, 2) := by decide +kernel
theorem dL_told_47 : decode cL_told 47 = .ok (.if_icmp .ge 393, 3) := by decide +kernel
theorem dL_told_50 : decode cL_told 50 = .ok (.aload_n 2, 1) := by decide +kernel
theorem dL_told_51 : decode cL_told 51 = .ok (.iconst 4, 1) := by decide +kernel
theorem dL_told_52 : decode cL_told 52 = .ok (.iload 14, 2) := by decide +kernel
theorem dL_told_54 : decode cL_told 54 = .ok (.iadd, 1) := by decide +kernel
theorem dL_told_55 : decode cL_told 55 = .ok (.iaload, 1) := by decide +kernel
theorem dL_told_56 : decode cL_told 56 = .ok (.istore 15, 2) := by decide +kernel
theorem dL_told_58 : decode cL_told 58 = .ok (.iconst 0, 1) := by decide +kernel
theorem dL_told_59 : decode cL_told 59 = .ok (.istore 16, 2) := by decide +kernel
theorem dL_told_61 : decode cL_told 61 = .ok (.iconst (-1), 1) := by decide +kernel
theorem dL_told_62 : decode cL_told 62 = .ok (.istore 17, 2) := by decide +kernel
theorem dL_told_64 : decode cL_told 64 = .ok (.bipush 8, 2) := by decide +kernel
theorem dL_told_66 : decode cL_told 66 = .ok (.aload_n 2, 1) := by decide +kernel
theorem dL_told_67 : decode cL_told 67 = .ok (.iconst 3, 1) := by decide +kernel
theorem dL_told_68 : decode cL_told 68 = .ok (.iaload, 1) := by decide +kernel
theorem dL_told_69 : decode cL_told 69 = .ok (.imul, 1) := by decide +kernel
theorem dL_told_70 : decode cL_told 70 = .ok (.iconst 1, 1) := by decide +kernel
theorem dL_told_71 : decode cL_told 71 = .ok (.isub, 1) := by decide +kernel
theorem dL_told_72 : decode cL_told 72 = .ok (.istore 18, 2) := by decide +kernel
theorem dL_told_74 : decode cL_told 74 = .ok (.iload 18, 2) := by decide +kernel
theorem dL_told_76 : decode cL_told 76 = .ok (.ifCond .lt 31, 3) := by decide +kernel
theorem dL_told_79 : decode cL_told 79 = .ok (.iload 14, 2) := by decide +kernel
theorem dL_told_81 : decode cL_told 81 = .ok (.iload 18, 2) := by decide +kernel
theorem dL_told_83 : decode cL_told 83 = .ok (.aload_n 2, 1) := by decide +kernel
theorem dL_told_84 : decode cL_told 84 = .ok (.aload_n 3, 1) := by decide +kernel
theorem dL_told_85 : decode cL_told 85 = .ok (.invokestatic 26, 3) := by decide +kernel
theorem dL_told_88 : decode cL_told 88 = .ok (.ifCond .le 6, 3) := by decide +kernel
theorem dL_told_91 : decode cL_told 91 = .ok (.goto 10, 3) := by decide +kernel
theorem dL_told_94 : decode cL_told 94 = .ok (.iinc 16 1, 3) := by decide +kernel
theorem dL_told_97 : decode cL_told 97 = .ok (.iload 18, 2) := by decide +kernel
theorem dL_told_99 : decode cL_told 99 = .ok (.istore 17, 2) := by decide +kernel
theorem dL_told_101 : decode cL_told 101 = .ok (.iinc 18 (-1), 3) := by decide +kernel
theorem dL_told_104 : decode cL_told 104 = .ok (.goto (-30), 3) := by decide +kernel
theorem dL_told_107 : decode cL_told 107 = .ok (.aload_n 0, 1) := by decide +kernel
theorem dL_told_108 : decode cL_told 108 = .ok (.iload 14, 2) := by decide +kernel
theorem dL_told_110 : decode cL_told 110 = .ok (.iconst 0, 1) := by decide +kernel
theorem dL_told_111 : decode cL_told 111 = .ok (.invokevirtual 29, 3) := by decide +kernel
theorem dL_told_114 : decode cL_told 114 = .ok (.iload 15, 2) := by decide +kernel
theorem dL_told_116 : decode cL_told 116 = .ok (.if_icmp .ne 44, 3) := by decide +kernel
theorem dL_told_119 : decode cL_told 119 = .ok (.aload_n 0, 1) := by decide +kernel
theorem dL_told_120 : decode cL_told 120 = .ok (.iload 14, 2) := by decide +kernel
theorem dL_told_122 : decode cL_told 122 = .ok (.iconst 1, 1) := by decide +kernel
theorem dL_told_123 : decode cL_told 123 = .ok (.invokevirtual 29, 3) := by decide +kernel
theorem dL_told_126 : decode cL_told 126 = .ok (.aload_n 2, 1) := by decide +kernel
theorem dL_told_127 : decode cL_told 127 = .ok (.bipush 16, 2) := by decide +kernel
theorem dL_told_129 : decode cL_told 129 = .ok (.iload 14, 2) := by decide +kernel
theorem dL_told_131 : decode cL_told 131 = .ok (.iadd, 1) := by decide +kernel
theorem dL_told_132 : decode cL_told 132 = .ok (.iaload, 1) := by decide +kernel
theorem dL_told_133 : decode cL_told 133 = .ok (.if_icmp .ne 27, 3) := by decide +kernel
theorem dL_told_136 : decode cL_told 136 = .ok (.aload_n 0, 1) := by decide +kernel
theorem dL_told_137 : decode cL_told 137 = .ok (.iload 14, 2) := by decide +kernel
theorem dL_told_139 : decode cL_told 139 = .ok (.iconst 2, 1) := by decide +kernel
theorem dL_told_140 : decode cL_told 140 = .ok (.invokevirtual 29, 3) := by decide +kernel
theorem dL_told_143 : decode cL_told 143 = .ok (.iload 16, 2) := by decide +kernel
theorem dL_told_145 : decode cL_told 145 = .ok (.if_icmp .ne 15, 3) := by decide +kernel
theorem dL_told_148 : decode cL_told 148 = .ok (.aload_n 0, 1) := by decide +kernel
theorem dL_told_149 : decode cL_told 149 = .ok (.iload 14, 2) := by decide +kernel
theorem dL_told_151 : decode cL_told 151 = .ok (.iconst 3, 1) := by decide +kernel
theorem dL_told_152 : decode cL_told 152 = .ok (.invokevirtual 29, 3) := by decide +kernel
