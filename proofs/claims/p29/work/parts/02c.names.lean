theorem dL_fits_148 : decode cL_fits 148 = .ok (.iload 7, 2) := by decide +kernel
theorem dL_fits_150 : decode cL_fits 150 = .ok (.if_icmp .eq 7, 3) := by decide +kernel
theorem dL_fits_153 : decode cL_fits 153 = .ok (.iconst 5, 1) := by decide +kernel
theorem dL_fits_154 : decode cL_fits 154 = .ok (.goto 33, 3) := by decide +kernel
theorem dL_fits_157 : decode cL_fits 157 = .ok (.aload_n 2, 1) := by decide +kernel
theorem dL_fits_158 : decode cL_fits 158 = .ok (.iconst 2, 1) := by decide +kernel
theorem dL_fits_159 : decode cL_fits 159 = .ok (.iaload, 1) := by decide +kernel
theorem dL_fits_160 : decode cL_fits 160 = .ok (.ifCond .le 8, 3) := by decide +kernel
theorem dL_fits_163 : decode cL_fits 163 = .ok (.iload 6, 2) := by decide +kernel
theorem dL_fits_165 : decode cL_fits 165 = .ok (.ifCond .eq 15, 3) := by decide +kernel
theorem dL_fits_168 : decode cL_fits 168 = .ok (.aload_n 2, 1) := by decide +kernel
theorem dL_fits_169 : decode cL_fits 169 = .ok (.iconst 2, 1) := by decide +kernel
theorem dL_fits_170 : decode cL_fits 170 = .ok (.iaload, 1) := by decide +kernel
theorem dL_fits_171 : decode cL_fits 171 = .ok (.iconst 2, 1) := by decide +kernel
theorem dL_fits_172 : decode cL_fits 172 = .ok (.if_icmp .ne 13, 3) := by decide +kernel
theorem dL_fits_175 : decode cL_fits 175 = .ok (.iload 7, 2) := by decide +kernel
theorem dL_fits_177 : decode cL_fits 177 = .ok (.ifCond .ne 8, 3) := by decide +kernel
theorem dL_fits_180 : decode cL_fits 180 = .ok (.bipush 6, 2) := by decide +kernel
theorem dL_fits_182 : decode cL_fits 182 = .ok (.goto 5, 3) := by decide +kernel
theorem dL_fits_185 : decode cL_fits 185 = .ok (.bipush 9, 2) := by decide +kernel
theorem dL_fits_187 : decode cL_fits 187 = .ok (.istore 9, 2) := by decide +kernel
theorem dL_fits_189 : decode cL_fits 189 = .ok (.iload 9, 2) := by decide +kernel
theorem dL_fits_191 : decode cL_fits 191 = .ok (.iload 4, 2) := by decide +kernel
theorem dL_fits_193 : decode cL_fits 193 = .ok (.if_icmp .ge 8, 3) := by decide +kernel
theorem dL_fits_196 : decode cL_fits 196 = .ok (.iload 9, 2) := by decide +kernel
theorem dL_fits_198 : decode cL_fits 198 = .ok (.goto 5, 3) := by decide +kernel
theorem dL_fits_201 : decode cL_fits 201 = .ok (.iload 4, 2) := by decide +kernel
theorem dL_fits_203 : decode cL_fits 203 = .ok (.istore 4, 2) := by decide +kernel
theorem dL_fits_205 : decode cL_fits 205 = .ok (.iinc 5 1, 3) := by decide +kernel
theorem dL_fits_208 : decode cL_fits 208 = .ok (.goto (-201), 3) := by decide +kernel
theorem dL_fits_211 : decode cL_fits 211 = .ok (.iload 4, 2) := by decide +kernel
theorem dL_fits_213 : decode cL_fits 213 = .ok (.bipush 9, 2) := by decide +kernel
theorem dL_fits_215 : decode cL_fits 215 = .ok (.if_icmp .ne 7, 3) := by decide +kernel
theorem dL_fits_218 : decode cL_fits 218 = .ok (.iconst 0, 1) := by decide +kernel
theorem dL_fits_219 : decode cL_fits 219 = .ok (.goto 5, 3) := by decide +kernel
theorem dL_fits_222 : decode cL_fits 222 = .ok (.iload 4, 2) := by decide +kernel
theorem dL_fits_224 : decode cL_fits 224 = .ok (.ireturn, 1) := by decide +kernel
theorem dL_where_0 : decode cL_where 0 = .ok (.iconst 0, 1) := by decide +kernel
theorem dL_where_1 : decode cL_where 1 = .ok (.istore_n 2, 1) := by decide +kernel
theorem dL_where_2 : decode cL_where 2 = .ok (.iload_n 2, 1) := by decide +kernel
theorem dL_where_3 : decode cL_where 3 = .ok (.aload_n 1, 1) := by decide +kernel
theorem dL_where_4 : decode cL_where 4 = .ok (.iconst 0, 1) := by decide +kernel
theorem dL_where_5 : decode cL_where 5 = .ok (.iaload, 1) := by decide +kernel
theorem dL_where_6 : decode cL_where 6 = .ok (.aload_n 1, 1) := by decide +kernel
theorem dL_where_7 : decode cL_where 7 = .ok (.iconst 1, 1) := by decide +kernel
theorem dL_where_8 : decode cL_where 8 = .ok (.iaload, 1) := by decide +kernel
theorem dL_where_9 : decode cL_where 9 = .ok (.imul, 1) := by decide +kernel
theorem dL_where_10 : decode cL_where 10 = .ok (.if_icmp .ge 31, 3) := by decide +kernel
theorem dL_where_13 : decode cL_where 13 = .ok (.aload_n 1, 1) := by decide +kernel
theorem dL_where_14 : decode cL_where 14 = .ok (.iconst 4, 1) := by decide +kernel
theorem dL_where_15 : decode cL_where 15 = .ok (.iload_n 2, 1) := by decide +kernel
theorem dL_where_16 : decode cL_where 16 = .ok (.iadd, 1) := by decide +kernel
theorem dL_where_17 : decode cL_where 17 = .ok (.iaload, 1) := by decide +kernel
theorem dL_where_18 : decode cL_where 18 = .ok (.ifCond .lt 17, 3) := by decide +kernel
theorem dL_where_21 : decode cL_where 21 = .ok (.aload_n 1, 1) := by decide +kernel
theorem dL_where_22 : decode cL_where 22 = .ok (.iconst 4, 1) := by decide +kernel
theorem dL_where_23 : decode cL_where 23 = .ok (.iload_n 2, 1) := by decide +kernel
theorem dL_where_24 : decode cL_where 24 = .ok (.iadd, 1) := by decide +kernel
theorem dL_where_25 : decode cL_where 25 = .ok (.iaload, 1) := by decide +kernel
theorem dL_where_26 : decode cL_where 26 = .ok (.bipush 8, 2) := by decide +kernel
theorem dL_where_28 : decode cL_where 28 = .ok (.idiv, 1) := by decide +kernel
theorem dL_where_29 : decode cL_where 29 = .ok (.iload_n 0, 1) := by decide +kernel
theorem dL_where_30 : decode cL_where 30 = .ok (.if_icmp .ne 5, 3) := by decide +kernel
theorem dL_where_33 : decode cL_where 33 = .ok (.iload_n 2, 1) := by decide +kernel
theorem dL_where_34 : decode cL_where 34 = .ok (.ireturn, 1) := by decide +kernel
theorem dL_where_35 : decode cL_where 35 = .ok (.iinc 2 1, 3) := by decide +kernel
theorem dL_where_38 : decode cL_where 38 = .ok (.goto (-36), 3) := by decide +kernel
theorem dL_where_41 : decode cL_where 41 = .ok (.iconst (-1), 1) := by decide +kernel
theorem dL_where_42 : decode cL_where 42 = .ok (.ireturn, 1) := by decide +kernel
set_option maxRecDepth 20000 in
theorem ggL_why_L_where : GoodIn wsL_why wsL_where := goodIn_r _ [4] (by decide +kernel) (by decide +kernel)
set_option maxRecDepth 20000 in
theorem gL_why_L_where : GoodIn wsL_why (va_wsS RL 18 yL_where wsL_where) := goodIn_app (goodIn_of _ (by decide +kernel)) ggL_why_L_where
set_option maxRecDepth 20000 in
theorem ggL_why_L_fits : GoodIn wsL_why wsL_fits := goodIn_r _ [7, 8, 9, 3, 10, 11, 12, 13] (by decide +kernel) (by decide +kernel)
set_option maxRecDepth 20000 in
theorem gL_why_L_fits : GoodIn wsL_why (va_wsS RL 22 yL_fits wsL_fits) := goodIn_app (goodIn_of _ (by decide +kernel)) ggL_why_L_fits
theorem dL_why_0 : decode cL_why 0 = .ok (.aload_n 2, 1) := by decide +kernel
theorem dL_why_1 : decode cL_why 1 = .ok (.iconst 4, 1) := by decide +kernel
theorem dL_why_2 : decode cL_why 2 = .ok (.iload_n 0, 1) := by decide +kernel
theorem dL_why_3 : decode cL_why 3 = .ok (.iadd, 1) := by decide +kernel
theorem dL_why_4 : decode cL_why 4 = .ok (.iaload, 1) := by decide +kernel
theorem dL_why_5 : decode cL_why 5 = .ok (.ifCond .lt 7, 3) := by decide +kernel
theorem dL_why_8 : decode cL_why 8 = .ok (.iconst 1, 1) := by decide +kernel
theorem dL_why_9 : decode cL_why 9 = .ok (.goto 25, 3) := by decide +kernel
theorem dL_why_12 : decode cL_why 12 = .ok (.iload_n 1, 1) := by decide +kernel
theorem dL_why_13 : decode cL_why 13 = .ok (.bipush 8, 2) := by decide +kernel
theorem dL_why_15 : decode cL_why 15 = .ok (.idiv, 1) := by decide +kernel
theorem dL_why_16 : decode cL_why 16 = .ok (.aload_n 2, 1) := by decide +kernel
theorem dL_why_17 : decode cL_why 17 = .ok (.invokestatic 18, 3) := by decide +kernel
theorem dL_why_20 : decode cL_why 20 = .ok (.ifCond .lt 7, 3) := by decide +kernel
theorem dL_why_23 : decode cL_why 23 = .ok (.iconst 2, 1) := by decide +kernel
theorem dL_why_24 : decode cL_why 24 = .ok (.goto 10, 3) := by decide +kernel
theorem dL_why_27 : decode cL_why 27 = .ok (.iload_n 0, 1) := by decide +kernel
theorem dL_why_28 : decode cL_why 28 = .ok (.iload_n 1, 1) := by decide +kernel
theorem dL_why_29 : decode cL_why 29 = .ok (.aload_n 2, 1) := by decide +kernel
theorem dL_why_30 : decode cL_why 30 = .ok (.aload_n 3, 1) := by decide +kernel
theorem dL_why_31 : decode cL_why 31 = .ok (.invokestatic 22, 3) := by decide +kernel
theorem dL_why_34 : decode cL_why 34 = .ok (.ireturn, 1) := by decide +kernel
set_option maxRecDepth 20000 in
theorem ggL_search_L_why : GoodIn wsL_search wsL_why := goodIn_r _ [5, 6, 7, 4, 8, 9, 10, 11, 12, 13, 14, 15, 16, 17] (by decide +kernel) (by decide +kernel)
set_option maxRecDepth 20000 in
theorem gL_search_L_why : GoodIn wsL_search (va_wsS RL 26 yL_why wsL_why) := goodIn_app (goodIn_of _ (by decide +kernel)) ggL_search_L_why
theorem dL_search_0 : decode cL_search 0 = .ok (.bipush 12, 2) := by decide +kernel
theorem dL_search_2 : decode cL_search 2 = .ok (.newarray .int, 2) := by decide +kernel
theorem dL_search_4 : decode cL_search 4 = .ok (.astore 4, 2) := by decide +kernel
theorem dL_search_6 : decode cL_search 6 = .ok (.bipush 12, 2) := by decide +kernel
theorem dL_search_8 : decode cL_search 8 = .ok (.newarray .int, 2) := by decide +kernel
theorem dL_search_10 : decode cL_search 10 = .ok (.astore 5, 2) := by decide +kernel
theorem dL_search_12 : decode cL_search 12 = .ok (.iconst 0, 1) := by decide +kernel
theorem dL_search_13 : decode cL_search 13 = .ok (.istore 6, 2) := by decide +kernel
theorem dL_search_15 : decode cL_search 15 = .ok (.iconst 0, 1) := by decide +kernel
theorem dL_search_16 : decode cL_search 16 = .ok (.istore 7, 2) := by decide +kernel
theorem dL_search_18 : decode cL_search 18 = .ok (.iload 7, 2) := by decide +kernel
theorem dL_search_20 : decode cL_search 20 = .ok (.aload_n 1, 1) := by decide +kernel
theorem dL_search_21 : decode cL_search 21 = .ok (.iconst 0, 1) := by decide +kernel
theorem dL_search_22 : decode cL_search 22 = .ok (.iaload, 1) := by decide +kernel
theorem dL_search_23 : decode cL_search 23 = .ok (.aload_n 1, 1) := by decide +kernel
theorem dL_search_24 : decode cL_search 24 = .ok (.iconst 1, 1) := by decide +kernel
theorem dL_search_25 : decode cL_search 25 = .ok (.iaload, 1) := by decide +kernel
theorem dL_search_26 : decode cL_search 26 = .ok (.imul, 1) := by decide +kernel
theorem dL_search_27 : decode cL_search 27 = .ok (.if_icmp .ge 28, 3) := by decide +kernel
theorem dL_search_30 : decode cL_search 30 = .ok (.aload_n 1, 1) := by decide +kernel
theorem dL_search_31 : decode cL_search 31 = .ok (.iconst 4, 1) := by decide +kernel
theorem dL_search_32 : decode cL_search 32 = .ok (.iload 7, 2) := by decide +kernel
theorem dL_search_34 : decode cL_search 34 = .ok (.iadd, 1) := by decide +kernel
theorem dL_search_35 : decode cL_search 35 = .ok (.iaload, 1) := by decide +kernel
theorem dL_search_36 : decode cL_search 36 = .ok (.ifCond .ge 13, 3) := by decide +kernel
theorem dL_search_39 : decode cL_search 39 = .ok (.aload 5, 2) := by decide +kernel
theorem dL_search_41 : decode cL_search 41 = .ok (.iload 6, 2) := by decide +kernel
theorem dL_search_43 : decode cL_search 43 = .ok (.iinc 6 1, 3) := by decide +kernel
theorem dL_search_46 : decode cL_search 46 = .ok (.iload 7, 2) := by decide +kernel
theorem dL_search_48 : decode cL_search 48 = .ok (.iastore, 1) := by decide +kernel
theorem dL_search_49 : decode cL_search 49 = .ok (.iinc 7 1, 3) := by decide +kernel
theorem dL_search_52 : decode cL_search 52 = .ok (.goto (-34), 3) := by decide +kernel
theorem dL_search_55 : decode cL_search 55 = .ok (.aload_n 3, 1) := by decide +kernel
theorem dL_search_56 : decode cL_search 56 = .ok (.iconst 0, 1) := by decide +kernel
theorem dL_search_57 : decode cL_search 57 = .ok (.iload 6, 2) := by decide +kernel
theorem dL_search_59 : decode cL_search 59 = .ok (.ifCond .ne 7, 3) := by decide +kernel
theorem dL_search_62 : decode cL_search 62 = .ok (.iconst 1, 1) := by decide +kernel
theorem dL_search_63 : decode cL_search 63 = .ok (.goto 4, 3) := by decide +kernel
theorem dL_search_66 : decode cL_search 66 = .ok (.iconst 0, 1) := by decide +kernel
theorem dL_search_67 : decode cL_search 67 = .ok (.iastore, 1) := by decide +kernel
theorem dL_search_68 : decode cL_search 68 = .ok (.aload_n 3, 1) := by decide +kernel
theorem dL_search_69 : decode cL_search 69 = .ok (.iconst 1, 1) := by decide +kernel
theorem dL_search_70 : decode cL_search 70 = .ok (.iconst 0, 1) := by decide +kernel
theorem dL_search_71 : decode cL_search 71 = .ok (.iastore, 1) := by decide +kernel
theorem dL_search_72 : decode cL_search 72 = .ok (.aload_n 3, 1) := by decide +kernel
theorem dL_search_73 : decode cL_search 73 = .ok (.iconst 2, 1) := by decide +kernel
theorem dL_search_74 : decode cL_search 74 = .ok (.iconst 0, 1) := by decide +kernel
theorem dL_search_75 : decode cL_search 75 = .ok (.iastore, 1) := by decide +kernel
theorem dL_search_76 : decode cL_search 76 = .ok (.iconst 0, 1) := by decide +kernel
theorem dL_search_77 : decode cL_search 77 = .ok (.istore 7, 2) := by decide +kernel
theorem dL_search_79 : decode cL_search 79 = .ok (.iload 6, 2) := by decide +kernel
theorem dL_search_81 : decode cL_search 81 = .ok (.ifCond .le 196, 3) := by decide +kernel
theorem dL_search_84 : decode cL_search 84 = .ok (.iload 7, 2) := by decide +kernel
theorem dL_search_86 : decode cL_search 86 = .ok (.ifCond .lt 191, 3) := by decide +kernel
theorem dL_search_89 : decode cL_search 89 = .ok (.aload_n 3, 1) := by decide +kernel
theorem dL_search_90 : decode cL_search 90 = .ok (.iconst 0, 1) := by decide +kernel
theorem dL_search_91 : decode cL_search 91 = .ok (.iaload, 1) := by decide +kernel
theorem dL_search_92 : decode cL_search 92 = .ok (.iload_n 0, 1) := by decide +kernel
theorem dL_search_93 : decode cL_search 93 = .ok (.if_icmp .ge 184, 3) := by decide +kernel
theorem dL_search_96 : decode cL_search 96 = .ok (.aload 4, 2) := by decide +kernel
theorem dL_search_98 : decode cL_search 98 = .ok (.iload 7, 2) := by decide +kernel
theorem dL_search_100 : decode cL_search 100 = .ok (.iaload, 1) := by decide +kernel
theorem dL_search_101 : decode cL_search 101 = .ok (.bipush 8, 2) := by decide +kernel
theorem dL_search_103 : decode cL_search 103 = .ok (.aload_n 1, 1) := by decide +kernel
theorem dL_search_104 : decode cL_search 104 = .ok (.iconst 3, 1) := by decide +kernel
theorem dL_search_105 : decode cL_search 105 = .ok (.iaload, 1) := by decide +kernel
theorem dL_search_106 : decode cL_search 106 = .ok (.imul, 1) := by decide +kernel
theorem dL_search_107 : decode cL_search 107 = .ok (.if_icmp .ne 30, 3) := by decide +kernel
theorem dL_search_110 : decode cL_search 110 = .ok (.aload 4, 2) := by decide +kernel
theorem dL_search_112 : decode cL_search 112 = .ok (.iload 7, 2) := by decide +kernel
theorem dL_search_114 : decode cL_search 114 = .ok (.iconst 0, 1) := by decide +kernel
theorem dL_search_115 : decode cL_search 115 = .ok (.iastore, 1) := by decide +kernel
theorem dL_search_116 : decode cL_search 116 = .ok (.iinc 7 (-1), 3) := by decide +kernel
theorem dL_search_119 : decode cL_search 119 = .ok (.iload 7, 2) := by decide +kernel
theorem dL_search_121 : decode cL_search 121 = .ok (.ifCond .lt (-42), 3) := by decide +kernel
theorem dL_search_124 : decode cL_search 124 = .ok (.aload_n 1, 1) := by decide +kernel
theorem dL_search_125 : decode cL_search 125 = .ok (.iconst 4, 1) := by decide +kernel
theorem dL_search_126 : decode cL_search 126 = .ok (.aload 5, 2) := by decide +kernel
theorem dL_search_128 : decode cL_search 128 = .ok (.iload 7, 2) := by decide +kernel
theorem dL_search_130 : decode cL_search 130 = .ok (.iaload, 1) := by decide +kernel
theorem dL_search_131 : decode cL_search 131 = .ok (.iadd, 1) := by decide +kernel
theorem dL_search_132 : decode cL_search 132 = .ok (.iconst (-1), 1) := by decide +kernel
theorem dL_search_133 : decode cL_search 133 = .ok (.iastore, 1) := by decide +kernel
theorem dL_search_134 : decode cL_search 134 = .ok (.goto (-55), 3) := by decide +kernel
theorem dL_search_137 : decode cL_search 137 = .ok (.aload 4, 2) := by decide +kernel
theorem dL_search_139 : decode cL_search 139 = .ok (.iload 7, 2) := by decide +kernel
theorem dL_search_141 : decode cL_search 141 = .ok (.dup2, 1) := by decide +kernel
theorem dL_search_142 : decode cL_search 142 = .ok (.iaload, 1) := by decide +kernel
theorem dL_search_143 : decode cL_search 143 = .ok (.dup_x2, 1) := by decide +kernel
theorem dL_search_144 : decode cL_search 144 = .ok (.iconst 1, 1) := by decide +kernel
theorem dL_search_145 : decode cL_search 145 = .ok (.iadd, 1) := by decide +kernel
theorem dL_search_146 : decode cL_search 146 = .ok (.iastore, 1) := by decide +kernel
theorem dL_search_147 : decode cL_search 147 = .ok (.istore 8, 2) := by decide +kernel
theorem dL_search_149 : decode cL_search 149 = .ok (.aload 5, 2) := by decide +kernel
theorem dL_search_151 : decode cL_search 151 = .ok (.iload 7, 2) := by decide +kernel
theorem dL_search_153 : decode cL_search 153 = .ok (.iaload, 1) := by decide +kernel
theorem dL_search_154 : decode cL_search 154 = .ok (.iload 8, 2) := by decide +kernel
theorem dL_search_156 : decode cL_search 156 = .ok (.aload_n 1, 1) := by decide +kernel
theorem dL_search_157 : decode cL_search 157 = .ok (.aload_n 2, 1) := by decide +kernel
theorem dL_search_158 : decode cL_search 158 = .ok (.invokestatic 26, 3) := by decide +kernel
theorem dL_search_161 : decode cL_search 161 = .ok (.ifCond .le 6, 3) := by decide +kernel
theorem dL_search_164 : decode cL_search 164 = .ok (.goto (-85), 3) := by decide +kernel
theorem dL_search_167 : decode cL_search 167 = .ok (.aload_n 3, 1) := by decide +kernel
theorem dL_search_168 : decode cL_search 168 = .ok (.iconst 1, 1) := by decide +kernel
theorem dL_search_169 : decode cL_search 169 = .ok (.iaload, 1) := by decide +kernel
theorem dL_search_170 : decode cL_search 170 = .ok (.sipush 600, 3) := by decide +kernel
theorem dL_search_173 : decode cL_search 173 = .ok (.if_icmp .ne 10, 3) := by decide +kernel
theorem dL_search_176 : decode cL_search 176 = .ok (.aload_n 3, 1) := by decide +kernel
theorem dL_search_177 : decode cL_search 177 = .ok (.iconst 2, 1) := by decide +kernel
theorem dL_search_178 : decode cL_search 178 = .ok (.iconst 1, 1) := by decide +kernel
theorem dL_search_179 : decode cL_search 179 = .ok (.iastore, 1) := by decide +kernel
theorem dL_search_180 : decode cL_search 180 = .ok (.goto 97, 3) := by decide +kernel
theorem dL_search_183 : decode cL_search 183 = .ok (.aload_n 3, 1) := by decide +kernel
theorem dL_search_184 : decode cL_search 184 = .ok (.iconst 1, 1) := by decide +kernel
theorem dL_search_185 : decode cL_search 185 = .ok (.dup2, 1) := by decide +kernel
theorem dL_search_186 : decode cL_search 186 = .ok (.iaload, 1) := by decide +kernel
theorem dL_search_187 : decode cL_search 187 = .ok (.iconst 1, 1) := by decide +kernel
theorem dL_search_188 : decode cL_search 188 = .ok (.iadd, 1) := by decide +kernel
theorem dL_search_189 : decode cL_search 189 = .ok (.iastore, 1) := by decide +kernel
theorem dL_search_190 : decode cL_search 190 = .ok (.aload_n 1, 1) := by decide +kernel
theorem dL_search_191 : decode cL_search 191 = .ok (.iconst 4, 1) := by decide +kernel
theorem dL_search_192 : decode cL_search 192 = .ok (.aload 5, 2) := by decide +kernel
theorem dL_search_194 : decode cL_search 194 = .ok (.iload 7, 2) := by decide +kernel
theorem dL_search_196 : decode cL_search 196 = .ok (.iaload, 1) := by decide +kernel
theorem dL_search_197 : decode cL_search 197 = .ok (.iadd, 1) := by decide +kernel
theorem dL_search_198 : decode cL_search 198 = .ok (.iload 8, 2) := by decide +kernel
theorem dL_search_200 : decode cL_search 200 = .ok (.iastore, 1) := by decide +kernel
theorem dL_search_201 : decode cL_search 201 = .ok (.iload 7, 2) := by decide +kernel
theorem dL_search_203 : decode cL_search 203 = .ok (.iconst 1, 1) := by decide +kernel
theorem dL_search_204 : decode cL_search 204 = .ok (.iadd, 1) := by decide +kernel
theorem dL_search_205 : decode cL_search 205 = .ok (.iload 6, 2) := by decide +kernel
theorem dL_search_207 : decode cL_search 207 = .ok (.if_icmp .ge 9, 3) := by decide +kernel
theorem dL_search_210 : decode cL_search 210 = .ok (.iinc 7 1, 3) := by decide +kernel
theorem dL_search_213 : decode cL_search 213 = .ok (.goto (-134), 3) := by decide +kernel
theorem dL_search_216 : decode cL_search 216 = .ok (.aload_n 3, 1) := by decide +kernel
theorem dL_search_217 : decode cL_search 217 = .ok (.iconst 0, 1) := by decide +kernel
theorem dL_search_218 : decode cL_search 218 = .ok (.dup2, 1) := by decide +kernel
theorem dL_search_219 : decode cL_search 219 = .ok (.iaload, 1) := by decide +kernel
theorem dL_search_220 : decode cL_search 220 = .ok (.iconst 1, 1) := by decide +kernel
theorem dL_search_221 : decode cL_search 221 = .ok (.iadd, 1) := by decide +kernel
theorem dL_search_222 : decode cL_search 222 = .ok (.iastore, 1) := by decide +kernel
theorem dL_search_223 : decode cL_search 223 = .ok (.aload_n 3, 1) := by decide +kernel
theorem dL_search_224 : decode cL_search 224 = .ok (.iconst 0, 1) := by decide +kernel
theorem dL_search_225 : decode cL_search 225 = .ok (.iaload, 1) := by decide +kernel
theorem dL_search_226 : decode cL_search 226 = .ok (.iconst 1, 1) := by decide +kernel
theorem dL_search_227 : decode cL_search 227 = .ok (.if_icmp .ne 37, 3) := by decide +kernel
theorem dL_search_230 : decode cL_search 230 = .ok (.iconst 0, 1) := by decide +kernel
theorem dL_search_231 : decode cL_search 231 = .ok (.istore 9, 2) := by decide +kernel
theorem dL_search_233 : decode cL_search 233 = .ok (.iload 9, 2) := by decide +kernel
theorem dL_search_235 : decode cL_search 235 = .ok (.iload 6, 2) := by decide +kernel
theorem dL_search_237 : decode cL_search 237 = .ok (.if_icmp .ge 27, 3) := by decide +kernel
theorem dL_search_240 : decode cL_search 240 = .ok (.aload_n 3, 1) := by decide +kernel
theorem dL_search_241 : decode cL_search 241 = .ok (.iconst 3, 1) := by decide +kernel
theorem dL_search_242 : decode cL_search 242 = .ok (.aload 5, 2) := by decide +kernel
theorem dL_search_244 : decode cL_search 244 = .ok (.iload 9, 2) := by decide +kernel
theorem dL_search_246 : decode cL_search 246 = .ok (.iaload, 1) := by decide +kernel
theorem dL_search_247 : decode cL_search 247 = .ok (.iadd, 1) := by decide +kernel
theorem dL_search_248 : decode cL_search 248 = .ok (.aload_n 1, 1) := by decide +kernel
theorem dL_search_249 : decode cL_search 249 = .ok (.iconst 4, 1) := by decide +kernel
theorem dL_search_250 : decode cL_search 250 = .ok (.aload 5, 2) := by decide +kernel
theorem dL_search_252 : decode cL_search 252 = .ok (.iload 9, 2) := by decide +kernel
theorem dL_search_254 : decode cL_search 254 = .ok (.iaload, 1) := by decide +kernel
theorem dL_search_255 : decode cL_search 255 = .ok (.iadd, 1) := by decide +kernel
theorem dL_search_256 : decode cL_search 256 = .ok (.iaload, 1) := by decide +kernel
theorem dL_search_257 : decode cL_search 257 = .ok (.iastore, 1) := by decide +kernel
theorem dL_search_258 : decode cL_search 258 = .ok (.iinc 9 1, 3) := by decide +kernel
theorem dL_search_261 : decode cL_search 261 = .ok (.goto (-28), 3) := by decide +kernel
theorem dL_search_264 : decode cL_search 264 = .ok (.aload_n 1, 1) := by decide +kernel
theorem dL_search_265 : decode cL_search 265 = .ok (.iconst 4, 1) := by decide +kernel
theorem dL_search_266 : decode cL_search 266 = .ok (.aload 5, 2) := by decide +kernel
theorem dL_search_268 : decode cL_search 268 = .ok (.iload 7, 2) := by decide +kernel
theorem dL_search_270 : decode cL_search 270 = .ok (.iaload, 1) := by decide +kernel
theorem dL_search_271 : decode cL_search 271 = .ok (.iadd, 1) := by decide +kernel
theorem dL_search_272 : decode cL_search 272 = .ok (.iconst (-1), 1) := by decide +kernel
theorem dL_search_273 : decode cL_search 273 = .ok (.iastore, 1) := by decide +kernel
theorem dL_search_274 : decode cL_search 274 = .ok (.goto (-195), 3) := by decide +kernel
theorem dL_search_277 : decode cL_search 277 = .ok (.iconst 0, 1) := by decide +kernel
theorem dL_search_278 : decode cL_search 278 = .ok (.istore 8, 2) := by decide +kernel
theorem dL_search_280 : decode cL_search 280 = .ok (.iload 8, 2) := by decide +kernel
theorem dL_search_282 : decode cL_search 282 = .ok (.iload 6, 2) := by decide +kernel
theorem dL_search_284 : decode cL_search 284 = .ok (.if_icmp .ge 19, 3) := by decide +kernel
theorem dL_search_287 : decode cL_search 287 = .ok (.aload_n 1, 1) := by decide +kernel
theorem dL_search_288 : decode cL_search 288 = .ok (.iconst 4, 1) := by decide +kernel
theorem dL_search_289 : decode cL_search 289 = .ok (.aload 5, 2) := by decide +kernel
theorem dL_search_291 : decode cL_search 291 = .ok (.iload 8, 2) := by decide +kernel
theorem dL_search_293 : decode cL_search 293 = .ok (.iaload, 1) := by decide +kernel
theorem dL_search_294 : decode cL_search 294 = .ok (.iadd, 1) := by decide +kernel
theorem dL_search_295 : decode cL_search 295 = .ok (.iconst (-1), 1) := by decide +kernel
theorem dL_search_296 : decode cL_search 296 = .ok (.iastore, 1) := by decide +kernel
theorem dL_search_297 : decode cL_search 297 = .ok (.iinc 8 1, 3) := by decide +kernel
theorem dL_search_300 : decode cL_search 300 = .ok (.goto (-20), 3) := by decide +kernel
theorem dL_search_303 : decode cL_search 303 = .ok (.return_, 1) := by decide +kernel
set_option maxRecDepth 20000 in
theorem ggL_cut_L_beyond : GoodIn wsL_cut wsL_beyond := goodIn_r _ [4] (by decide +kernel) (by decide +kernel)
set_option maxRecDepth 20000 in
theorem gL_cut_L_beyond : GoodIn wsL_cut (va_wsS RL 14 yL_beyond wsL_beyond) := goodIn_app (goodIn_of _ (by decide +kernel)) ggL_cut_L_beyond
theorem dL_cut_0 : decode cL_cut 0 = .ok (.iload_n 0, 1) := by decide +kernel
theorem dL_cut_1 : decode cL_cut 1 = .ok (.istore 4, 2) := by decide +kernel
theorem dL_cut_3 : decode cL_cut 3 = .ok (.aload_n 2, 1) := by decide +kernel
theorem dL_cut_4 : decode cL_cut 4 = .ok (.iconst 0, 1) := by decide +kernel
theorem dL_cut_5 : decode cL_cut 5 = .ok (.iaload, 1) := by decide +kernel
theorem dL_cut_6 : decode cL_cut 6 = .ok (.aload_n 2, 1) := by decide +kernel
theorem dL_cut_7 : decode cL_cut 7 = .ok (.iconst 1, 1) := by decide +kernel
theorem dL_cut_8 : decode cL_cut 8 = .ok (.iaload, 1) := by decide +kernel
theorem dL_cut_9 : decode cL_cut 9 = .ok (.imul, 1) := by decide +kernel
theorem dL_cut_10 : decode cL_cut 10 = .ok (.istore 5, 2) := by decide +kernel
theorem dL_cut_12 : decode cL_cut 12 = .ok (.iconst 0, 1) := by decide +kernel
theorem dL_cut_13 : decode cL_cut 13 = .ok (.istore 6, 2) := by decide +kernel
theorem dL_cut_15 : decode cL_cut 15 = .ok (.iload 6, 2) := by decide +kernel
theorem dL_cut_17 : decode cL_cut 17 = .ok (.bipush 48, 2) := by decide +kernel
theorem dL_cut_19 : decode cL_cut 19 = .ok (.if_icmp .ge 14, 3) := by decide +kernel
theorem dL_cut_22 : decode cL_cut 22 = .ok (.aload_n 3, 1) := by decide +kernel
theorem dL_cut_23 : decode cL_cut 23 = .ok (.iload 6, 2) := by decide +kernel
theorem dL_cut_25 : decode cL_cut 25 = .ok (.iconst 0, 1) := by decide +kernel
theorem dL_cut_26 : decode cL_cut 26 = .ok (.iastore, 1) := by decide +kernel
theorem dL_cut_27 : decode cL_cut 27 = .ok (.iinc 6 1, 3) := by decide +kernel
theorem dL_cut_30 : decode cL_cut 30 = .ok (.goto (-15), 3) := by decide +kernel
theorem dL_cut_33 : decode cL_cut 33 = .ok (.iconst 0, 1) := by decide +kernel
theorem dL_cut_34 : decode cL_cut 34 = .ok (.istore 6, 2) := by decide +kernel
theorem dL_cut_36 : decode cL_cut 36 = .ok (.iload 6, 2) := by decide +kernel
theorem dL_cut_38 : decode cL_cut 38 = .ok (.iload 5, 2) := by decide +kernel
theorem dL_cut_40 : decode cL_cut 40 = .ok (.if_icmp .ge 188, 3) := by decide +kernel
theorem dL_cut_43 : decode cL_cut 43 = .ok (.aload_n 2, 1) := by decide +kernel
theorem dL_cut_44 : decode cL_cut 44 = .ok (.iconst 4, 1) := by decide +kernel
theorem dL_cut_45 : decode cL_cut 45 = .ok (.iload 6, 2) := by decide +kernel
theorem dL_cut_47 : decode cL_cut 47 = .ok (.iadd, 1) := by decide +kernel
theorem dL_cut_48 : decode cL_cut 48 = .ok (.iconst (-1), 1) := by decide +kernel
theorem dL_cut_49 : decode cL_cut 49 = .ok (.iastore, 1) := by decide +kernel
theorem dL_cut_50 : decode cL_cut 50 = .ok (.aload_n 2, 1) := by decide +kernel
theorem dL_cut_51 : decode cL_cut 51 = .ok (.bipush 16, 2) := by decide +kernel
theorem dL_cut_53 : decode cL_cut 53 = .ok (.iload 6, 2) := by decide +kernel
theorem dL_cut_55 : decode cL_cut 55 = .ok (.iadd, 1) := by decide +kernel
theorem dL_cut_56 : decode cL_cut 56 = .ok (.iconst 0, 1) := by decide +kernel
theorem dL_cut_57 : decode cL_cut 57 = .ok (.iastore, 1) := by decide +kernel
theorem dL_cut_58 : decode cL_cut 58 = .ok (.iconst 0, 1) := by decide +kernel
theorem dL_cut_59 : decode cL_cut 59 = .ok (.istore 7, 2) := by decide +kernel
theorem dL_cut_61 : decode cL_cut 61 = .ok (.iload 7, 2) := by decide +kernel
theorem dL_cut_63 : decode cL_cut 63 = .ok (.iconst 4, 1) := by decide +kernel
theorem dL_cut_64 : decode cL_cut 64 = .ok (.if_icmp .ge 158, 3) := by decide +kernel
theorem dL_cut_67 : decode cL_cut 67 = .ok (.iload 7, 2) := by decide +kernel
theorem dL_cut_69 : decode cL_cut 69 = .ok (.iconst 2, 1) := by decide +kernel
theorem dL_cut_70 : decode cL_cut 70 = .ok (.if_icmp .ge 7, 3) := by decide +kernel
theorem dL_cut_73 : decode cL_cut 73 = .ok (.iconst 1, 1) := by decide +kernel
theorem dL_cut_74 : decode cL_cut 74 = .ok (.goto 4, 3) := by decide +kernel
theorem dL_cut_77 : decode cL_cut 77 = .ok (.iconst 2, 1) := by decide +kernel
theorem dL_cut_78 : decode cL_cut 78 = .ok (.istore 8, 2) := by decide +kernel
theorem dL_cut_80 : decode cL_cut 80 = .ok (.iload 6, 2) := by decide +kernel
theorem dL_cut_82 : decode cL_cut 82 = .ok (.iload 8, 2) := by decide +kernel
theorem dL_cut_84 : decode cL_cut 84 = .ok (.aload_n 2, 1) := by decide +kernel
theorem dL_cut_85 : decode cL_cut 85 = .ok (.invokestatic 14, 3) := by decide +kernel
theorem dL_cut_88 : decode cL_cut 88 = .ok (.istore 9, 2) := by decide +kernel
theorem dL_cut_90 : decode cL_cut 90 = .ok (.iload 9, 2) := by decide +kernel
theorem dL_cut_92 : decode cL_cut 92 = .ok (.ifCond .ge 6, 3) := by decide +kernel
theorem dL_cut_95 : decode cL_cut 95 = .ok (.goto 121, 3) := by decide +kernel
theorem dL_cut_98 : decode cL_cut 98 = .ok (.iconst 1, 1) := by decide +kernel
theorem dL_cut_99 : decode cL_cut 99 = .ok (.iload 4, 2) := by decide +kernel
theorem dL_cut_101 : decode cL_cut 101 = .ok (.bipush 10, 2) := by decide +kernel
theorem dL_cut_103 : decode cL_cut 103 = .ok (.irem, 1) := by decide +kernel
theorem dL_cut_104 : decode cL_cut 104 = .ok (.iload_n 1, 1) := by decide +kernel
theorem dL_cut_105 : decode cL_cut 105 = .ok (.irem, 1) := by decide +kernel
theorem dL_cut_106 : decode cL_cut 106 = .ok (.iadd, 1) := by decide +kernel
theorem dL_cut_107 : decode cL_cut 107 = .ok (.istore 10, 2) := by decide +kernel
theorem dL_cut_109 : decode cL_cut 109 = .ok (.iload 4, 2) := by decide +kernel
theorem dL_cut_111 : decode cL_cut 111 = .ok (.bipush 10, 2) := by decide +kernel
theorem dL_cut_113 : decode cL_cut 113 = .ok (.if_icmp .ge 7, 3) := by decide +kernel
theorem dL_cut_116 : decode cL_cut 116 = .ok (.iload_n 0, 1) := by decide +kernel
theorem dL_cut_117 : decode cL_cut 117 = .ok (.goto 8, 3) := by decide +kernel
theorem dL_cut_120 : decode cL_cut 120 = .ok (.iload 4, 2) := by decide +kernel
theorem dL_cut_122 : decode cL_cut 122 = .ok (.bipush 10, 2) := by decide +kernel
theorem dL_cut_124 : decode cL_cut 124 = .ok (.idiv, 1) := by decide +kernel
theorem dL_cut_125 : decode cL_cut 125 = .ok (.istore 4, 2) := by decide +kernel
theorem dL_cut_127 : decode cL_cut 127 = .ok (.iload 7, 2) := by decide +kernel
theorem dL_cut_129 : decode cL_cut 129 = .ok (.iconst 2, 1) := by decide +kernel
theorem dL_cut_130 : decode cL_cut 130 = .ok (.irem, 1) := by decide +kernel
theorem dL_cut_131 : decode cL_cut 131 = .ok (.ifCond .ne 39, 3) := by decide +kernel
theorem dL_cut_134 : decode cL_cut 134 = .ok (.aload_n 3, 1) := by decide +kernel
theorem dL_cut_135 : decode cL_cut 135 = .ok (.bipush 8, 2) := by decide +kernel
theorem dL_cut_137 : decode cL_cut 137 = .ok (.iload 6, 2) := by decide +kernel
theorem dL_cut_139 : decode cL_cut 139 = .ok (.imul, 1) := by decide +kernel
theorem dL_cut_140 : decode cL_cut 140 = .ok (.iload 8, 2) := by decide +kernel
theorem dL_cut_142 : decode cL_cut 142 = .ok (.iadd, 1) := by decide +kernel
theorem dL_cut_143 : decode cL_cut 143 = .ok (.iload 10, 2) := by decide +kernel
theorem dL_cut_145 : decode cL_cut 145 = .ok (.iastore, 1) := by decide +kernel
theorem dL_cut_146 : decode cL_cut 146 = .ok (.aload_n 3, 1) := by decide +kernel
theorem dL_cut_147 : decode cL_cut 147 = .ok (.bipush 8, 2) := by decide +kernel
theorem dL_cut_149 : decode cL_cut 149 = .ok (.iload 9, 2) := by decide +kernel
theorem dL_cut_151 : decode cL_cut 151 = .ok (.imul, 1) := by decide +kernel
theorem dL_cut_152 : decode cL_cut 152 = .ok (.iload 8, 2) := by decide +kernel
theorem dL_cut_154 : decode cL_cut 154 = .ok (.iconst 1, 1) := by decide +kernel
theorem dL_cut_155 : decode cL_cut 155 = .ok (.if_icmp .ne 7, 3) := by decide +kernel
theorem dL_cut_158 : decode cL_cut 158 = .ok (.iconst 3, 1) := by decide +kernel
theorem dL_cut_159 : decode cL_cut 159 = .ok (.goto 4, 3) := by decide +kernel
theorem dL_cut_162 : decode cL_cut 162 = .ok (.iconst 0, 1) := by decide +kernel
theorem dL_cut_163 : decode cL_cut 163 = .ok (.iadd, 1) := by decide +kernel
theorem dL_cut_164 : decode cL_cut 164 = .ok (.iload 10, 2) := by decide +kernel
theorem dL_cut_166 : decode cL_cut 166 = .ok (.iastore, 1) := by decide +kernel
theorem dL_cut_167 : decode cL_cut 167 = .ok (.goto 49, 3) := by decide +kernel
theorem dL_cut_170 : decode cL_cut 170 = .ok (.aload_n 3, 1) := by decide +kernel
theorem dL_cut_171 : decode cL_cut 171 = .ok (.bipush 8, 2) := by decide +kernel
theorem dL_cut_173 : decode cL_cut 173 = .ok (.iload 6, 2) := by decide +kernel
theorem dL_cut_175 : decode cL_cut 175 = .ok (.imul, 1) := by decide +kernel
theorem dL_cut_176 : decode cL_cut 176 = .ok (.iconst 4, 1) := by decide +kernel
theorem dL_cut_177 : decode cL_cut 177 = .ok (.iadd, 1) := by decide +kernel
theorem dL_cut_178 : decode cL_cut 178 = .ok (.iload 8, 2) := by decide +kernel
theorem dL_cut_180 : decode cL_cut 180 = .ok (.iconst 1, 1) := by decide +kernel
theorem dL_cut_181 : decode cL_cut 181 = .ok (.if_icmp .ne 7, 3) := by decide +kernel
theorem dL_cut_184 : decode cL_cut 184 = .ok (.iconst 3, 1) := by decide +kernel
theorem dL_cut_185 : decode cL_cut 185 = .ok (.goto 4, 3) := by decide +kernel
theorem dL_cut_188 : decode cL_cut 188 = .ok (.iconst 2, 1) := by decide +kernel
theorem dL_cut_189 : decode cL_cut 189 = .ok (.iadd, 1) := by decide +kernel
theorem dL_cut_190 : decode cL_cut 190 = .ok (.iload 10, 2) := by decide +kernel
theorem dL_cut_192 : decode cL_cut 192 = .ok (.iastore, 1) := by decide +kernel
theorem dL_cut_193 : decode cL_cut 193 = .ok (.aload_n 3, 1) := by decide +kernel
theorem dL_cut_194 : decode cL_cut 194 = .ok (.bipush 8, 2) := by decide +kernel
theorem dL_cut_196 : decode cL_cut 196 = .ok (.iload 9, 2) := by decide +kernel
theorem dL_cut_198 : decode cL_cut 198 = .ok (.imul, 1) := by decide +kernel
theorem dL_cut_199 : decode cL_cut 199 = .ok (.iconst 4, 1) := by decide +kernel
theorem dL_cut_200 : decode cL_cut 200 = .ok (.iadd, 1) := by decide +kernel
theorem dL_cut_201 : decode cL_cut 201 = .ok (.iload 8, 2) := by decide +kernel
theorem dL_cut_203 : decode cL_cut 203 = .ok (.iconst 1, 1) := by decide +kernel
theorem dL_cut_204 : decode cL_cut 204 = .ok (.if_icmp .ne 7, 3) := by decide +kernel
theorem dL_cut_207 : decode cL_cut 207 = .ok (.iconst 1, 1) := by decide +kernel
theorem dL_cut_208 : decode cL_cut 208 = .ok (.goto 4, 3) := by decide +kernel
theorem dL_cut_211 : decode cL_cut 211 = .ok (.iconst 0, 1) := by decide +kernel
theorem dL_cut_212 : decode cL_cut 212 = .ok (.iadd, 1) := by decide +kernel
theorem dL_cut_213 : decode cL_cut 213 = .ok (.iload 10, 2) := by decide +kernel
theorem dL_cut_215 : decode cL_cut 215 = .ok (.iastore, 1) := by decide +kernel
theorem dL_cut_216 : decode cL_cut 216 = .ok (.iinc 7 1, 3) := by decide +kernel
theorem dL_cut_219 : decode cL_cut 219 = .ok (.goto (-158), 3) := by decide +kernel
theorem dL_cut_222 : decode cL_cut 222 = .ok (.iinc 6 1, 3) := by decide +kernel
theorem dL_cut_225 : decode cL_cut 225 = .ok (.goto (-189), 3) := by decide +kernel
theorem dL_cut_228 : decode cL_cut 228 = .ok (.aload_n 2, 1) := by decide +kernel
theorem dL_cut_229 : decode cL_cut 229 = .ok (.iconst 3, 1) := by decide +kernel
theorem dL_cut_230 : decode cL_cut 230 = .ok (.iload 5, 2) := by decide +kernel
theorem dL_cut_232 : decode cL_cut 232 = .ok (.iastore, 1) := by decide +kernel
theorem dL_cut_233 : decode cL_cut 233 = .ok (.return_, 1) := by decide +kernel
abbrev vwCl : List vw_C := [(RX0, TX0, 8), (RX1, TX1, 3), (RX2, TX2, 3), (RX3, TX3, 4), (RX4, TX4, 7), (RX5, TX5, 2), (RX6, TX6, 6)]
