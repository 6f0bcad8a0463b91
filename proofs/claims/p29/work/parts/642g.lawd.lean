theorem dL_act_114 : decode cL_act 114 = .ok (.invokestatic 41, 3) := by decide +kernel
theorem dL_act_117 : decode cL_act 117 = .ok (.iadd, 1) := by decide +kernel
theorem dL_act_118 : decode cL_act 118 = .ok (.istore 7, 2) := by decide +kernel
theorem dL_act_120 : decode cL_act 120 = .ok (.iconst 1, 1) := by decide +kernel
theorem dL_act_121 : decode cL_act 121 = .ok (.iload_n 3, 1) := by decide +kernel
theorem dL_act_122 : decode cL_act 122 = .ok (.iconst 4, 1) := by decide +kernel
theorem dL_act_123 : decode cL_act 123 = .ok (.ishr, 1) := by decide +kernel
theorem dL_act_124 : decode cL_act 124 = .ok (.iconst 4, 1) := by decide +kernel
theorem dL_act_125 : decode cL_act 125 = .ok (.invokestatic 41, 3) := by decide +kernel
theorem dL_act_128 : decode cL_act 128 = .ok (.iadd, 1) := by decide +kernel
theorem dL_act_129 : decode cL_act 129 = .ok (.istore 8, 2) := by decide +kernel
theorem dL_act_131 : decode cL_act 131 = .ok (.iload 7, 2) := by decide +kernel
theorem dL_act_133 : decode cL_act 133 = .ok (.iload 8, 2) := by decide +kernel
theorem dL_act_135 : decode cL_act 135 = .ok (.aload 4, 2) := by decide +kernel
theorem dL_act_137 : decode cL_act 137 = .ok (.aload 5, 2) := by decide +kernel
theorem dL_act_139 : decode cL_act 139 = .ok (.invokestatic 69, 3) := by decide +kernel
theorem dL_act_142 : decode cL_act 142 = .ok (.aload_n 0, 1) := by decide +kernel
theorem dL_act_143 : decode cL_act 143 = .ok (.iload 7, 2) := by decide +kernel
theorem dL_act_145 : decode cL_act 145 = .ok (.iload 8, 2) := by decide +kernel
theorem dL_act_147 : decode cL_act 147 = .ok (.invokevirtual 73, 3) := by decide +kernel
theorem dL_act_150 : decode cL_act 150 = .ok (.aload 4, 2) := by decide +kernel
theorem dL_act_152 : decode cL_act 152 = .ok (.iconst 0, 1) := by decide +kernel
theorem dL_act_153 : decode cL_act 153 = .ok (.iaload, 1) := by decide +kernel
theorem dL_act_154 : decode cL_act 154 = .ok (.aload 4, 2) := by decide +kernel
theorem dL_act_156 : decode cL_act 156 = .ok (.iconst 1, 1) := by decide +kernel
theorem dL_act_157 : decode cL_act 157 = .ok (.iaload, 1) := by decide +kernel
theorem dL_act_158 : decode cL_act 158 = .ok (.imul, 1) := by decide +kernel
theorem dL_act_159 : decode cL_act 159 = .ok (.if_icmp .ne 7, 3) := by decide +kernel
theorem dL_act_162 : decode cL_act 162 = .ok (.iconst 1, 1) := by decide +kernel
theorem dL_act_163 : decode cL_act 163 = .ok (.goto 4, 3) := by decide +kernel
theorem dL_act_166 : decode cL_act 166 = .ok (.iconst 0, 1) := by decide +kernel
theorem dL_act_167 : decode cL_act 167 = .ok (.ireturn, 1) := by decide +kernel
theorem dL_act_168 : decode cL_act 168 = .ok (.iload_n 1, 1) := by decide +kernel
theorem dL_act_169 : decode cL_act 169 = .ok (.iconst 5, 1) := by decide +kernel
theorem dL_act_170 : decode cL_act 170 = .ok (.if_icmp .ge 144, 3) := by decide +kernel
theorem dL_act_173 : decode cL_act 173 = .ok (.iload_n 2, 1) := by decide +kernel
theorem dL_act_174 : decode cL_act 174 = .ok (.iconst 2, 1) := by decide +kernel
theorem dL_act_175 : decode cL_act 175 = .ok (.ishr, 1) := by decide +kernel
theorem dL_act_176 : decode cL_act 176 = .ok (.iload 6, 2) := by decide +kernel
theorem dL_act_178 : decode cL_act 178 = .ok (.invokestatic 41, 3) := by decide +kernel
theorem dL_act_181 : decode cL_act 181 = .ok (.istore 7, 2) := by decide +kernel
theorem dL_act_183 : decode cL_act 183 = .ok (.iconst 0, 1) := by decide +kernel
theorem dL_act_184 : decode cL_act 184 = .ok (.istore 8, 2) := by decide +kernel
theorem dL_act_186 : decode cL_act 186 = .ok (.iload 8, 2) := by decide +kernel
theorem dL_act_188 : decode cL_act 188 = .ok (.bipush 8, 2) := by decide +kernel
theorem dL_act_190 : decode cL_act 190 = .ok (.aload 4, 2) := by decide +kernel
theorem dL_act_192 : decode cL_act 192 = .ok (.iconst 3, 1) := by decide +kernel
theorem dL_act_193 : decode cL_act 193 = .ok (.iaload, 1) := by decide +kernel
theorem dL_act_194 : decode cL_act 194 = .ok (.imul, 1) := by decide +kernel
theorem dL_act_195 : decode cL_act 195 = .ok (.if_icmp .ge 117, 3) := by decide +kernel
theorem dL_act_198 : decode cL_act 198 = .ok (.iload_n 3, 1) := by decide +kernel
theorem dL_act_199 : decode cL_act 199 = .ok (.bipush 8, 2) := by decide +kernel
theorem dL_act_201 : decode cL_act 201 = .ok (.aload 4, 2) := by decide +kernel
theorem dL_act_203 : decode cL_act 203 = .ok (.iconst 3, 1) := by decide +kernel
theorem dL_act_204 : decode cL_act 204 = .ok (.iaload, 1) := by decide +kernel
theorem dL_act_205 : decode cL_act 205 = .ok (.imul, 1) := by decide +kernel
theorem dL_act_206 : decode cL_act 206 = .ok (.invokestatic 41, 3) := by decide +kernel
theorem dL_act_209 : decode cL_act 209 = .ok (.iload 8, 2) := by decide +kernel
theorem dL_act_211 : decode cL_act 211 = .ok (.iadd, 1) := by decide +kernel
theorem dL_act_212 : decode cL_act 212 = .ok (.bipush 8, 2) := by decide +kernel
theorem dL_act_214 : decode cL_act 214 = .ok (.aload 4, 2) := by decide +kernel
theorem dL_act_216 : decode cL_act 216 = .ok (.iconst 3, 1) := by decide +kernel
theorem dL_act_217 : decode cL_act 217 = .ok (.iaload, 1) := by decide +kernel
theorem dL_act_218 : decode cL_act 218 = .ok (.imul, 1) := by decide +kernel
theorem dL_act_219 : decode cL_act 219 = .ok (.irem, 1) := by decide +kernel
theorem dL_act_220 : decode cL_act 220 = .ok (.istore 9, 2) := by decide +kernel
theorem dL_act_222 : decode cL_act 222 = .ok (.iload 7, 2) := by decide +kernel
theorem dL_act_224 : decode cL_act 224 = .ok (.iload 9, 2) := by decide +kernel
theorem dL_act_226 : decode cL_act 226 = .ok (.aload 4, 2) := by decide +kernel
theorem dL_act_228 : decode cL_act 228 = .ok (.aload 5, 2) := by decide +kernel
theorem dL_act_230 : decode cL_act 230 = .ok (.invokestatic 26, 3) := by decide +kernel
theorem dL_act_233 : decode cL_act 233 = .ok (.ifCond .le 6, 3) := by decide +kernel
theorem dL_act_236 : decode cL_act 236 = .ok (.goto 70, 3) := by decide +kernel
theorem dL_act_239 : decode cL_act 239 = .ok (.aload 4, 2) := by decide +kernel
theorem dL_act_241 : decode cL_act 241 = .ok (.iconst 4, 1) := by decide +kernel
theorem dL_act_242 : decode cL_act 242 = .ok (.iload 7, 2) := by decide +kernel
theorem dL_act_244 : decode cL_act 244 = .ok (.iadd, 1) := by decide +kernel
theorem dL_act_245 : decode cL_act 245 = .ok (.iload 9, 2) := by decide +kernel
theorem dL_act_247 : decode cL_act 247 = .ok (.iastore, 1) := by decide +kernel
theorem dL_act_248 : decode cL_act 248 = .ok (.iconst 0, 1) := by decide +kernel
theorem dL_act_249 : decode cL_act 249 = .ok (.istore 10, 2) := by decide +kernel
theorem dL_act_251 : decode cL_act 251 = .ok (.iconst 0, 1) := by decide +kernel
theorem dL_act_252 : decode cL_act 252 = .ok (.istore 11, 2) := by decide +kernel
theorem dL_act_254 : decode cL_act 254 = .ok (.iload 11, 2) := by decide +kernel
theorem dL_act_256 : decode cL_act 256 = .ok (.iload 6, 2) := by decide +kernel
theorem dL_act_258 : decode cL_act 258 = .ok (.if_icmp .ge 29, 3) := by decide +kernel
theorem dL_act_261 : decode cL_act 261 = .ok (.iload 10, 2) := by decide +kernel
theorem dL_act_263 : decode cL_act 263 = .ok (.aload 4, 2) := by decide +kernel
theorem dL_act_265 : decode cL_act 265 = .ok (.iconst 4, 1) := by decide +kernel
theorem dL_act_266 : decode cL_act 266 = .ok (.iload 11, 2) := by decide +kernel
