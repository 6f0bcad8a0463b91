theorem dL_told_155 : decode cL_told 155 = .ok (.iload 17, 2) := by decide +kernel
theorem dL_told_157 : decode cL_told 157 = .ok (.if_icmp .eq 5, 3) := by decide +kernel
theorem dL_told_160 : decode cL_told 160 = .ok (.iconst 0, 1) := by decide +kernel
theorem dL_told_161 : decode cL_told 161 = .ok (.ireturn, 1) := by decide +kernel
theorem dL_told_162 : decode cL_told 162 = .ok (.iload 6, 2) := by decide +kernel
theorem dL_told_164 : decode cL_told 164 = .ok (.iload 15, 2) := by decide +kernel
theorem dL_told_166 : decode cL_told 166 = .ok (.ifCond .ge 7, 3) := by decide +kernel
theorem dL_told_169 : decode cL_told 169 = .ok (.iconst 1, 1) := by decide +kernel
theorem dL_told_170 : decode cL_told 170 = .ok (.goto 4, 3) := by decide +kernel
theorem dL_told_173 : decode cL_told 173 = .ok (.iconst 0, 1) := by decide +kernel
theorem dL_told_174 : decode cL_told 174 = .ok (.iadd, 1) := by decide +kernel
theorem dL_told_175 : decode cL_told 175 = .ok (.istore 6, 2) := by decide +kernel
theorem dL_told_177 : decode cL_told 177 = .ok (.iload 7, 2) := by decide +kernel
theorem dL_told_179 : decode cL_told 179 = .ok (.aload_n 2, 1) := by decide +kernel
theorem dL_told_180 : decode cL_told 180 = .ok (.bipush 16, 2) := by decide +kernel
theorem dL_told_182 : decode cL_told 182 = .ok (.iload 14, 2) := by decide +kernel
theorem dL_told_184 : decode cL_told 184 = .ok (.iadd, 1) := by decide +kernel
theorem dL_told_185 : decode cL_told 185 = .ok (.iaload, 1) := by decide +kernel
theorem dL_told_186 : decode cL_told 186 = .ok (.iadd, 1) := by decide +kernel
theorem dL_told_187 : decode cL_told 187 = .ok (.istore 7, 2) := by decide +kernel
theorem dL_told_189 : decode cL_told 189 = .ok (.iload 16, 2) := by decide +kernel
theorem dL_told_191 : decode cL_told 191 = .ok (.ifCond .le 24, 3) := by decide +kernel
theorem dL_told_194 : decode cL_told 194 = .ok (.iload 16, 2) := by decide +kernel
theorem dL_told_196 : decode cL_told 196 = .ok (.iload 13, 2) := by decide +kernel
theorem dL_told_198 : decode cL_told 198 = .ok (.if_icmp .ge 17, 3) := by decide +kernel
theorem dL_told_201 : decode cL_told 201 = .ok (.iload 16, 2) := by decide +kernel
theorem dL_told_203 : decode cL_told 203 = .ok (.istore 13, 2) := by decide +kernel
theorem dL_told_205 : decode cL_told 205 = .ok (.bipush 100, 2) := by decide +kernel
theorem dL_told_207 : decode cL_told 207 = .ok (.iload 14, 2) := by decide +kernel
theorem dL_told_209 : decode cL_told 209 = .ok (.imul, 1) := by decide +kernel
theorem dL_told_210 : decode cL_told 210 = .ok (.iload 17, 2) := by decide +kernel
theorem dL_told_212 : decode cL_told 212 = .ok (.iadd, 1) := by decide +kernel
theorem dL_told_213 : decode cL_told 213 = .ok (.istore 12, 2) := by decide +kernel
theorem dL_told_215 : decode cL_told 215 = .ok (.iload 11, 2) := by decide +kernel
theorem dL_told_217 : decode cL_told 217 = .ok (.iload 15, 2) := by decide +kernel
theorem dL_told_219 : decode cL_told 219 = .ok (.ifCond .lt 19, 3) := by decide +kernel
theorem dL_told_222 : decode cL_told 222 = .ok (.iload 14, 2) := by decide +kernel
theorem dL_told_224 : decode cL_told 224 = .ok (.iload 15, 2) := by decide +kernel
theorem dL_told_226 : decode cL_told 226 = .ok (.aload_n 2, 1) := by decide +kernel
theorem dL_told_227 : decode cL_told 227 = .ok (.aload_n 3, 1) := by decide +kernel
theorem dL_told_228 : decode cL_told 228 = .ok (.invokestatic 22, 3) := by decide +kernel
theorem dL_told_231 : decode cL_told 231 = .ok (.ifCond .le 7, 3) := by decide +kernel
theorem dL_told_234 : decode cL_told 234 = .ok (.iconst 1, 1) := by decide +kernel
theorem dL_told_235 : decode cL_told 235 = .ok (.goto 4, 3) := by decide +kernel
theorem dL_told_238 : decode cL_told 238 = .ok (.iconst 0, 1) := by decide +kernel
theorem dL_told_239 : decode cL_told 239 = .ok (.iadd, 1) := by decide +kernel
theorem dL_told_240 : decode cL_told 240 = .ok (.istore 11, 2) := by decide +kernel
theorem dL_told_242 : decode cL_told 242 = .ok (.iconst 0, 1) := by decide +kernel
theorem dL_told_243 : decode cL_told 243 = .ok (.istore 18, 2) := by decide +kernel
theorem dL_told_245 : decode cL_told 245 = .ok (.iload 18, 2) := by decide +kernel
theorem dL_told_247 : decode cL_told 247 = .ok (.iconst 4, 1) := by decide +kernel
theorem dL_told_248 : decode cL_told 248 = .ok (.if_icmp .ge 186, 3) := by decide +kernel
theorem dL_told_251 : decode cL_told 251 = .ok (.iload 14, 2) := by decide +kernel
theorem dL_told_253 : decode cL_told 253 = .ok (.iload 18, 2) := by decide +kernel
theorem dL_told_255 : decode cL_told 255 = .ok (.aload_n 2, 1) := by decide +kernel
theorem dL_told_256 : decode cL_told 256 = .ok (.invokestatic 14, 3) := by decide +kernel
theorem dL_told_259 : decode cL_told 259 = .ok (.istore 19, 2) := by decide +kernel
theorem dL_told_261 : decode cL_told 261 = .ok (.aload_n 0, 1) := by decide +kernel
theorem dL_told_262 : decode cL_told 262 = .ok (.iload 14, 2) := by decide +kernel
theorem dL_told_264 : decode cL_told 264 = .ok (.iload 18, 2) := by decide +kernel
theorem dL_told_266 : decode cL_told 266 = .ok (.iconst 0, 1) := by decide +kernel
theorem dL_told_267 : decode cL_told 267 = .ok (.invokevirtual 35, 3) := by decide +kernel
theorem dL_told_270 : decode cL_told 270 = .ok (.iload 15, 2) := by decide +kernel
theorem dL_told_272 : decode cL_told 272 = .ok (.ifCond .ge 7, 3) := by decide +kernel
theorem dL_told_275 : decode cL_told 275 = .ok (.iconst (-1), 1) := by decide +kernel
theorem dL_told_276 : decode cL_told 276 = .ok (.goto 12, 3) := by decide +kernel
theorem dL_told_279 : decode cL_told 279 = .ok (.iload 15, 2) := by decide +kernel
theorem dL_told_281 : decode cL_told 281 = .ok (.iload 18, 2) := by decide +kernel
theorem dL_told_283 : decode cL_told 283 = .ok (.iconst 0, 1) := by decide +kernel
theorem dL_told_284 : decode cL_told 284 = .ok (.aload_n 3, 1) := by decide +kernel
theorem dL_told_285 : decode cL_told 285 = .ok (.invokestatic 8, 3) := by decide +kernel
theorem dL_told_288 : decode cL_told 288 = .ok (.if_icmp .ne 33, 3) := by decide +kernel
theorem dL_told_291 : decode cL_told 291 = .ok (.aload_n 0, 1) := by decide +kernel
theorem dL_told_292 : decode cL_told 292 = .ok (.iload 14, 2) := by decide +kernel
theorem dL_told_294 : decode cL_told 294 = .ok (.iload 18, 2) := by decide +kernel
theorem dL_told_296 : decode cL_told 296 = .ok (.iconst 1, 1) := by decide +kernel
theorem dL_told_297 : decode cL_told 297 = .ok (.invokevirtual 35, 3) := by decide +kernel
theorem dL_told_300 : decode cL_told 300 = .ok (.iload 15, 2) := by decide +kernel
theorem dL_told_302 : decode cL_told 302 = .ok (.ifCond .ge 7, 3) := by decide +kernel
theorem dL_told_305 : decode cL_told 305 = .ok (.iconst (-1), 1) := by decide +kernel
theorem dL_told_306 : decode cL_told 306 = .ok (.goto 12, 3) := by decide +kernel
theorem dL_told_309 : decode cL_told 309 = .ok (.iload 15, 2) := by decide +kernel
theorem dL_told_311 : decode cL_told 311 = .ok (.iload 18, 2) := by decide +kernel
theorem dL_told_313 : decode cL_told 313 = .ok (.iconst 1, 1) := by decide +kernel
theorem dL_told_314 : decode cL_told 314 = .ok (.aload_n 3, 1) := by decide +kernel
theorem dL_told_315 : decode cL_told 315 = .ok (.invokestatic 8, 3) := by decide +kernel
theorem dL_told_318 : decode cL_told 318 = .ok (.if_icmp .eq 5, 3) := by decide +kernel
theorem dL_told_321 : decode cL_told 321 = .ok (.iconst 0, 1) := by decide +kernel
theorem dL_told_322 : decode cL_told 322 = .ok (.ireturn, 1) := by decide +kernel
theorem dL_told_323 : decode cL_told 323 = .ok (.iload 15, 2) := by decide +kernel
