theorem dL_law_283 : decode cL_law 283 = .ok (.bipush 28, 2) := by decide +kernel
theorem dL_law_285 : decode cL_law 285 = .ok (.if_icmp .ge 12, 3) := by decide +kernel
theorem dL_law_288 : decode cL_law 288 = .ok (.aload_n 2, 1) := by decide +kernel
theorem dL_law_289 : decode cL_law 289 = .ok (.iload 10, 2) := by decide +kernel
theorem dL_law_291 : decode cL_law 291 = .ok (.aload 4, 2) := by decide +kernel
theorem dL_law_293 : decode cL_law 293 = .ok (.iload 10, 2) := by decide +kernel
theorem dL_law_295 : decode cL_law 295 = .ok (.iaload, 1) := by decide +kernel
theorem dL_law_296 : decode cL_law 296 = .ok (.iastore, 1) := by decide +kernel
theorem dL_law_297 : decode cL_law 297 = .ok (.iinc 10 1, 3) := by decide +kernel
theorem dL_law_300 : decode cL_law 300 = .ok (.goto (-35), 3) := by decide +kernel
theorem dL_law_303 : decode cL_law 303 = .ok (.aload_n 1, 1) := by decide +kernel
theorem dL_law_304 : decode cL_law 304 = .ok (.iload 8, 2) := by decide +kernel
theorem dL_law_306 : decode cL_law 306 = .ok (.iconst 3, 1) := by decide +kernel
theorem dL_law_307 : decode cL_law 307 = .ok (.ishr, 1) := by decide +kernel
theorem dL_law_308 : decode cL_law 308 = .ok (.aload_n 2, 1) := by decide +kernel
theorem dL_law_309 : decode cL_law 309 = .ok (.aload_n 3, 1) := by decide +kernel
theorem dL_law_310 : decode cL_law 310 = .ok (.invokestatic 103, 3) := by decide +kernel
theorem dL_law_313 : decode cL_law 313 = .ok (.ifCond .ne 5, 3) := by decide +kernel
theorem dL_law_316 : decode cL_law 316 = .ok (.iconst 0, 1) := by decide +kernel
theorem dL_law_317 : decode cL_law 317 = .ok (.ireturn, 1) := by decide +kernel
theorem dL_law_318 : decode cL_law 318 = .ok (.iinc 6 1, 3) := by decide +kernel
theorem dL_law_321 : decode cL_law 321 = .ok (.goto (-236), 3) := by decide +kernel
theorem dL_law_324 : decode cL_law 324 = .ok (.iconst 1, 1) := by decide +kernel
theorem dL_law_325 : decode cL_law 325 = .ok (.ireturn, 1) := by decide +kernel
