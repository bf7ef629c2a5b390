/-! the law's decode rows -/
theorem d_LW_law_288 : decode code 288 = .ok (.ireturn, 1) := by decide +kernel
theorem d_LW_law_289 : decode code 289 = .ok (.aload_n 1, 1) := by decide +kernel
theorem d_LW_law_290 : decode code 290 = .ok (.aload_n 0, 1) := by decide +kernel
theorem d_LW_law_291 : decode code 291 = .ok (.iload_n 3, 1) := by decide +kernel
theorem d_LW_law_292 : decode code 292 = .ok (.iconst 1, 1) := by decide +kernel
theorem d_LW_law_293 : decode code 293 = .ok (.iadd, 1) := by decide +kernel
theorem d_LW_law_294 : decode code 294 = .ok (.iaload, 1) := by decide +kernel
theorem d_LW_law_295 : decode code 295 = .ok (.ifCond .eq 7, 3) := by decide +kernel
theorem d_LW_law_298 : decode code 298 = .ok (.iconst 1, 1) := by decide +kernel
theorem d_LW_law_299 : decode code 299 = .ok (.goto 4, 3) := by decide +kernel
theorem d_LW_law_302 : decode code 302 = .ok (.iconst 0, 1) := by decide +kernel
theorem d_LW_law_303 : decode code 303 = .ok (.aload_n 0, 1) := by decide +kernel
theorem d_LW_law_304 : decode code 304 = .ok (.iload_n 3, 1) := by decide +kernel
theorem d_LW_law_305 : decode code 305 = .ok (.iconst 2, 1) := by decide +kernel
theorem d_LW_law_306 : decode code 306 = .ok (.iadd, 1) := by decide +kernel
theorem d_LW_law_307 : decode code 307 = .ok (.iaload, 1) := by decide +kernel
theorem d_LW_law_308 : decode code 308 = .ok (.aload_n 0, 1) := by decide +kernel
theorem d_LW_law_309 : decode code 309 = .ok (.iload_n 3, 1) := by decide +kernel
theorem d_LW_law_310 : decode code 310 = .ok (.iconst 3, 1) := by decide +kernel
theorem d_LW_law_311 : decode code 311 = .ok (.iadd, 1) := by decide +kernel
theorem d_LW_law_312 : decode code 312 = .ok (.iaload, 1) := by decide +kernel
theorem d_LW_law_313 : decode code 313 = .ok (.aload_n 0, 1) := by decide +kernel
theorem d_LW_law_314 : decode code 314 = .ok (.iload_n 3, 1) := by decide +kernel
theorem d_LW_law_315 : decode code 315 = .ok (.iconst 4, 1) := by decide +kernel
theorem d_LW_law_316 : decode code 316 = .ok (.iadd, 1) := by decide +kernel
theorem d_LW_law_317 : decode code 317 = .ok (.iaload, 1) := by decide +kernel
theorem d_LW_law_318 : decode code 318 = .ok (.aload_n 0, 1) := by decide +kernel
theorem d_LW_law_319 : decode code 319 = .ok (.iload_n 3, 1) := by decide +kernel
theorem d_LW_law_320 : decode code 320 = .ok (.iconst 5, 1) := by decide +kernel
theorem d_LW_law_321 : decode code 321 = .ok (.iadd, 1) := by decide +kernel
theorem d_LW_law_322 : decode code 322 = .ok (.iaload, 1) := by decide +kernel
theorem d_LW_law_323 : decode code 323 = .ok (.invokevirtual 44, 3) := by decide +kernel
theorem d_LW_law_326 : decode code 326 = .ok (.aload_n 2, 1) := by decide +kernel
theorem d_LW_law_327 : decode code 327 = .ok (.aload_n 0, 1) := by decide +kernel
theorem d_LW_law_328 : decode code 328 = .ok (.iload_n 3, 1) := by decide +kernel
theorem d_LW_law_329 : decode code 329 = .ok (.iconst 1, 1) := by decide +kernel
theorem d_LW_law_330 : decode code 330 = .ok (.iadd, 1) := by decide +kernel
theorem d_LW_law_331 : decode code 331 = .ok (.iaload, 1) := by decide +kernel
theorem d_LW_law_332 : decode code 332 = .ok (.ifCond .eq 7, 3) := by decide +kernel
theorem d_LW_law_335 : decode code 335 = .ok (.iconst 1, 1) := by decide +kernel
theorem d_LW_law_336 : decode code 336 = .ok (.goto 4, 3) := by decide +kernel
theorem d_LW_law_339 : decode code 339 = .ok (.iconst 0, 1) := by decide +kernel
theorem d_LW_law_340 : decode code 340 = .ok (.aload_n 0, 1) := by decide +kernel
theorem d_LW_law_341 : decode code 341 = .ok (.iload_n 3, 1) := by decide +kernel
theorem d_LW_law_342 : decode code 342 = .ok (.iconst 2, 1) := by decide +kernel
theorem d_LW_law_343 : decode code 343 = .ok (.iadd, 1) := by decide +kernel
theorem d_LW_law_344 : decode code 344 = .ok (.iaload, 1) := by decide +kernel
theorem d_LW_law_345 : decode code 345 = .ok (.aload_n 0, 1) := by decide +kernel
