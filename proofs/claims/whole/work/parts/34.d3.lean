/-! decode rows -/
theorem d_MD_transform_314 : decode b_MD_transform 314 = .ok (.bipush 20, 2) := by decide +kernel
theorem d_MD_transform_316 : decode b_MD_transform 316 = .ok (.iload_n 1, 1) := by decide +kernel
theorem d_MD_transform_317 : decode b_MD_transform 317 = .ok (.imul, 1) := by decide +kernel
theorem d_MD_transform_318 : decode b_MD_transform 318 = .ok (.iload 6, 2) := by decide +kernel
theorem d_MD_transform_320 : decode b_MD_transform 320 = .ok (.iadd, 1) := by decide +kernel
theorem d_MD_transform_321 : decode b_MD_transform 321 = .ok (.iaload, 1) := by decide +kernel
theorem d_MD_transform_322 : decode b_MD_transform 322 = .ok (.iaload, 1) := by decide +kernel
theorem d_MD_transform_323 : decode b_MD_transform 323 = .ok (.iastore, 1) := by decide +kernel
theorem d_MD_transform_324 : decode b_MD_transform 324 = .ok (.iinc 6 1, 3) := by decide +kernel
theorem d_MD_transform_327 : decode b_MD_transform 327 = .ok (.goto (-68), 3) := by decide +kernel
theorem d_MD_transform_330 : decode b_MD_transform 330 = .ok (.aload_n 0, 1) := by decide +kernel
theorem d_MD_transform_331 : decode b_MD_transform 331 = .ok (.getfield 37, 3) := by decide +kernel
theorem d_MD_transform_334 : decode b_MD_transform 334 = .ok (.iload_n 2, 1) := by decide +kernel
theorem d_MD_transform_335 : decode b_MD_transform 335 = .ok (.baload, 1) := by decide +kernel
theorem d_MD_transform_336 : decode b_MD_transform 336 = .ok (.ifCond .ne 89, 3) := by decide +kernel
theorem d_MD_transform_339 : decode b_MD_transform 339 = .ok (.aload_n 0, 1) := by decide +kernel
theorem d_MD_transform_340 : decode b_MD_transform 340 = .ok (.bipush 30, 2) := by decide +kernel
theorem d_MD_transform_342 : decode b_MD_transform 342 = .ok (.invokevirtual 194, 3) := by decide +kernel
theorem d_MD_transform_345 : decode b_MD_transform 345 = .ok (.aload_n 0, 1) := by decide +kernel
theorem d_MD_transform_346 : decode b_MD_transform 346 = .ok (.iconst 3, 1) := by decide +kernel
theorem d_MD_transform_347 : decode b_MD_transform 347 = .ok (.iload_n 2, 1) := by decide +kernel
theorem d_MD_transform_348 : decode b_MD_transform 348 = .ok (.imul, 1) := by decide +kernel
theorem d_MD_transform_349 : decode b_MD_transform 349 = .ok (.iconst 2, 1) := by decide +kernel
theorem d_MD_transform_350 : decode b_MD_transform 350 = .ok (.iadd, 1) := by decide +kernel
theorem d_MD_transform_351 : decode b_MD_transform 351 = .ok (.invokevirtual 194, 3) := by decide +kernel
theorem d_MD_transform_354 : decode b_MD_transform 354 = .ok (.aload_n 0, 1) := by decide +kernel
theorem d_MD_transform_355 : decode b_MD_transform 355 = .ok (.bipush 32, 2) := by decide +kernel
theorem d_MD_transform_357 : decode b_MD_transform 357 = .ok (.invokevirtual 194, 3) := by decide +kernel
theorem d_MD_transform_360 : decode b_MD_transform 360 = .ok (.bipush 20, 2) := by decide +kernel
theorem d_MD_transform_362 : decode b_MD_transform 362 = .ok (.iload_n 1, 1) := by decide +kernel
theorem d_MD_transform_363 : decode b_MD_transform 363 = .ok (.imul, 1) := by decide +kernel
theorem d_MD_transform_364 : decode b_MD_transform 364 = .ok (.iconst 4, 1) := by decide +kernel
theorem d_MD_transform_365 : decode b_MD_transform 365 = .ok (.aload_n 0, 1) := by decide +kernel
theorem d_MD_transform_366 : decode b_MD_transform 366 = .ok (.getfield 31, 3) := by decide +kernel
theorem d_MD_transform_369 : decode b_MD_transform 369 = .ok (.iload_n 1, 1) := by decide +kernel
theorem d_MD_transform_370 : decode b_MD_transform 370 = .ok (.iaload, 1) := by decide +kernel
theorem d_MD_transform_371 : decode b_MD_transform 371 = .ok (.imul, 1) := by decide +kernel
theorem d_MD_transform_372 : decode b_MD_transform 372 = .ok (.iadd, 1) := by decide +kernel
theorem d_MD_transform_373 : decode b_MD_transform 373 = .ok (.istore 6, 2) := by decide +kernel
theorem d_MD_transform_375 : decode b_MD_transform 375 = .ok (.aload_n 0, 1) := by decide +kernel
theorem d_MD_transform_376 : decode b_MD_transform 376 = .ok (.getfield 34, 3) := by decide +kernel
theorem d_MD_transform_379 : decode b_MD_transform 379 = .ok (.iload 6, 2) := by decide +kernel
theorem d_MD_transform_381 : decode b_MD_transform 381 = .ok (.iconst 0, 1) := by decide +kernel
theorem d_MD_transform_382 : decode b_MD_transform 382 = .ok (.iastore, 1) := by decide +kernel
theorem d_MD_transform_383 : decode b_MD_transform 383 = .ok (.aload_n 0, 1) := by decide +kernel
theorem d_MD_transform_384 : decode b_MD_transform 384 = .ok (.getfield 34, 3) := by decide +kernel
theorem d_MD_transform_387 : decode b_MD_transform 387 = .ok (.iload 6, 2) := by decide +kernel
theorem d_MD_transform_389 : decode b_MD_transform 389 = .ok (.iconst 1, 1) := by decide +kernel
theorem d_MD_transform_390 : decode b_MD_transform 390 = .ok (.iadd, 1) := by decide +kernel
theorem d_MD_transform_391 : decode b_MD_transform 391 = .ok (.iload 4, 2) := by decide +kernel
theorem d_MD_transform_393 : decode b_MD_transform 393 = .ok (.iastore, 1) := by decide +kernel
theorem d_MD_transform_394 : decode b_MD_transform 394 = .ok (.aload_n 0, 1) := by decide +kernel
theorem d_MD_transform_395 : decode b_MD_transform 395 = .ok (.getfield 34, 3) := by decide +kernel
theorem d_MD_transform_398 : decode b_MD_transform 398 = .ok (.iload 6, 2) := by decide +kernel
theorem d_MD_transform_400 : decode b_MD_transform 400 = .ok (.iconst 2, 1) := by decide +kernel
theorem d_MD_transform_401 : decode b_MD_transform 401 = .ok (.iadd, 1) := by decide +kernel
theorem d_MD_transform_402 : decode b_MD_transform 402 = .ok (.iload 4, 2) := by decide +kernel
theorem d_MD_transform_404 : decode b_MD_transform 404 = .ok (.iastore, 1) := by decide +kernel
theorem d_MD_transform_405 : decode b_MD_transform 405 = .ok (.aload_n 0, 1) := by decide +kernel
theorem d_MD_transform_406 : decode b_MD_transform 406 = .ok (.getfield 34, 3) := by decide +kernel
