/-! the law's decode rows -/
theorem d_LW_law_346 : decode code 346 = .ok (.iload_n 3, 1) := by decide +kernel
theorem d_LW_law_347 : decode code 347 = .ok (.iconst 3, 1) := by decide +kernel
theorem d_LW_law_348 : decode code 348 = .ok (.iadd, 1) := by decide +kernel
theorem d_LW_law_349 : decode code 349 = .ok (.iaload, 1) := by decide +kernel
theorem d_LW_law_350 : decode code 350 = .ok (.aload_n 0, 1) := by decide +kernel
theorem d_LW_law_351 : decode code 351 = .ok (.iload_n 3, 1) := by decide +kernel
theorem d_LW_law_352 : decode code 352 = .ok (.iconst 4, 1) := by decide +kernel
theorem d_LW_law_353 : decode code 353 = .ok (.iadd, 1) := by decide +kernel
theorem d_LW_law_354 : decode code 354 = .ok (.iaload, 1) := by decide +kernel
theorem d_LW_law_355 : decode code 355 = .ok (.aload_n 0, 1) := by decide +kernel
theorem d_LW_law_356 : decode code 356 = .ok (.iload_n 3, 1) := by decide +kernel
theorem d_LW_law_357 : decode code 357 = .ok (.iconst 5, 1) := by decide +kernel
theorem d_LW_law_358 : decode code 358 = .ok (.iadd, 1) := by decide +kernel
theorem d_LW_law_359 : decode code 359 = .ok (.iaload, 1) := by decide +kernel
theorem d_LW_law_360 : decode code 360 = .ok (.invokevirtual 48, 3) := by decide +kernel
theorem d_LW_law_363 : decode code 363 = .ok (.if_icmp .eq 346, 3) := by decide +kernel
theorem d_LW_law_366 : decode code 366 = .ok (.iconst 0, 1) := by decide +kernel
theorem d_LW_law_367 : decode code 367 = .ok (.ireturn, 1) := by decide +kernel
theorem d_LW_law_368 : decode code 368 = .ok (.aload_n 1, 1) := by decide +kernel
theorem d_LW_law_369 : decode code 369 = .ok (.invokevirtual 49, 3) := by decide +kernel
theorem d_LW_law_372 : decode code 372 = .ok (.aload_n 2, 1) := by decide +kernel
theorem d_LW_law_373 : decode code 373 = .ok (.invokevirtual 52, 3) := by decide +kernel
theorem d_LW_law_376 : decode code 376 = .ok (.if_icmp .eq 333, 3) := by decide +kernel
theorem d_LW_law_379 : decode code 379 = .ok (.iconst 0, 1) := by decide +kernel
theorem d_LW_law_380 : decode code 380 = .ok (.ireturn, 1) := by decide +kernel
theorem d_LW_law_381 : decode code 381 = .ok (.aload_n 1, 1) := by decide +kernel
theorem d_LW_law_382 : decode code 382 = .ok (.invokevirtual 53, 3) := by decide +kernel
theorem d_LW_law_385 : decode code 385 = .ok (.aload_n 2, 1) := by decide +kernel
theorem d_LW_law_386 : decode code 386 = .ok (.invokevirtual 56, 3) := by decide +kernel
theorem d_LW_law_389 : decode code 389 = .ok (.if_icmp .eq 320, 3) := by decide +kernel
theorem d_LW_law_392 : decode code 392 = .ok (.iconst 0, 1) := by decide +kernel
theorem d_LW_law_393 : decode code 393 = .ok (.ireturn, 1) := by decide +kernel
theorem d_LW_law_394 : decode code 394 = .ok (.aload_n 1, 1) := by decide +kernel
theorem d_LW_law_395 : decode code 395 = .ok (.invokevirtual 57, 3) := by decide +kernel
theorem d_LW_law_398 : decode code 398 = .ok (.aload_n 2, 1) := by decide +kernel
theorem d_LW_law_399 : decode code 399 = .ok (.invokevirtual 60, 3) := by decide +kernel
theorem d_LW_law_402 : decode code 402 = .ok (.if_icmp .eq 307, 3) := by decide +kernel
theorem d_LW_law_405 : decode code 405 = .ok (.iconst 0, 1) := by decide +kernel
theorem d_LW_law_406 : decode code 406 = .ok (.ireturn, 1) := by decide +kernel
theorem d_LW_law_407 : decode code 407 = .ok (.aload_n 1, 1) := by decide +kernel
theorem d_LW_law_408 : decode code 408 = .ok (.aload_n 0, 1) := by decide +kernel
theorem d_LW_law_409 : decode code 409 = .ok (.iload_n 3, 1) := by decide +kernel
theorem d_LW_law_410 : decode code 410 = .ok (.iconst 1, 1) := by decide +kernel
theorem d_LW_law_411 : decode code 411 = .ok (.iadd, 1) := by decide +kernel
theorem d_LW_law_412 : decode code 412 = .ok (.iaload, 1) := by decide +kernel
theorem d_LW_law_413 : decode code 413 = .ok (.invokevirtual 61, 3) := by decide +kernel
theorem d_LW_law_416 : decode code 416 = .ok (.aload_n 2, 1) := by decide +kernel
theorem d_LW_law_417 : decode code 417 = .ok (.aload_n 0, 1) := by decide +kernel
