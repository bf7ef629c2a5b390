/-! the law's decode rows -/
theorem d_LW_law_418 : decode code 418 = .ok (.iload_n 3, 1) := by decide +kernel
theorem d_LW_law_419 : decode code 419 = .ok (.iconst 1, 1) := by decide +kernel
theorem d_LW_law_420 : decode code 420 = .ok (.iadd, 1) := by decide +kernel
theorem d_LW_law_421 : decode code 421 = .ok (.iaload, 1) := by decide +kernel
theorem d_LW_law_422 : decode code 422 = .ok (.invokevirtual 65, 3) := by decide +kernel
theorem d_LW_law_425 : decode code 425 = .ok (.if_icmp .eq 284, 3) := by decide +kernel
theorem d_LW_law_428 : decode code 428 = .ok (.iconst 0, 1) := by decide +kernel
theorem d_LW_law_429 : decode code 429 = .ok (.ireturn, 1) := by decide +kernel
theorem d_LW_law_430 : decode code 430 = .ok (.aload_n 1, 1) := by decide +kernel
theorem d_LW_law_431 : decode code 431 = .ok (.aload_n 0, 1) := by decide +kernel
theorem d_LW_law_432 : decode code 432 = .ok (.iload_n 3, 1) := by decide +kernel
theorem d_LW_law_433 : decode code 433 = .ok (.iconst 1, 1) := by decide +kernel
theorem d_LW_law_434 : decode code 434 = .ok (.iadd, 1) := by decide +kernel
theorem d_LW_law_435 : decode code 435 = .ok (.iaload, 1) := by decide +kernel
theorem d_LW_law_436 : decode code 436 = .ok (.aload_n 0, 1) := by decide +kernel
theorem d_LW_law_437 : decode code 437 = .ok (.iload_n 3, 1) := by decide +kernel
theorem d_LW_law_438 : decode code 438 = .ok (.iconst 2, 1) := by decide +kernel
theorem d_LW_law_439 : decode code 439 = .ok (.iadd, 1) := by decide +kernel
theorem d_LW_law_440 : decode code 440 = .ok (.iaload, 1) := by decide +kernel
theorem d_LW_law_441 : decode code 441 = .ok (.invokevirtual 66, 3) := by decide +kernel
theorem d_LW_law_444 : decode code 444 = .ok (.aload_n 2, 1) := by decide +kernel
theorem d_LW_law_445 : decode code 445 = .ok (.aload_n 0, 1) := by decide +kernel
theorem d_LW_law_446 : decode code 446 = .ok (.iload_n 3, 1) := by decide +kernel
theorem d_LW_law_447 : decode code 447 = .ok (.iconst 1, 1) := by decide +kernel
theorem d_LW_law_448 : decode code 448 = .ok (.iadd, 1) := by decide +kernel
theorem d_LW_law_449 : decode code 449 = .ok (.iaload, 1) := by decide +kernel
theorem d_LW_law_450 : decode code 450 = .ok (.aload_n 0, 1) := by decide +kernel
theorem d_LW_law_451 : decode code 451 = .ok (.iload_n 3, 1) := by decide +kernel
theorem d_LW_law_452 : decode code 452 = .ok (.iconst 2, 1) := by decide +kernel
theorem d_LW_law_453 : decode code 453 = .ok (.iadd, 1) := by decide +kernel
theorem d_LW_law_454 : decode code 454 = .ok (.iaload, 1) := by decide +kernel
theorem d_LW_law_455 : decode code 455 = .ok (.invokevirtual 70, 3) := by decide +kernel
theorem d_LW_law_458 : decode code 458 = .ok (.if_icmp .eq 251, 3) := by decide +kernel
theorem d_LW_law_461 : decode code 461 = .ok (.iconst 0, 1) := by decide +kernel
theorem d_LW_law_462 : decode code 462 = .ok (.ireturn, 1) := by decide +kernel
theorem d_LW_law_463 : decode code 463 = .ok (.aload_n 1, 1) := by decide +kernel
theorem d_LW_law_464 : decode code 464 = .ok (.aload_n 0, 1) := by decide +kernel
theorem d_LW_law_465 : decode code 465 = .ok (.iload_n 3, 1) := by decide +kernel
theorem d_LW_law_466 : decode code 466 = .ok (.iconst 1, 1) := by decide +kernel
theorem d_LW_law_467 : decode code 467 = .ok (.iadd, 1) := by decide +kernel
theorem d_LW_law_468 : decode code 468 = .ok (.iaload, 1) := by decide +kernel
theorem d_LW_law_469 : decode code 469 = .ok (.ifCond .eq 7, 3) := by decide +kernel
theorem d_LW_law_472 : decode code 472 = .ok (.iconst 1, 1) := by decide +kernel
theorem d_LW_law_473 : decode code 473 = .ok (.goto 4, 3) := by decide +kernel
theorem d_LW_law_476 : decode code 476 = .ok (.iconst 0, 1) := by decide +kernel
theorem d_LW_law_477 : decode code 477 = .ok (.aload_n 0, 1) := by decide +kernel
theorem d_LW_law_478 : decode code 478 = .ok (.iload_n 3, 1) := by decide +kernel
theorem d_LW_law_479 : decode code 479 = .ok (.iconst 2, 1) := by decide +kernel
