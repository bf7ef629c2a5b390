/-! the law's decode rows -/
theorem d_LW_law_480 : decode code 480 = .ok (.iadd, 1) := by decide +kernel
theorem d_LW_law_481 : decode code 481 = .ok (.iaload, 1) := by decide +kernel
theorem d_LW_law_482 : decode code 482 = .ok (.aload_n 0, 1) := by decide +kernel
theorem d_LW_law_483 : decode code 483 = .ok (.iload_n 3, 1) := by decide +kernel
theorem d_LW_law_484 : decode code 484 = .ok (.iconst 3, 1) := by decide +kernel
theorem d_LW_law_485 : decode code 485 = .ok (.iadd, 1) := by decide +kernel
theorem d_LW_law_486 : decode code 486 = .ok (.iaload, 1) := by decide +kernel
theorem d_LW_law_487 : decode code 487 = .ok (.invokevirtual 71, 3) := by decide +kernel
theorem d_LW_law_490 : decode code 490 = .ok (.aload_n 2, 1) := by decide +kernel
theorem d_LW_law_491 : decode code 491 = .ok (.aload_n 0, 1) := by decide +kernel
theorem d_LW_law_492 : decode code 492 = .ok (.iload_n 3, 1) := by decide +kernel
theorem d_LW_law_493 : decode code 493 = .ok (.iconst 1, 1) := by decide +kernel
theorem d_LW_law_494 : decode code 494 = .ok (.iadd, 1) := by decide +kernel
theorem d_LW_law_495 : decode code 495 = .ok (.iaload, 1) := by decide +kernel
theorem d_LW_law_496 : decode code 496 = .ok (.ifCond .eq 7, 3) := by decide +kernel
theorem d_LW_law_499 : decode code 499 = .ok (.iconst 1, 1) := by decide +kernel
theorem d_LW_law_500 : decode code 500 = .ok (.goto 4, 3) := by decide +kernel
theorem d_LW_law_503 : decode code 503 = .ok (.iconst 0, 1) := by decide +kernel
theorem d_LW_law_504 : decode code 504 = .ok (.aload_n 0, 1) := by decide +kernel
theorem d_LW_law_505 : decode code 505 = .ok (.iload_n 3, 1) := by decide +kernel
theorem d_LW_law_506 : decode code 506 = .ok (.iconst 2, 1) := by decide +kernel
theorem d_LW_law_507 : decode code 507 = .ok (.iadd, 1) := by decide +kernel
theorem d_LW_law_508 : decode code 508 = .ok (.iaload, 1) := by decide +kernel
theorem d_LW_law_509 : decode code 509 = .ok (.aload_n 0, 1) := by decide +kernel
theorem d_LW_law_510 : decode code 510 = .ok (.iload_n 3, 1) := by decide +kernel
theorem d_LW_law_511 : decode code 511 = .ok (.iconst 3, 1) := by decide +kernel
theorem d_LW_law_512 : decode code 512 = .ok (.iadd, 1) := by decide +kernel
theorem d_LW_law_513 : decode code 513 = .ok (.iaload, 1) := by decide +kernel
theorem d_LW_law_514 : decode code 514 = .ok (.invokevirtual 74, 3) := by decide +kernel
theorem d_LW_law_517 : decode code 517 = .ok (.if_icmp .eq 192, 3) := by decide +kernel
theorem d_LW_law_520 : decode code 520 = .ok (.iconst 0, 1) := by decide +kernel
theorem d_LW_law_521 : decode code 521 = .ok (.ireturn, 1) := by decide +kernel
theorem d_LW_law_522 : decode code 522 = .ok (.aload_n 1, 1) := by decide +kernel
theorem d_LW_law_523 : decode code 523 = .ok (.aload_n 0, 1) := by decide +kernel
theorem d_LW_law_524 : decode code 524 = .ok (.iload_n 3, 1) := by decide +kernel
theorem d_LW_law_525 : decode code 525 = .ok (.iconst 1, 1) := by decide +kernel
theorem d_LW_law_526 : decode code 526 = .ok (.iadd, 1) := by decide +kernel
theorem d_LW_law_527 : decode code 527 = .ok (.iaload, 1) := by decide +kernel
theorem d_LW_law_528 : decode code 528 = .ok (.ifCond .eq 7, 3) := by decide +kernel
theorem d_LW_law_531 : decode code 531 = .ok (.iconst 1, 1) := by decide +kernel
theorem d_LW_law_532 : decode code 532 = .ok (.goto 4, 3) := by decide +kernel
theorem d_LW_law_535 : decode code 535 = .ok (.iconst 0, 1) := by decide +kernel
theorem d_LW_law_536 : decode code 536 = .ok (.aload_n 0, 1) := by decide +kernel
theorem d_LW_law_537 : decode code 537 = .ok (.iload_n 3, 1) := by decide +kernel
theorem d_LW_law_538 : decode code 538 = .ok (.iconst 2, 1) := by decide +kernel
theorem d_LW_law_539 : decode code 539 = .ok (.iadd, 1) := by decide +kernel
theorem d_LW_law_540 : decode code 540 = .ok (.iaload, 1) := by decide +kernel
theorem d_LW_law_541 : decode code 541 = .ok (.aload_n 0, 1) := by decide +kernel
