/-! the law's decode rows -/
theorem d_LW_law_542 : decode code 542 = .ok (.iload_n 3, 1) := by decide +kernel
theorem d_LW_law_543 : decode code 543 = .ok (.iconst 3, 1) := by decide +kernel
theorem d_LW_law_544 : decode code 544 = .ok (.iadd, 1) := by decide +kernel
theorem d_LW_law_545 : decode code 545 = .ok (.iaload, 1) := by decide +kernel
theorem d_LW_law_546 : decode code 546 = .ok (.invokevirtual 75, 3) := by decide +kernel
theorem d_LW_law_549 : decode code 549 = .ok (.aload_n 2, 1) := by decide +kernel
theorem d_LW_law_550 : decode code 550 = .ok (.aload_n 0, 1) := by decide +kernel
theorem d_LW_law_551 : decode code 551 = .ok (.iload_n 3, 1) := by decide +kernel
theorem d_LW_law_552 : decode code 552 = .ok (.iconst 1, 1) := by decide +kernel
theorem d_LW_law_553 : decode code 553 = .ok (.iadd, 1) := by decide +kernel
theorem d_LW_law_554 : decode code 554 = .ok (.iaload, 1) := by decide +kernel
theorem d_LW_law_555 : decode code 555 = .ok (.ifCond .eq 7, 3) := by decide +kernel
theorem d_LW_law_558 : decode code 558 = .ok (.iconst 1, 1) := by decide +kernel
theorem d_LW_law_559 : decode code 559 = .ok (.goto 4, 3) := by decide +kernel
theorem d_LW_law_562 : decode code 562 = .ok (.iconst 0, 1) := by decide +kernel
theorem d_LW_law_563 : decode code 563 = .ok (.aload_n 0, 1) := by decide +kernel
theorem d_LW_law_564 : decode code 564 = .ok (.iload_n 3, 1) := by decide +kernel
theorem d_LW_law_565 : decode code 565 = .ok (.iconst 2, 1) := by decide +kernel
theorem d_LW_law_566 : decode code 566 = .ok (.iadd, 1) := by decide +kernel
theorem d_LW_law_567 : decode code 567 = .ok (.iaload, 1) := by decide +kernel
theorem d_LW_law_568 : decode code 568 = .ok (.aload_n 0, 1) := by decide +kernel
theorem d_LW_law_569 : decode code 569 = .ok (.iload_n 3, 1) := by decide +kernel
theorem d_LW_law_570 : decode code 570 = .ok (.iconst 3, 1) := by decide +kernel
theorem d_LW_law_571 : decode code 571 = .ok (.iadd, 1) := by decide +kernel
theorem d_LW_law_572 : decode code 572 = .ok (.iaload, 1) := by decide +kernel
theorem d_LW_law_573 : decode code 573 = .ok (.invokevirtual 78, 3) := by decide +kernel
theorem d_LW_law_576 : decode code 576 = .ok (.if_icmp .eq 133, 3) := by decide +kernel
theorem d_LW_law_579 : decode code 579 = .ok (.iconst 0, 1) := by decide +kernel
theorem d_LW_law_580 : decode code 580 = .ok (.ireturn, 1) := by decide +kernel
theorem d_LW_law_581 : decode code 581 = .ok (.aload_n 1, 1) := by decide +kernel
theorem d_LW_law_582 : decode code 582 = .ok (.aload_n 0, 1) := by decide +kernel
theorem d_LW_law_583 : decode code 583 = .ok (.iload_n 3, 1) := by decide +kernel
theorem d_LW_law_584 : decode code 584 = .ok (.iconst 1, 1) := by decide +kernel
theorem d_LW_law_585 : decode code 585 = .ok (.iadd, 1) := by decide +kernel
theorem d_LW_law_586 : decode code 586 = .ok (.iaload, 1) := by decide +kernel
theorem d_LW_law_587 : decode code 587 = .ok (.ifCond .eq 7, 3) := by decide +kernel
theorem d_LW_law_590 : decode code 590 = .ok (.iconst 1, 1) := by decide +kernel
theorem d_LW_law_591 : decode code 591 = .ok (.goto 4, 3) := by decide +kernel
theorem d_LW_law_594 : decode code 594 = .ok (.iconst 0, 1) := by decide +kernel
theorem d_LW_law_595 : decode code 595 = .ok (.aload_n 0, 1) := by decide +kernel
theorem d_LW_law_596 : decode code 596 = .ok (.iload_n 3, 1) := by decide +kernel
theorem d_LW_law_597 : decode code 597 = .ok (.iconst 2, 1) := by decide +kernel
theorem d_LW_law_598 : decode code 598 = .ok (.iadd, 1) := by decide +kernel
theorem d_LW_law_599 : decode code 599 = .ok (.iaload, 1) := by decide +kernel
theorem d_LW_law_600 : decode code 600 = .ok (.aload_n 0, 1) := by decide +kernel
theorem d_LW_law_601 : decode code 601 = .ok (.iload_n 3, 1) := by decide +kernel
theorem d_LW_law_602 : decode code 602 = .ok (.iconst 3, 1) := by decide +kernel
theorem d_LW_law_603 : decode code 603 = .ok (.iadd, 1) := by decide +kernel
