/-! the law's decode rows -/
theorem d_LW_law_604 : decode code 604 = .ok (.iaload, 1) := by decide +kernel
theorem d_LW_law_605 : decode code 605 = .ok (.aload_n 0, 1) := by decide +kernel
theorem d_LW_law_606 : decode code 606 = .ok (.iload_n 3, 1) := by decide +kernel
theorem d_LW_law_607 : decode code 607 = .ok (.iconst 4, 1) := by decide +kernel
theorem d_LW_law_608 : decode code 608 = .ok (.iadd, 1) := by decide +kernel
theorem d_LW_law_609 : decode code 609 = .ok (.iaload, 1) := by decide +kernel
theorem d_LW_law_610 : decode code 610 = .ok (.invokevirtual 79, 3) := by decide +kernel
theorem d_LW_law_613 : decode code 613 = .ok (.aload_n 2, 1) := by decide +kernel
theorem d_LW_law_614 : decode code 614 = .ok (.aload_n 0, 1) := by decide +kernel
theorem d_LW_law_615 : decode code 615 = .ok (.iload_n 3, 1) := by decide +kernel
theorem d_LW_law_616 : decode code 616 = .ok (.iconst 1, 1) := by decide +kernel
theorem d_LW_law_617 : decode code 617 = .ok (.iadd, 1) := by decide +kernel
theorem d_LW_law_618 : decode code 618 = .ok (.iaload, 1) := by decide +kernel
theorem d_LW_law_619 : decode code 619 = .ok (.ifCond .eq 7, 3) := by decide +kernel
theorem d_LW_law_622 : decode code 622 = .ok (.iconst 1, 1) := by decide +kernel
theorem d_LW_law_623 : decode code 623 = .ok (.goto 4, 3) := by decide +kernel
theorem d_LW_law_626 : decode code 626 = .ok (.iconst 0, 1) := by decide +kernel
theorem d_LW_law_627 : decode code 627 = .ok (.aload_n 0, 1) := by decide +kernel
theorem d_LW_law_628 : decode code 628 = .ok (.iload_n 3, 1) := by decide +kernel
theorem d_LW_law_629 : decode code 629 = .ok (.iconst 2, 1) := by decide +kernel
theorem d_LW_law_630 : decode code 630 = .ok (.iadd, 1) := by decide +kernel
theorem d_LW_law_631 : decode code 631 = .ok (.iaload, 1) := by decide +kernel
theorem d_LW_law_632 : decode code 632 = .ok (.aload_n 0, 1) := by decide +kernel
theorem d_LW_law_633 : decode code 633 = .ok (.iload_n 3, 1) := by decide +kernel
theorem d_LW_law_634 : decode code 634 = .ok (.iconst 3, 1) := by decide +kernel
theorem d_LW_law_635 : decode code 635 = .ok (.iadd, 1) := by decide +kernel
theorem d_LW_law_636 : decode code 636 = .ok (.iaload, 1) := by decide +kernel
theorem d_LW_law_637 : decode code 637 = .ok (.aload_n 0, 1) := by decide +kernel
theorem d_LW_law_638 : decode code 638 = .ok (.iload_n 3, 1) := by decide +kernel
theorem d_LW_law_639 : decode code 639 = .ok (.iconst 4, 1) := by decide +kernel
theorem d_LW_law_640 : decode code 640 = .ok (.iadd, 1) := by decide +kernel
theorem d_LW_law_641 : decode code 641 = .ok (.iaload, 1) := by decide +kernel
theorem d_LW_law_642 : decode code 642 = .ok (.invokevirtual 83, 3) := by decide +kernel
theorem d_LW_law_645 : decode code 645 = .ok (.if_icmp .eq 64, 3) := by decide +kernel
theorem d_LW_law_648 : decode code 648 = .ok (.iconst 0, 1) := by decide +kernel
theorem d_LW_law_649 : decode code 649 = .ok (.ireturn, 1) := by decide +kernel
theorem d_LW_law_650 : decode code 650 = .ok (.aload_n 1, 1) := by decide +kernel
theorem d_LW_law_651 : decode code 651 = .ok (.aload_n 0, 1) := by decide +kernel
theorem d_LW_law_652 : decode code 652 = .ok (.iload_n 3, 1) := by decide +kernel
theorem d_LW_law_653 : decode code 653 = .ok (.iconst 1, 1) := by decide +kernel
theorem d_LW_law_654 : decode code 654 = .ok (.iadd, 1) := by decide +kernel
theorem d_LW_law_655 : decode code 655 = .ok (.iaload, 1) := by decide +kernel
theorem d_LW_law_656 : decode code 656 = .ok (.ifCond .eq 7, 3) := by decide +kernel
theorem d_LW_law_659 : decode code 659 = .ok (.iconst 1, 1) := by decide +kernel
theorem d_LW_law_660 : decode code 660 = .ok (.goto 4, 3) := by decide +kernel
theorem d_LW_law_663 : decode code 663 = .ok (.iconst 0, 1) := by decide +kernel
theorem d_LW_law_664 : decode code 664 = .ok (.aload_n 0, 1) := by decide +kernel
theorem d_LW_law_665 : decode code 665 = .ok (.iload_n 3, 1) := by decide +kernel
