/-! the law's decode rows -/
theorem d_LW_law_666 : decode code 666 = .ok (.iconst 2, 1) := by decide +kernel
theorem d_LW_law_667 : decode code 667 = .ok (.iadd, 1) := by decide +kernel
theorem d_LW_law_668 : decode code 668 = .ok (.iaload, 1) := by decide +kernel
theorem d_LW_law_669 : decode code 669 = .ok (.aload_n 0, 1) := by decide +kernel
theorem d_LW_law_670 : decode code 670 = .ok (.iload_n 3, 1) := by decide +kernel
theorem d_LW_law_671 : decode code 671 = .ok (.iconst 3, 1) := by decide +kernel
theorem d_LW_law_672 : decode code 672 = .ok (.iadd, 1) := by decide +kernel
theorem d_LW_law_673 : decode code 673 = .ok (.iaload, 1) := by decide +kernel
theorem d_LW_law_674 : decode code 674 = .ok (.invokevirtual 84, 3) := by decide +kernel
theorem d_LW_law_677 : decode code 677 = .ok (.aload_n 2, 1) := by decide +kernel
theorem d_LW_law_678 : decode code 678 = .ok (.aload_n 0, 1) := by decide +kernel
theorem d_LW_law_679 : decode code 679 = .ok (.iload_n 3, 1) := by decide +kernel
theorem d_LW_law_680 : decode code 680 = .ok (.iconst 1, 1) := by decide +kernel
theorem d_LW_law_681 : decode code 681 = .ok (.iadd, 1) := by decide +kernel
theorem d_LW_law_682 : decode code 682 = .ok (.iaload, 1) := by decide +kernel
theorem d_LW_law_683 : decode code 683 = .ok (.ifCond .eq 7, 3) := by decide +kernel
theorem d_LW_law_686 : decode code 686 = .ok (.iconst 1, 1) := by decide +kernel
theorem d_LW_law_687 : decode code 687 = .ok (.goto 4, 3) := by decide +kernel
theorem d_LW_law_690 : decode code 690 = .ok (.iconst 0, 1) := by decide +kernel
theorem d_LW_law_691 : decode code 691 = .ok (.aload_n 0, 1) := by decide +kernel
theorem d_LW_law_692 : decode code 692 = .ok (.iload_n 3, 1) := by decide +kernel
theorem d_LW_law_693 : decode code 693 = .ok (.iconst 2, 1) := by decide +kernel
theorem d_LW_law_694 : decode code 694 = .ok (.iadd, 1) := by decide +kernel
theorem d_LW_law_695 : decode code 695 = .ok (.iaload, 1) := by decide +kernel
theorem d_LW_law_696 : decode code 696 = .ok (.aload_n 0, 1) := by decide +kernel
theorem d_LW_law_697 : decode code 697 = .ok (.iload_n 3, 1) := by decide +kernel
theorem d_LW_law_698 : decode code 698 = .ok (.iconst 3, 1) := by decide +kernel
theorem d_LW_law_699 : decode code 699 = .ok (.iadd, 1) := by decide +kernel
theorem d_LW_law_700 : decode code 700 = .ok (.iaload, 1) := by decide +kernel
theorem d_LW_law_701 : decode code 701 = .ok (.invokevirtual 87, 3) := by decide +kernel
theorem d_LW_law_704 : decode code 704 = .ok (.if_icmp .eq 5, 3) := by decide +kernel
theorem d_LW_law_707 : decode code 707 = .ok (.iconst 0, 1) := by decide +kernel
theorem d_LW_law_708 : decode code 708 = .ok (.ireturn, 1) := by decide +kernel
theorem d_LW_law_709 : decode code 709 = .ok (.iinc 3 6, 3) := by decide +kernel
theorem d_LW_law_712 : decode code 712 = .ok (.goto (-694), 3) := by decide +kernel
theorem d_LW_law_715 : decode code 715 = .ok (.iconst 1, 1) := by decide +kernel
theorem d_LW_law_716 : decode code 716 = .ok (.ireturn, 1) := by decide +kernel
