/-! the reference, piece 1 -/
theorem d_MD_reach_0 : decode b_MD_reach 0 = .ok (.iload_n 2, 1) := by decide +kernel
theorem d_MD_reach_1 : decode b_MD_reach 1 = .ok (.aload_n 0, 1) := by decide +kernel
theorem d_MD_reach_2 : decode b_MD_reach 2 = .ok (.getfield 25, 3) := by decide +kernel
theorem d_MD_reach_5 : decode b_MD_reach 5 = .ok (.iload_n 1, 1) := by decide +kernel
theorem d_MD_reach_6 : decode b_MD_reach 6 = .ok (.iaload, 1) := by decide +kernel
theorem d_MD_reach_7 : decode b_MD_reach 7 = .ok (.if_icmp .ge 32, 3) := by decide +kernel
theorem d_MD_reach_10 : decode b_MD_reach 10 = .ok (.iload_n 3, 1) := by decide +kernel
theorem d_MD_reach_11 : decode b_MD_reach 11 = .ok (.aload_n 0, 1) := by decide +kernel
theorem d_MD_reach_12 : decode b_MD_reach 12 = .ok (.getfield 22, 3) := by decide +kernel
theorem d_MD_reach_15 : decode b_MD_reach 15 = .ok (.iload_n 1, 1) := by decide +kernel
theorem d_MD_reach_16 : decode b_MD_reach 16 = .ok (.iaload, 1) := by decide +kernel
theorem d_MD_reach_17 : decode b_MD_reach 17 = .ok (.if_icmp .gt 22, 3) := by decide +kernel
theorem d_MD_reach_20 : decode b_MD_reach 20 = .ok (.aload_n 0, 1) := by decide +kernel
theorem d_MD_reach_21 : decode b_MD_reach 21 = .ok (.getfield 53, 3) := by decide +kernel
theorem d_MD_reach_24 : decode b_MD_reach 24 = .ok (.iload_n 2, 1) := by decide +kernel
theorem d_MD_reach_25 : decode b_MD_reach 25 = .ok (.iaload, 1) := by decide +kernel
theorem d_MD_reach_26 : decode b_MD_reach 26 = .ok (.ifCond .lt 19, 3) := by decide +kernel
theorem d_MD_reach_29 : decode b_MD_reach 29 = .ok (.aload_n 0, 1) := by decide +kernel
theorem d_MD_reach_30 : decode b_MD_reach 30 = .ok (.getfield 53, 3) := by decide +kernel
theorem d_MD_reach_33 : decode b_MD_reach 33 = .ok (.iload_n 2, 1) := by decide +kernel
theorem d_MD_reach_34 : decode b_MD_reach 34 = .ok (.iaload, 1) := by decide +kernel
theorem d_MD_reach_35 : decode b_MD_reach 35 = .ok (.iload_n 3, 1) := by decide +kernel
theorem d_MD_reach_36 : decode b_MD_reach 36 = .ok (.if_icmp .eq 9, 3) := by decide +kernel
theorem d_MD_reach_39 : decode b_MD_reach 39 = .ok (.aload_n 0, 1) := by decide +kernel
theorem d_MD_reach_40 : decode b_MD_reach 40 = .ok (.iconst 0, 1) := by decide +kernel
theorem d_MD_reach_41 : decode b_MD_reach 41 = .ok (.putfield 132, 3) := by decide +kernel
theorem d_MD_reach_44 : decode b_MD_reach 44 = .ok (.return_, 1) := by decide +kernel
theorem d_MD_reach_45 : decode b_MD_reach 45 = .ok (.aload_n 0, 1) := by decide +kernel
theorem d_MD_reach_46 : decode b_MD_reach 46 = .ok (.aload_n 0, 1) := by decide +kernel
theorem d_MD_reach_47 : decode b_MD_reach 47 = .ok (.getfield 136, 3) := by decide +kernel
theorem d_MD_reach_50 : decode b_MD_reach 50 = .ok (.ifCond .ne 31, 3) := by decide +kernel
theorem d_MD_reach_53 : decode b_MD_reach 53 = .ok (.aload_n 0, 1) := by decide +kernel
theorem d_MD_reach_54 : decode b_MD_reach 54 = .ok (.getfield 53, 3) := by decide +kernel
theorem d_MD_reach_57 : decode b_MD_reach 57 = .ok (.iload_n 2, 1) := by decide +kernel
theorem d_MD_reach_58 : decode b_MD_reach 58 = .ok (.iaload, 1) := by decide +kernel
theorem d_MD_reach_59 : decode b_MD_reach 59 = .ok (.ifCond .lt 22, 3) := by decide +kernel
theorem d_MD_reach_62 : decode b_MD_reach 62 = .ok (.aload_n 0, 1) := by decide +kernel
theorem d_MD_reach_63 : decode b_MD_reach 63 = .ok (.getfield 56, 3) := by decide +kernel
theorem d_MD_reach_66 : decode b_MD_reach 66 = .ok (.iload_n 2, 1) := by decide +kernel
theorem d_MD_reach_67 : decode b_MD_reach 67 = .ok (.laload, 1) := by decide +kernel
theorem d_MD_reach_68 : decode b_MD_reach 68 = .ok (.lload 4, 2) := by decide +kernel
theorem d_MD_reach_70 : decode b_MD_reach 70 = .ok (.lor, 1) := by decide +kernel
theorem d_MD_reach_71 : decode b_MD_reach 71 = .ok (.aload_n 0, 1) := by decide +kernel
theorem d_MD_reach_72 : decode b_MD_reach 72 = .ok (.getfield 56, 3) := by decide +kernel
theorem d_MD_reach_75 : decode b_MD_reach 75 = .ok (.iload_n 2, 1) := by decide +kernel
theorem d_MD_reach_76 : decode b_MD_reach 76 = .ok (.laload, 1) := by decide +kernel
theorem d_MD_reach_77 : decode b_MD_reach 77 = .ok (.lcmp, 1) := by decide +kernel
theorem d_MD_reach_78 : decode b_MD_reach 78 = .ok (.ifCond .eq 7, 3) := by decide +kernel
theorem d_MD_reach_81 : decode b_MD_reach 81 = .ok (.iconst 1, 1) := by decide +kernel
theorem d_MD_reach_82 : decode b_MD_reach 82 = .ok (.goto 4, 3) := by decide +kernel
theorem d_MD_reach_85 : decode b_MD_reach 85 = .ok (.iconst 0, 1) := by decide +kernel
theorem d_MD_reach_86 : decode b_MD_reach 86 = .ok (.putfield 136, 3) := by decide +kernel
theorem d_MD_reach_89 : decode b_MD_reach 89 = .ok (.aload_n 0, 1) := by decide +kernel
theorem d_MD_reach_90 : decode b_MD_reach 90 = .ok (.getfield 53, 3) := by decide +kernel
theorem d_MD_reach_93 : decode b_MD_reach 93 = .ok (.iload_n 2, 1) := by decide +kernel
theorem d_MD_reach_94 : decode b_MD_reach 94 = .ok (.iload_n 3, 1) := by decide +kernel
theorem d_MD_reach_95 : decode b_MD_reach 95 = .ok (.iastore, 1) := by decide +kernel
theorem d_MD_reach_96 : decode b_MD_reach 96 = .ok (.aload_n 0, 1) := by decide +kernel
theorem d_MD_reach_97 : decode b_MD_reach 97 = .ok (.getfield 56, 3) := by decide +kernel
theorem d_MD_reach_100 : decode b_MD_reach 100 = .ok (.iload_n 2, 1) := by decide +kernel
theorem d_MD_reach_101 : decode b_MD_reach 101 = .ok (.aload_n 0, 1) := by decide +kernel
theorem d_MD_reach_102 : decode b_MD_reach 102 = .ok (.getfield 56, 3) := by decide +kernel
theorem d_MD_reach_105 : decode b_MD_reach 105 = .ok (.iload_n 2, 1) := by decide +kernel
theorem d_MD_reach_106 : decode b_MD_reach 106 = .ok (.laload, 1) := by decide +kernel
theorem d_MD_reach_107 : decode b_MD_reach 107 = .ok (.lload 4, 2) := by decide +kernel
theorem d_MD_reach_109 : decode b_MD_reach 109 = .ok (.lor, 1) := by decide +kernel
theorem d_MD_reach_110 : decode b_MD_reach 110 = .ok (.lastore, 1) := by decide +kernel
theorem d_MD_reach_111 : decode b_MD_reach 111 = .ok (.return_, 1) := by decide +kernel
theorem d_MD_takes_0 : decode b_MD_takes 0 = .ok (.aload_n 0, 1) := by decide +kernel
theorem d_MD_takes_1 : decode b_MD_takes 1 = .ok (.iload_n 1, 1) := by decide +kernel
theorem d_MD_takes_2 : decode b_MD_takes 2 = .ok (.iload_n 2, 1) := by decide +kernel
theorem d_MD_takes_3 : decode b_MD_takes 3 = .ok (.invokevirtual 104, 3) := by decide +kernel
theorem d_MD_takes_6 : decode b_MD_takes 6 = .ok (.istore_n 3, 1) := by decide +kernel
theorem d_MD_takes_7 : decode b_MD_takes 7 = .ok (.iload_n 3, 1) := by decide +kernel
theorem d_MD_takes_8 : decode b_MD_takes 8 = .ok (.bipush 13, 2) := by decide +kernel
theorem d_MD_takes_10 : decode b_MD_takes 10 = .ok (.if_icmp .ne 23, 3) := by decide +kernel
theorem d_MD_takes_13 : decode b_MD_takes 13 = .ok (.aload_n 0, 1) := by decide +kernel
theorem d_MD_takes_14 : decode b_MD_takes 14 = .ok (.getfield 16, 3) := by decide +kernel
theorem d_MD_takes_17 : decode b_MD_takes 17 = .ok (.iload_n 1, 1) := by decide +kernel
theorem d_MD_takes_18 : decode b_MD_takes 18 = .ok (.iconst 4, 1) := by decide +kernel
theorem d_MD_takes_19 : decode b_MD_takes 19 = .ok (.idiv, 1) := by decide +kernel
theorem d_MD_takes_20 : decode b_MD_takes 20 = .ok (.iconst 4, 1) := by decide +kernel
theorem d_MD_takes_21 : decode b_MD_takes 21 = .ok (.imul, 1) := by decide +kernel
theorem d_MD_takes_22 : decode b_MD_takes 22 = .ok (.aload_n 0, 1) := by decide +kernel
theorem d_MD_takes_23 : decode b_MD_takes 23 = .ok (.iload_n 1, 1) := by decide +kernel
theorem d_MD_takes_24 : decode b_MD_takes 24 = .ok (.iload_n 2, 1) := by decide +kernel
theorem d_MD_takes_25 : decode b_MD_takes 25 = .ok (.iconst 1, 1) := by decide +kernel
theorem d_MD_takes_26 : decode b_MD_takes 26 = .ok (.iadd, 1) := by decide +kernel
theorem d_MD_takes_27 : decode b_MD_takes 27 = .ok (.invokevirtual 104, 3) := by decide +kernel
theorem d_MD_takes_30 : decode b_MD_takes 30 = .ok (.iadd, 1) := by decide +kernel
theorem d_MD_takes_31 : decode b_MD_takes 31 = .ok (.iaload, 1) := by decide +kernel
theorem d_MD_takes_32 : decode b_MD_takes 32 = .ok (.ireturn, 1) := by decide +kernel
theorem d_MD_takes_33 : decode b_MD_takes 33 = .ok (.iload_n 3, 1) := by decide +kernel
theorem d_MD_takes_34 : decode b_MD_takes 34 = .ok (.iconst 4, 1) := by decide +kernel
theorem d_MD_takes_35 : decode b_MD_takes 35 = .ok (.if_icmp .lt 13, 3) := by decide +kernel
theorem d_MD_takes_38 : decode b_MD_takes 38 = .ok (.iload_n 3, 1) := by decide +kernel
theorem d_MD_takes_39 : decode b_MD_takes 39 = .ok (.bipush 7, 2) := by decide +kernel
theorem d_MD_takes_41 : decode b_MD_takes 41 = .ok (.if_icmp .gt 7, 3) := by decide +kernel
theorem d_MD_takes_44 : decode b_MD_takes 44 = .ok (.iconst 2, 1) := by decide +kernel
theorem d_MD_takes_45 : decode b_MD_takes 45 = .ok (.goto 67, 3) := by decide +kernel
theorem d_MD_takes_48 : decode b_MD_takes 48 = .ok (.iload_n 3, 1) := by decide +kernel
theorem d_MD_takes_49 : decode b_MD_takes 49 = .ok (.iconst 3, 1) := by decide +kernel
theorem d_MD_takes_50 : decode b_MD_takes 50 = .ok (.if_icmp .eq 57, 3) := by decide +kernel
theorem d_MD_takes_53 : decode b_MD_takes 53 = .ok (.iload_n 3, 1) := by decide +kernel
theorem d_MD_takes_54 : decode b_MD_takes 54 = .ok (.bipush 8, 2) := by decide +kernel
theorem d_MD_takes_56 : decode b_MD_takes 56 = .ok (.if_icmp .eq 51, 3) := by decide +kernel
theorem d_MD_takes_59 : decode b_MD_takes 59 = .ok (.iload_n 3, 1) := by decide +kernel
theorem d_MD_takes_60 : decode b_MD_takes 60 = .ok (.bipush 9, 2) := by decide +kernel
theorem d_MD_takes_62 : decode b_MD_takes 62 = .ok (.if_icmp .eq 45, 3) := by decide +kernel
theorem d_MD_takes_65 : decode b_MD_takes 65 = .ok (.iload_n 3, 1) := by decide +kernel
theorem d_MD_takes_66 : decode b_MD_takes 66 = .ok (.bipush 11, 2) := by decide +kernel
theorem d_MD_takes_68 : decode b_MD_takes 68 = .ok (.if_icmp .eq 39, 3) := by decide +kernel
theorem d_MD_takes_71 : decode b_MD_takes 71 = .ok (.iload_n 3, 1) := by decide +kernel
theorem d_MD_takes_72 : decode b_MD_takes 72 = .ok (.bipush 12, 2) := by decide +kernel
theorem d_MD_takes_74 : decode b_MD_takes 74 = .ok (.if_icmp .eq 33, 3) := by decide +kernel
theorem d_MD_takes_77 : decode b_MD_takes 77 = .ok (.iload_n 3, 1) := by decide +kernel
theorem d_MD_takes_78 : decode b_MD_takes 78 = .ok (.bipush 14, 2) := by decide +kernel
theorem d_MD_takes_80 : decode b_MD_takes 80 = .ok (.if_icmp .eq 27, 3) := by decide +kernel
theorem d_MD_takes_83 : decode b_MD_takes 83 = .ok (.iload_n 3, 1) := by decide +kernel
theorem d_MD_takes_84 : decode b_MD_takes 84 = .ok (.bipush 15, 2) := by decide +kernel
theorem d_MD_takes_86 : decode b_MD_takes 86 = .ok (.if_icmp .eq 21, 3) := by decide +kernel
theorem d_MD_takes_89 : decode b_MD_takes 89 = .ok (.iload_n 3, 1) := by decide +kernel
theorem d_MD_takes_90 : decode b_MD_takes 90 = .ok (.bipush 21, 2) := by decide +kernel
theorem d_MD_takes_92 : decode b_MD_takes 92 = .ok (.if_icmp .eq 15, 3) := by decide +kernel
theorem d_MD_takes_95 : decode b_MD_takes 95 = .ok (.iload_n 3, 1) := by decide +kernel
theorem d_MD_takes_96 : decode b_MD_takes 96 = .ok (.bipush 22, 2) := by decide +kernel
theorem d_MD_takes_98 : decode b_MD_takes 98 = .ok (.if_icmp .eq 9, 3) := by decide +kernel
theorem d_MD_takes_101 : decode b_MD_takes 101 = .ok (.iload_n 3, 1) := by decide +kernel
theorem d_MD_takes_102 : decode b_MD_takes 102 = .ok (.bipush 32, 2) := by decide +kernel
theorem d_MD_takes_104 : decode b_MD_takes 104 = .ok (.if_icmp .ne 7, 3) := by decide +kernel
theorem d_MD_takes_107 : decode b_MD_takes 107 = .ok (.iconst 1, 1) := by decide +kernel
theorem d_MD_takes_108 : decode b_MD_takes 108 = .ok (.goto 4, 3) := by decide +kernel
theorem d_MD_takes_111 : decode b_MD_takes 111 = .ok (.iconst 0, 1) := by decide +kernel
theorem d_MD_takes_112 : decode b_MD_takes 112 = .ok (.ireturn, 1) := by decide +kernel
theorem d_MD_with_0 : decode b_MD_with 0 = .ok (.lconst 0, 1) := by decide +kernel
theorem d_MD_with_1 : decode b_MD_with 1 = .ok (.lstore 5, 2) := by decide +kernel
theorem d_MD_with_3 : decode b_MD_with 3 = .ok (.iconst 0, 1) := by decide +kernel
theorem d_MD_with_4 : decode b_MD_with 4 = .ok (.istore 7, 2) := by decide +kernel
theorem d_MD_with_6 : decode b_MD_with 6 = .ok (.iload 7, 2) := by decide +kernel
theorem d_MD_with_8 : decode b_MD_with 8 = .ok (.bipush 64, 2) := by decide +kernel
theorem d_MD_with_10 : decode b_MD_with 10 = .ok (.if_icmp .ge 64, 3) := by decide +kernel
theorem d_MD_with_13 : decode b_MD_with 13 = .ok (.lload_n 1, 1) := by decide +kernel
theorem d_MD_with_14 : decode b_MD_with 14 = .ok (.iload 7, 2) := by decide +kernel
theorem d_MD_with_16 : decode b_MD_with 16 = .ok (.lshr, 1) := by decide +kernel
theorem d_MD_with_17 : decode b_MD_with 17 = .ok (.lconst 1, 1) := by decide +kernel
theorem d_MD_with_18 : decode b_MD_with 18 = .ok (.land, 1) := by decide +kernel
theorem d_MD_with_19 : decode b_MD_with 19 = .ok (.lconst 1, 1) := by decide +kernel
theorem d_MD_with_20 : decode b_MD_with 20 = .ok (.lcmp, 1) := by decide +kernel
theorem d_MD_with_21 : decode b_MD_with 21 = .ok (.ifCond .ne 47, 3) := by decide +kernel
theorem d_MD_with_24 : decode b_MD_with 24 = .ok (.aload_n 0, 1) := by decide +kernel
theorem d_MD_with_25 : decode b_MD_with 25 = .ok (.aload_n 0, 1) := by decide +kernel
theorem d_MD_with_26 : decode b_MD_with 26 = .ok (.getfield 132, 3) := by decide +kernel
theorem d_MD_with_29 : decode b_MD_with 29 = .ok (.ifCond .eq 22, 3) := by decide +kernel
theorem d_MD_with_32 : decode b_MD_with 32 = .ok (.iload 4, 2) := by decide +kernel
theorem d_MD_with_34 : decode b_MD_with 34 = .ok (.ifCond .eq 13, 3) := by decide +kernel
theorem d_MD_with_37 : decode b_MD_with 37 = .ok (.iload 7, 2) := by decide +kernel
theorem d_MD_with_39 : decode b_MD_with 39 = .ok (.iload_n 3, 1) := by decide +kernel
theorem d_MD_with_40 : decode b_MD_with 40 = .ok (.ishr, 1) := by decide +kernel
theorem d_MD_with_41 : decode b_MD_with 41 = .ok (.iconst 1, 1) := by decide +kernel
theorem d_MD_with_42 : decode b_MD_with 42 = .ok (.iand, 1) := by decide +kernel
theorem d_MD_with_43 : decode b_MD_with 43 = .ok (.iconst 1, 1) := by decide +kernel
theorem d_MD_with_44 : decode b_MD_with 44 = .ok (.if_icmp .ne 7, 3) := by decide +kernel
theorem d_MD_with_47 : decode b_MD_with 47 = .ok (.iconst 1, 1) := by decide +kernel
theorem d_MD_with_48 : decode b_MD_with 48 = .ok (.goto 4, 3) := by decide +kernel
theorem d_MD_with_51 : decode b_MD_with 51 = .ok (.iconst 0, 1) := by decide +kernel
theorem d_MD_with_52 : decode b_MD_with 52 = .ok (.putfield 132, 3) := by decide +kernel
theorem d_MD_with_55 : decode b_MD_with 55 = .ok (.lload 5, 2) := by decide +kernel
theorem d_MD_with_57 : decode b_MD_with 57 = .ok (.lconst 1, 1) := by decide +kernel
theorem d_MD_with_58 : decode b_MD_with 58 = .ok (.iload 7, 2) := by decide +kernel
theorem d_MD_with_60 : decode b_MD_with 60 = .ok (.iconst 1, 1) := by decide +kernel
theorem d_MD_with_61 : decode b_MD_with 61 = .ok (.iload_n 3, 1) := by decide +kernel
theorem d_MD_with_62 : decode b_MD_with 62 = .ok (.ishl, 1) := by decide +kernel
theorem d_MD_with_63 : decode b_MD_with 63 = .ok (.ior, 1) := by decide +kernel
theorem d_MD_with_64 : decode b_MD_with 64 = .ok (.lshl, 1) := by decide +kernel
theorem d_MD_with_65 : decode b_MD_with 65 = .ok (.lor, 1) := by decide +kernel
theorem d_MD_with_66 : decode b_MD_with 66 = .ok (.lstore 5, 2) := by decide +kernel
theorem d_MD_with_68 : decode b_MD_with 68 = .ok (.iinc 7 1, 3) := by decide +kernel
theorem d_MD_with_71 : decode b_MD_with 71 = .ok (.goto (-65), 3) := by decide +kernel
theorem d_MD_with_74 : decode b_MD_with 74 = .ok (.lload 5, 2) := by decide +kernel
theorem d_MD_with_76 : decode b_MD_with 76 = .ok (.lreturn, 1) := by decide +kernel
theorem d_MD_puts_0 : decode b_MD_puts 0 = .ok (.iload_n 0, 1) := by decide +kernel
theorem d_MD_puts_1 : decode b_MD_puts 1 = .ok (.bipush 8, 2) := by decide +kernel
theorem d_MD_puts_3 : decode b_MD_puts 3 = .ok (.if_icmp .ne 7, 3) := by decide +kernel
theorem d_MD_puts_6 : decode b_MD_puts 6 = .ok (.iconst 2, 1) := by decide +kernel
theorem d_MD_puts_7 : decode b_MD_puts 7 = .ok (.goto 35, 3) := by decide +kernel
theorem d_MD_puts_10 : decode b_MD_puts 10 = .ok (.iload_n 0, 1) := by decide +kernel
theorem d_MD_puts_11 : decode b_MD_puts 11 = .ok (.iconst 1, 1) := by decide +kernel
theorem d_MD_puts_12 : decode b_MD_puts 12 = .ok (.if_icmp .eq 25, 3) := by decide +kernel
theorem d_MD_puts_15 : decode b_MD_puts 15 = .ok (.iload_n 0, 1) := by decide +kernel
theorem d_MD_puts_16 : decode b_MD_puts 16 = .ok (.iconst 2, 1) := by decide +kernel
theorem d_MD_puts_17 : decode b_MD_puts 17 = .ok (.if_icmp .eq 20, 3) := by decide +kernel
theorem d_MD_puts_20 : decode b_MD_puts 20 = .ok (.iload_n 0, 1) := by decide +kernel
theorem d_MD_puts_21 : decode b_MD_puts 21 = .ok (.iconst 4, 1) := by decide +kernel
theorem d_MD_puts_22 : decode b_MD_puts 22 = .ok (.if_icmp .lt 9, 3) := by decide +kernel
theorem d_MD_puts_25 : decode b_MD_puts 25 = .ok (.iload_n 0, 1) := by decide +kernel
theorem d_MD_puts_26 : decode b_MD_puts 26 = .ok (.bipush 7, 2) := by decide +kernel
theorem d_MD_puts_28 : decode b_MD_puts 28 = .ok (.if_icmp .le 9, 3) := by decide +kernel
theorem d_MD_puts_31 : decode b_MD_puts 31 = .ok (.iload_n 0, 1) := by decide +kernel
theorem d_MD_puts_32 : decode b_MD_puts 32 = .ok (.bipush 13, 2) := by decide +kernel
theorem d_MD_puts_34 : decode b_MD_puts 34 = .ok (.if_icmp .ne 7, 3) := by decide +kernel
theorem d_MD_puts_37 : decode b_MD_puts 37 = .ok (.iconst 1, 1) := by decide +kernel
theorem d_MD_puts_38 : decode b_MD_puts 38 = .ok (.goto 4, 3) := by decide +kernel
theorem d_MD_puts_41 : decode b_MD_puts 41 = .ok (.iconst 0, 1) := by decide +kernel
theorem d_MD_puts_42 : decode b_MD_puts 42 = .ok (.ireturn, 1) := by decide +kernel
theorem d_MD_ends_0 : decode b_MD_ends 0 = .ok (.iload_n 0, 1) := by decide +kernel
theorem d_MD_ends_1 : decode b_MD_ends 1 = .ok (.bipush 10, 2) := by decide +kernel
theorem d_MD_ends_3 : decode b_MD_ends 3 = .ok (.if_icmp .eq 27, 3) := by decide +kernel
theorem d_MD_ends_6 : decode b_MD_ends 6 = .ok (.iload_n 0, 1) := by decide +kernel
theorem d_MD_ends_7 : decode b_MD_ends 7 = .ok (.bipush 14, 2) := by decide +kernel
theorem d_MD_ends_9 : decode b_MD_ends 9 = .ok (.if_icmp .eq 21, 3) := by decide +kernel
theorem d_MD_ends_12 : decode b_MD_ends 12 = .ok (.iload_n 0, 1) := by decide +kernel
theorem d_MD_ends_13 : decode b_MD_ends 13 = .ok (.bipush 15, 2) := by decide +kernel
theorem d_MD_ends_15 : decode b_MD_ends 15 = .ok (.if_icmp .eq 15, 3) := by decide +kernel
theorem d_MD_ends_18 : decode b_MD_ends 18 = .ok (.iload_n 0, 1) := by decide +kernel
theorem d_MD_ends_19 : decode b_MD_ends 19 = .ok (.bipush 20, 2) := by decide +kernel
theorem d_MD_ends_21 : decode b_MD_ends 21 = .ok (.if_icmp .eq 9, 3) := by decide +kernel
theorem d_MD_ends_24 : decode b_MD_ends 24 = .ok (.iload_n 0, 1) := by decide +kernel
theorem d_MD_ends_25 : decode b_MD_ends 25 = .ok (.bipush 32, 2) := by decide +kernel
theorem d_MD_ends_27 : decode b_MD_ends 27 = .ok (.if_icmp .ne 7, 3) := by decide +kernel
theorem d_MD_ends_30 : decode b_MD_ends 30 = .ok (.iconst 1, 1) := by decide +kernel
theorem d_MD_ends_31 : decode b_MD_ends 31 = .ok (.goto 4, 3) := by decide +kernel
theorem d_MD_ends_34 : decode b_MD_ends 34 = .ok (.iconst 0, 1) := by decide +kernel
theorem d_MD_ends_35 : decode b_MD_ends 35 = .ok (.ireturn, 1) := by decide +kernel
theorem d_MD_follow_0 : decode b_MD_follow 0 = .ok (.aload_n 0, 1) := by decide +kernel
theorem d_MD_follow_1 : decode b_MD_follow 1 = .ok (.iload_n 1, 1) := by decide +kernel
theorem d_MD_follow_2 : decode b_MD_follow 2 = .ok (.iload_n 2, 1) := by decide +kernel
theorem d_MD_follow_3 : decode b_MD_follow 3 = .ok (.invokevirtual 104, 3) := by decide +kernel
theorem d_MD_follow_6 : decode b_MD_follow 6 = .ok (.istore_n 3, 1) := by decide +kernel
theorem d_MD_follow_7 : decode b_MD_follow 7 = .ok (.aload_n 0, 1) := by decide +kernel
theorem d_MD_follow_8 : decode b_MD_follow 8 = .ok (.getfield 53, 3) := by decide +kernel
theorem d_MD_follow_11 : decode b_MD_follow 11 = .ok (.iload_n 2, 1) := by decide +kernel
theorem d_MD_follow_12 : decode b_MD_follow 12 = .ok (.iaload, 1) := by decide +kernel
theorem d_MD_follow_13 : decode b_MD_follow 13 = .ok (.istore 4, 2) := by decide +kernel
theorem d_MD_follow_15 : decode b_MD_follow 15 = .ok (.aload_n 0, 1) := by decide +kernel
theorem d_MD_follow_16 : decode b_MD_follow 16 = .ok (.getfield 56, 3) := by decide +kernel
theorem d_MD_follow_19 : decode b_MD_follow 19 = .ok (.iload_n 2, 1) := by decide +kernel
theorem d_MD_follow_20 : decode b_MD_follow 20 = .ok (.laload, 1) := by decide +kernel
theorem d_MD_follow_21 : decode b_MD_follow 21 = .ok (.lstore 5, 2) := by decide +kernel
theorem d_MD_follow_23 : decode b_MD_follow 23 = .ok (.bipush 20, 2) := by decide +kernel
theorem d_MD_follow_25 : decode b_MD_follow 25 = .ok (.iload_n 1, 1) := by decide +kernel
theorem d_MD_follow_26 : decode b_MD_follow 26 = .ok (.imul, 1) := by decide +kernel
theorem d_MD_follow_27 : decode b_MD_follow 27 = .ok (.istore 7, 2) := by decide +kernel
theorem d_MD_follow_29 : decode b_MD_follow 29 = .ok (.iload 7, 2) := by decide +kernel
theorem d_MD_follow_31 : decode b_MD_follow 31 = .ok (.bipush 20, 2) := by decide +kernel
theorem d_MD_follow_33 : decode b_MD_follow 33 = .ok (.iload_n 1, 1) := by decide +kernel
theorem d_MD_follow_34 : decode b_MD_follow 34 = .ok (.imul, 1) := by decide +kernel
theorem d_MD_follow_35 : decode b_MD_follow 35 = .ok (.iconst 4, 1) := by decide +kernel
theorem d_MD_follow_36 : decode b_MD_follow 36 = .ok (.aload_n 0, 1) := by decide +kernel
theorem d_MD_follow_37 : decode b_MD_follow 37 = .ok (.getfield 31, 3) := by decide +kernel
theorem d_MD_follow_40 : decode b_MD_follow 40 = .ok (.iload_n 1, 1) := by decide +kernel
theorem d_MD_follow_41 : decode b_MD_follow 41 = .ok (.iaload, 1) := by decide +kernel
theorem d_MD_follow_42 : decode b_MD_follow 42 = .ok (.imul, 1) := by decide +kernel
theorem d_MD_follow_43 : decode b_MD_follow 43 = .ok (.iadd, 1) := by decide +kernel
theorem d_MD_follow_44 : decode b_MD_follow 44 = .ok (.if_icmp .ge 50, 3) := by decide +kernel
theorem d_MD_follow_47 : decode b_MD_follow 47 = .ok (.aload_n 0, 1) := by decide +kernel
theorem d_MD_follow_48 : decode b_MD_follow 48 = .ok (.getfield 34, 3) := by decide +kernel
theorem d_MD_follow_51 : decode b_MD_follow 51 = .ok (.iload 7, 2) := by decide +kernel
theorem d_MD_follow_53 : decode b_MD_follow 53 = .ok (.iaload, 1) := by decide +kernel
theorem d_MD_follow_54 : decode b_MD_follow 54 = .ok (.iload_n 2, 1) := by decide +kernel
theorem d_MD_follow_55 : decode b_MD_follow 55 = .ok (.if_icmp .gt 33, 3) := by decide +kernel
theorem d_MD_follow_58 : decode b_MD_follow 58 = .ok (.iload_n 2, 1) := by decide +kernel
theorem d_MD_follow_59 : decode b_MD_follow 59 = .ok (.aload_n 0, 1) := by decide +kernel
theorem d_MD_follow_60 : decode b_MD_follow 60 = .ok (.getfield 34, 3) := by decide +kernel
theorem d_MD_follow_63 : decode b_MD_follow 63 = .ok (.iload 7, 2) := by decide +kernel
theorem d_MD_follow_65 : decode b_MD_follow 65 = .ok (.iconst 1, 1) := by decide +kernel
theorem d_MD_follow_66 : decode b_MD_follow 66 = .ok (.iadd, 1) := by decide +kernel
theorem d_MD_follow_67 : decode b_MD_follow 67 = .ok (.iaload, 1) := by decide +kernel
theorem d_MD_follow_68 : decode b_MD_follow 68 = .ok (.if_icmp .ge 20, 3) := by decide +kernel
theorem d_MD_follow_71 : decode b_MD_follow 71 = .ok (.aload_n 0, 1) := by decide +kernel
theorem d_MD_follow_72 : decode b_MD_follow 72 = .ok (.iload_n 1, 1) := by decide +kernel
theorem d_MD_follow_73 : decode b_MD_follow 73 = .ok (.aload_n 0, 1) := by decide +kernel
theorem d_MD_follow_74 : decode b_MD_follow 74 = .ok (.getfield 34, 3) := by decide +kernel
theorem d_MD_follow_77 : decode b_MD_follow 77 = .ok (.iload 7, 2) := by decide +kernel
theorem d_MD_follow_79 : decode b_MD_follow 79 = .ok (.iconst 2, 1) := by decide +kernel
theorem d_MD_follow_80 : decode b_MD_follow 80 = .ok (.iadd, 1) := by decide +kernel
theorem d_MD_follow_81 : decode b_MD_follow 81 = .ok (.iaload, 1) := by decide +kernel
theorem d_MD_follow_82 : decode b_MD_follow 82 = .ok (.iconst 1, 1) := by decide +kernel
theorem d_MD_follow_83 : decode b_MD_follow 83 = .ok (.lload 5, 2) := by decide +kernel
theorem d_MD_follow_85 : decode b_MD_follow 85 = .ok (.invokevirtual 139, 3) := by decide +kernel
theorem d_MD_follow_88 : decode b_MD_follow 88 = .ok (.iinc 7 4, 3) := by decide +kernel
theorem d_MD_follow_91 : decode b_MD_follow 91 = .ok (.goto (-62), 3) := by decide +kernel
theorem d_MD_follow_94 : decode b_MD_follow 94 = .ok (.iload 4, 2) := by decide +kernel
theorem d_MD_follow_96 : decode b_MD_follow 96 = .ok (.aload_n 0, 1) := by decide +kernel
theorem d_MD_follow_97 : decode b_MD_follow 97 = .ok (.iload_n 1, 1) := by decide +kernel
theorem d_MD_follow_98 : decode b_MD_follow 98 = .ok (.iload_n 2, 1) := by decide +kernel
theorem d_MD_follow_99 : decode b_MD_follow 99 = .ok (.invokevirtual 143, 3) := by decide +kernel
theorem d_MD_follow_102 : decode b_MD_follow 102 = .ok (.if_icmp .ge 8, 3) := by decide +kernel
theorem d_MD_follow_105 : decode b_MD_follow 105 = .ok (.aload_n 0, 1) := by decide +kernel
theorem d_MD_follow_106 : decode b_MD_follow 106 = .ok (.iconst 0, 1) := by decide +kernel
theorem d_MD_follow_107 : decode b_MD_follow 107 = .ok (.putfield 132, 3) := by decide +kernel
theorem d_MD_follow_110 : decode b_MD_follow 110 = .ok (.iload_n 3, 1) := by decide +kernel
theorem d_MD_follow_111 : decode b_MD_follow 111 = .ok (.iconst 2, 1) := by decide +kernel
theorem d_MD_follow_112 : decode b_MD_follow 112 = .ok (.if_icmp .eq 9, 3) := by decide +kernel
theorem d_MD_follow_115 : decode b_MD_follow 115 = .ok (.iload_n 3, 1) := by decide +kernel
theorem d_MD_follow_116 : decode b_MD_follow 116 = .ok (.bipush 16, 2) := by decide +kernel
theorem d_MD_follow_118 : decode b_MD_follow 118 = .ok (.if_icmp .ne 19, 3) := by decide +kernel
theorem d_MD_follow_121 : decode b_MD_follow 121 = .ok (.aload_n 0, 1) := by decide +kernel
theorem d_MD_follow_122 : decode b_MD_follow 122 = .ok (.lload 5, 2) := by decide +kernel
theorem d_MD_follow_124 : decode b_MD_follow 124 = .ok (.aload_n 0, 1) := by decide +kernel
theorem d_MD_follow_125 : decode b_MD_follow 125 = .ok (.iload_n 1, 1) := by decide +kernel
theorem d_MD_follow_126 : decode b_MD_follow 126 = .ok (.iload_n 2, 1) := by decide +kernel
theorem d_MD_follow_127 : decode b_MD_follow 127 = .ok (.iconst 1, 1) := by decide +kernel
theorem d_MD_follow_128 : decode b_MD_follow 128 = .ok (.iadd, 1) := by decide +kernel
theorem d_MD_follow_129 : decode b_MD_follow 129 = .ok (.invokevirtual 104, 3) := by decide +kernel
theorem d_MD_follow_132 : decode b_MD_follow 132 = .ok (.iconst 1, 1) := by decide +kernel
theorem d_MD_follow_133 : decode b_MD_follow 133 = .ok (.invokevirtual 146, 3) := by decide +kernel
theorem d_MD_follow_136 : decode b_MD_follow 136 = .ok (.pop2, 1) := by decide +kernel
theorem d_MD_follow_137 : decode b_MD_follow 137 = .ok (.iload_n 3, 1) := by decide +kernel
theorem d_MD_follow_138 : decode b_MD_follow 138 = .ok (.iconst 3, 1) := by decide +kernel
theorem d_MD_follow_139 : decode b_MD_follow 139 = .ok (.if_icmp .ne 20, 3) := by decide +kernel
theorem d_MD_follow_142 : decode b_MD_follow 142 = .ok (.aload_n 0, 1) := by decide +kernel
theorem d_MD_follow_143 : decode b_MD_follow 143 = .ok (.lload 5, 2) := by decide +kernel
theorem d_MD_follow_145 : decode b_MD_follow 145 = .ok (.aload_n 0, 1) := by decide +kernel
theorem d_MD_follow_146 : decode b_MD_follow 146 = .ok (.iload_n 1, 1) := by decide +kernel
theorem d_MD_follow_147 : decode b_MD_follow 147 = .ok (.iload_n 2, 1) := by decide +kernel
theorem d_MD_follow_148 : decode b_MD_follow 148 = .ok (.iconst 1, 1) := by decide +kernel
theorem d_MD_follow_149 : decode b_MD_follow 149 = .ok (.iadd, 1) := by decide +kernel
theorem d_MD_follow_150 : decode b_MD_follow 150 = .ok (.invokevirtual 104, 3) := by decide +kernel
theorem d_MD_follow_153 : decode b_MD_follow 153 = .ok (.iconst 0, 1) := by decide +kernel
theorem d_MD_follow_154 : decode b_MD_follow 154 = .ok (.invokevirtual 146, 3) := by decide +kernel
theorem d_MD_follow_157 : decode b_MD_follow 157 = .ok (.lstore 5, 2) := by decide +kernel
theorem d_MD_follow_159 : decode b_MD_follow 159 = .ok (.iload 4, 2) := by decide +kernel
theorem d_MD_follow_161 : decode b_MD_follow 161 = .ok (.aload_n 0, 1) := by decide +kernel
theorem d_MD_follow_162 : decode b_MD_follow 162 = .ok (.iload_n 1, 1) := by decide +kernel
theorem d_MD_follow_163 : decode b_MD_follow 163 = .ok (.iload_n 2, 1) := by decide +kernel
theorem d_MD_follow_164 : decode b_MD_follow 164 = .ok (.invokevirtual 143, 3) := by decide +kernel
theorem d_MD_follow_167 : decode b_MD_follow 167 = .ok (.isub, 1) := by decide +kernel
theorem d_MD_follow_168 : decode b_MD_follow 168 = .ok (.iload_n 3, 1) := by decide +kernel
theorem d_MD_follow_169 : decode b_MD_follow 169 = .ok (.invokestatic 150, 3) := by decide +kernel
theorem d_MD_follow_172 : decode b_MD_follow 172 = .ok (.iadd, 1) := by decide +kernel
theorem d_MD_follow_173 : decode b_MD_follow 173 = .ok (.istore 7, 2) := by decide +kernel
theorem d_MD_follow_175 : decode b_MD_follow 175 = .ok (.aload_n 0, 1) := by decide +kernel
theorem d_MD_follow_176 : decode b_MD_follow 176 = .ok (.getfield 132, 3) := by decide +kernel
theorem d_MD_follow_179 : decode b_MD_follow 179 = .ok (.ifCond .eq 25, 3) := by decide +kernel
theorem d_MD_follow_182 : decode b_MD_follow 182 = .ok (.iload_n 3, 1) := by decide +kernel
theorem d_MD_follow_183 : decode b_MD_follow 183 = .ok (.invokestatic 119, 3) := by decide +kernel
theorem d_MD_follow_186 : decode b_MD_follow 186 = .ok (.ifCond .eq 18, 3) := by decide +kernel
theorem d_MD_follow_189 : decode b_MD_follow 189 = .ok (.aload_n 0, 1) := by decide +kernel
theorem d_MD_follow_190 : decode b_MD_follow 190 = .ok (.iload_n 1, 1) := by decide +kernel
theorem d_MD_follow_191 : decode b_MD_follow 191 = .ok (.aload_n 0, 1) := by decide +kernel
theorem d_MD_follow_192 : decode b_MD_follow 192 = .ok (.iload_n 1, 1) := by decide +kernel
theorem d_MD_follow_193 : decode b_MD_follow 193 = .ok (.iload_n 2, 1) := by decide +kernel
theorem d_MD_follow_194 : decode b_MD_follow 194 = .ok (.invokevirtual 122, 3) := by decide +kernel
theorem d_MD_follow_197 : decode b_MD_follow 197 = .ok (.iload 7, 2) := by decide +kernel
theorem d_MD_follow_199 : decode b_MD_follow 199 = .ok (.lload 5, 2) := by decide +kernel
theorem d_MD_follow_201 : decode b_MD_follow 201 = .ok (.invokevirtual 139, 3) := by decide +kernel
theorem d_MD_follow_204 : decode b_MD_follow 204 = .ok (.aload_n 0, 1) := by decide +kernel
theorem d_MD_follow_205 : decode b_MD_follow 205 = .ok (.getfield 132, 3) := by decide +kernel
theorem d_MD_follow_208 : decode b_MD_follow 208 = .ok (.ifCond .eq 25, 3) := by decide +kernel
theorem d_MD_follow_211 : decode b_MD_follow 211 = .ok (.iload_n 3, 1) := by decide +kernel
theorem d_MD_follow_212 : decode b_MD_follow 212 = .ok (.invokestatic 153, 3) := by decide +kernel
theorem d_MD_follow_215 : decode b_MD_follow 215 = .ok (.ifCond .ne 18, 3) := by decide +kernel
theorem d_MD_follow_218 : decode b_MD_follow 218 = .ok (.aload_n 0, 1) := by decide +kernel
theorem d_MD_follow_219 : decode b_MD_follow 219 = .ok (.iload_n 1, 1) := by decide +kernel
theorem d_MD_follow_220 : decode b_MD_follow 220 = .ok (.iload_n 2, 1) := by decide +kernel
theorem d_MD_follow_221 : decode b_MD_follow 221 = .ok (.iload_n 3, 1) := by decide +kernel
theorem d_MD_follow_222 : decode b_MD_follow 222 = .ok (.invokestatic 111, 3) := by decide +kernel
theorem d_MD_follow_225 : decode b_MD_follow 225 = .ok (.iadd, 1) := by decide +kernel
theorem d_MD_follow_226 : decode b_MD_follow 226 = .ok (.iload 7, 2) := by decide +kernel
theorem d_MD_follow_228 : decode b_MD_follow 228 = .ok (.lload 5, 2) := by decide +kernel
theorem d_MD_follow_230 : decode b_MD_follow 230 = .ok (.invokevirtual 139, 3) := by decide +kernel
theorem d_MD_follow_233 : decode b_MD_follow 233 = .ok (.return_, 1) := by decide +kernel
theorem d_MD_explore_0 : decode b_MD_explore 0 = .ok (.aload_n 0, 1) := by decide +kernel
theorem d_MD_explore_1 : decode b_MD_explore 1 = .ok (.iload_n 1, 1) := by decide +kernel
theorem d_MD_explore_2 : decode b_MD_explore 2 = .ok (.invokevirtual 115, 3) := by decide +kernel
theorem d_MD_explore_5 : decode b_MD_explore 5 = .ok (.pop, 1) := by decide +kernel
theorem d_MD_explore_6 : decode b_MD_explore 6 = .ok (.iconst 0, 1) := by decide +kernel
theorem d_MD_explore_7 : decode b_MD_explore 7 = .ok (.istore_n 2, 1) := by decide +kernel
theorem d_MD_explore_8 : decode b_MD_explore 8 = .ok (.iload_n 2, 1) := by decide +kernel
theorem d_MD_explore_9 : decode b_MD_explore 9 = .ok (.bipush 120, 2) := by decide +kernel
theorem d_MD_explore_11 : decode b_MD_explore 11 = .ok (.if_icmp .gt 23, 3) := by decide +kernel
theorem d_MD_explore_14 : decode b_MD_explore 14 = .ok (.aload_n 0, 1) := by decide +kernel
theorem d_MD_explore_15 : decode b_MD_explore 15 = .ok (.getfield 53, 3) := by decide +kernel
theorem d_MD_explore_18 : decode b_MD_explore 18 = .ok (.iload_n 2, 1) := by decide +kernel
theorem d_MD_explore_19 : decode b_MD_explore 19 = .ok (.iconst (-1), 1) := by decide +kernel
theorem d_MD_explore_20 : decode b_MD_explore 20 = .ok (.iastore, 1) := by decide +kernel
theorem d_MD_explore_21 : decode b_MD_explore 21 = .ok (.aload_n 0, 1) := by decide +kernel
theorem d_MD_explore_22 : decode b_MD_explore 22 = .ok (.getfield 56, 3) := by decide +kernel
theorem d_MD_explore_25 : decode b_MD_explore 25 = .ok (.iload_n 2, 1) := by decide +kernel
theorem d_MD_explore_26 : decode b_MD_explore 26 = .ok (.lconst 0, 1) := by decide +kernel
theorem d_MD_explore_27 : decode b_MD_explore 27 = .ok (.lastore, 1) := by decide +kernel
theorem d_MD_explore_28 : decode b_MD_explore 28 = .ok (.iinc 2 1, 3) := by decide +kernel
theorem d_MD_explore_31 : decode b_MD_explore 31 = .ok (.goto (-23), 3) := by decide +kernel
theorem d_MD_explore_34 : decode b_MD_explore 34 = .ok (.aload_n 0, 1) := by decide +kernel
theorem d_MD_explore_35 : decode b_MD_explore 35 = .ok (.iconst 1, 1) := by decide +kernel
theorem d_MD_explore_36 : decode b_MD_explore 36 = .ok (.putfield 132, 3) := by decide +kernel
theorem d_MD_explore_39 : decode b_MD_explore 39 = .ok (.aload_n 0, 1) := by decide +kernel
theorem d_MD_explore_40 : decode b_MD_explore 40 = .ok (.iconst 1, 1) := by decide +kernel
theorem d_MD_explore_41 : decode b_MD_explore 41 = .ok (.putfield 136, 3) := by decide +kernel
theorem d_MD_explore_44 : decode b_MD_explore 44 = .ok (.aload_n 0, 1) := by decide +kernel
theorem d_MD_explore_45 : decode b_MD_explore 45 = .ok (.iload_n 1, 1) := by decide +kernel
theorem d_MD_explore_46 : decode b_MD_explore 46 = .ok (.iconst 0, 1) := by decide +kernel
theorem d_MD_explore_47 : decode b_MD_explore 47 = .ok (.iconst 0, 1) := by decide +kernel
theorem d_MD_explore_48 : decode b_MD_explore 48 = .ok (.lconst 1, 1) := by decide +kernel
theorem d_MD_explore_49 : decode b_MD_explore 49 = .ok (.iconst 1, 1) := by decide +kernel
theorem d_MD_explore_50 : decode b_MD_explore 50 = .ok (.aload_n 0, 1) := by decide +kernel
theorem d_MD_explore_51 : decode b_MD_explore 51 = .ok (.getfield 16, 3) := by decide +kernel
theorem d_MD_explore_54 : decode b_MD_explore 54 = .ok (.iload_n 1, 1) := by decide +kernel
theorem d_MD_explore_55 : decode b_MD_explore 55 = .ok (.iaload, 1) := by decide +kernel
theorem d_MD_explore_56 : decode b_MD_explore 56 = .ok (.ishl, 1) := by decide +kernel
theorem d_MD_explore_57 : decode b_MD_explore 57 = .ok (.iconst 1, 1) := by decide +kernel
theorem d_MD_explore_58 : decode b_MD_explore 58 = .ok (.isub, 1) := by decide +kernel
theorem d_MD_explore_59 : decode b_MD_explore 59 = .ok (.lshl, 1) := by decide +kernel
theorem d_MD_explore_60 : decode b_MD_explore 60 = .ok (.invokevirtual 139, 3) := by decide +kernel
theorem d_MD_explore_63 : decode b_MD_explore 63 = .ok (.aload_n 0, 1) := by decide +kernel
theorem d_MD_explore_64 : decode b_MD_explore 64 = .ok (.getfield 136, 3) := by decide +kernel
theorem d_MD_explore_67 : decode b_MD_explore 67 = .ok (.ifCond .eq 58, 3) := by decide +kernel
theorem d_MD_explore_70 : decode b_MD_explore 70 = .ok (.aload_n 0, 1) := by decide +kernel
theorem d_MD_explore_71 : decode b_MD_explore 71 = .ok (.getfield 132, 3) := by decide +kernel
theorem d_MD_explore_74 : decode b_MD_explore 74 = .ok (.ifCond .eq 51, 3) := by decide +kernel
theorem d_MD_explore_77 : decode b_MD_explore 77 = .ok (.aload_n 0, 1) := by decide +kernel
theorem d_MD_explore_78 : decode b_MD_explore 78 = .ok (.iconst 0, 1) := by decide +kernel
theorem d_MD_explore_79 : decode b_MD_explore 79 = .ok (.putfield 136, 3) := by decide +kernel
theorem d_MD_explore_82 : decode b_MD_explore 82 = .ok (.iconst 0, 1) := by decide +kernel
theorem d_MD_explore_83 : decode b_MD_explore 83 = .ok (.istore_n 2, 1) := by decide +kernel
theorem d_MD_explore_84 : decode b_MD_explore 84 = .ok (.iload_n 2, 1) := by decide +kernel
theorem d_MD_explore_85 : decode b_MD_explore 85 = .ok (.aload_n 0, 1) := by decide +kernel
theorem d_MD_explore_86 : decode b_MD_explore 86 = .ok (.getfield 25, 3) := by decide +kernel
theorem d_MD_explore_89 : decode b_MD_explore 89 = .ok (.iload_n 1, 1) := by decide +kernel
theorem d_MD_explore_90 : decode b_MD_explore 90 = .ok (.iaload, 1) := by decide +kernel
theorem d_MD_explore_91 : decode b_MD_explore 91 = .ok (.if_icmp .ge 31, 3) := by decide +kernel
theorem d_MD_explore_94 : decode b_MD_explore 94 = .ok (.aload_n 0, 1) := by decide +kernel
theorem d_MD_explore_95 : decode b_MD_explore 95 = .ok (.getfield 132, 3) := by decide +kernel
theorem d_MD_explore_98 : decode b_MD_explore 98 = .ok (.ifCond .eq 24, 3) := by decide +kernel
theorem d_MD_explore_101 : decode b_MD_explore 101 = .ok (.aload_n 0, 1) := by decide +kernel
theorem d_MD_explore_102 : decode b_MD_explore 102 = .ok (.getfield 53, 3) := by decide +kernel
theorem d_MD_explore_105 : decode b_MD_explore 105 = .ok (.iload_n 2, 1) := by decide +kernel
theorem d_MD_explore_106 : decode b_MD_explore 106 = .ok (.iaload, 1) := by decide +kernel
theorem d_MD_explore_107 : decode b_MD_explore 107 = .ok (.ifCond .lt 9, 3) := by decide +kernel
theorem d_MD_explore_110 : decode b_MD_explore 110 = .ok (.aload_n 0, 1) := by decide +kernel
theorem d_MD_explore_111 : decode b_MD_explore 111 = .ok (.iload_n 1, 1) := by decide +kernel
theorem d_MD_explore_112 : decode b_MD_explore 112 = .ok (.iload_n 2, 1) := by decide +kernel
theorem d_MD_explore_113 : decode b_MD_explore 113 = .ok (.invokevirtual 156, 3) := by decide +kernel
theorem d_MD_explore_116 : decode b_MD_explore 116 = .ok (.iinc 2 1, 3) := by decide +kernel
theorem d_MD_explore_119 : decode b_MD_explore 119 = .ok (.goto (-35), 3) := by decide +kernel
theorem d_MD_explore_122 : decode b_MD_explore 122 = .ok (.goto (-59), 3) := by decide +kernel
theorem d_MD_explore_125 : decode b_MD_explore 125 = .ok (.aload_n 0, 1) := by decide +kernel
theorem d_MD_explore_126 : decode b_MD_explore 126 = .ok (.getfield 132, 3) := by decide +kernel
theorem d_MD_explore_129 : decode b_MD_explore 129 = .ok (.ireturn, 1) := by decide +kernel
theorem d_MD_copy_0 : decode b_MD_copy 0 = .ok (.aload_n 0, 1) := by decide +kernel
theorem d_MD_copy_1 : decode b_MD_copy 1 = .ok (.getfield 13, 3) := by decide +kernel
theorem d_MD_copy_4 : decode b_MD_copy 4 = .ok (.iload_n 2, 1) := by decide +kernel
theorem d_MD_copy_5 : decode b_MD_copy 5 = .ok (.aload_n 0, 1) := by decide +kernel
theorem d_MD_copy_6 : decode b_MD_copy 6 = .ok (.getfield 13, 3) := by decide +kernel
theorem d_MD_copy_9 : decode b_MD_copy 9 = .ok (.iload_n 1, 1) := by decide +kernel
theorem d_MD_copy_10 : decode b_MD_copy 10 = .ok (.iaload, 1) := by decide +kernel
theorem d_MD_copy_11 : decode b_MD_copy 11 = .ok (.iastore, 1) := by decide +kernel
theorem d_MD_copy_12 : decode b_MD_copy 12 = .ok (.aload_n 0, 1) := by decide +kernel
theorem d_MD_copy_13 : decode b_MD_copy 13 = .ok (.getfield 16, 3) := by decide +kernel
theorem d_MD_copy_16 : decode b_MD_copy 16 = .ok (.iload_n 2, 1) := by decide +kernel
theorem d_MD_copy_17 : decode b_MD_copy 17 = .ok (.aload_n 0, 1) := by decide +kernel
theorem d_MD_copy_18 : decode b_MD_copy 18 = .ok (.getfield 16, 3) := by decide +kernel
theorem d_MD_copy_21 : decode b_MD_copy 21 = .ok (.iload_n 1, 1) := by decide +kernel
theorem d_MD_copy_22 : decode b_MD_copy 22 = .ok (.iaload, 1) := by decide +kernel
theorem d_MD_copy_23 : decode b_MD_copy 23 = .ok (.iastore, 1) := by decide +kernel
theorem d_MD_copy_24 : decode b_MD_copy 24 = .ok (.aload_n 0, 1) := by decide +kernel
theorem d_MD_copy_25 : decode b_MD_copy 25 = .ok (.getfield 19, 3) := by decide +kernel
theorem d_MD_copy_28 : decode b_MD_copy 28 = .ok (.iload_n 2, 1) := by decide +kernel
theorem d_MD_copy_29 : decode b_MD_copy 29 = .ok (.aload_n 0, 1) := by decide +kernel
theorem d_MD_copy_30 : decode b_MD_copy 30 = .ok (.getfield 19, 3) := by decide +kernel
theorem d_MD_copy_33 : decode b_MD_copy 33 = .ok (.iload_n 1, 1) := by decide +kernel
theorem d_MD_copy_34 : decode b_MD_copy 34 = .ok (.iaload, 1) := by decide +kernel
theorem d_MD_copy_35 : decode b_MD_copy 35 = .ok (.iastore, 1) := by decide +kernel
theorem d_MD_copy_36 : decode b_MD_copy 36 = .ok (.aload_n 0, 1) := by decide +kernel
theorem d_MD_copy_37 : decode b_MD_copy 37 = .ok (.getfield 22, 3) := by decide +kernel
theorem d_MD_copy_40 : decode b_MD_copy 40 = .ok (.iload_n 2, 1) := by decide +kernel
theorem d_MD_copy_41 : decode b_MD_copy 41 = .ok (.aload_n 0, 1) := by decide +kernel
theorem d_MD_copy_42 : decode b_MD_copy 42 = .ok (.getfield 22, 3) := by decide +kernel
theorem d_MD_copy_45 : decode b_MD_copy 45 = .ok (.iload_n 1, 1) := by decide +kernel
theorem d_MD_copy_46 : decode b_MD_copy 46 = .ok (.iaload, 1) := by decide +kernel
theorem d_MD_copy_47 : decode b_MD_copy 47 = .ok (.iastore, 1) := by decide +kernel
theorem d_MD_copy_48 : decode b_MD_copy 48 = .ok (.aload_n 0, 1) := by decide +kernel
theorem d_MD_copy_49 : decode b_MD_copy 49 = .ok (.getfield 25, 3) := by decide +kernel
theorem d_MD_copy_52 : decode b_MD_copy 52 = .ok (.iload_n 2, 1) := by decide +kernel
theorem d_MD_copy_53 : decode b_MD_copy 53 = .ok (.aload_n 0, 1) := by decide +kernel
theorem d_MD_copy_54 : decode b_MD_copy 54 = .ok (.getfield 25, 3) := by decide +kernel
theorem d_MD_copy_57 : decode b_MD_copy 57 = .ok (.iload_n 1, 1) := by decide +kernel
theorem d_MD_copy_58 : decode b_MD_copy 58 = .ok (.iaload, 1) := by decide +kernel
theorem d_MD_copy_59 : decode b_MD_copy 59 = .ok (.iastore, 1) := by decide +kernel
theorem d_MD_copy_60 : decode b_MD_copy 60 = .ok (.aload_n 0, 1) := by decide +kernel
theorem d_MD_copy_61 : decode b_MD_copy 61 = .ok (.getfield 31, 3) := by decide +kernel
theorem d_MD_copy_64 : decode b_MD_copy 64 = .ok (.iload_n 2, 1) := by decide +kernel
theorem d_MD_copy_65 : decode b_MD_copy 65 = .ok (.aload_n 0, 1) := by decide +kernel
theorem d_MD_copy_66 : decode b_MD_copy 66 = .ok (.getfield 31, 3) := by decide +kernel
theorem d_MD_copy_69 : decode b_MD_copy 69 = .ok (.iload_n 1, 1) := by decide +kernel
theorem d_MD_copy_70 : decode b_MD_copy 70 = .ok (.iaload, 1) := by decide +kernel
theorem d_MD_copy_71 : decode b_MD_copy 71 = .ok (.iastore, 1) := by decide +kernel
theorem d_MD_copy_72 : decode b_MD_copy 72 = .ok (.iconst 0, 1) := by decide +kernel
theorem d_MD_copy_73 : decode b_MD_copy 73 = .ok (.istore_n 3, 1) := by decide +kernel
theorem d_MD_copy_74 : decode b_MD_copy 74 = .ok (.iload_n 3, 1) := by decide +kernel
theorem d_MD_copy_75 : decode b_MD_copy 75 = .ok (.bipush 120, 2) := by decide +kernel
theorem d_MD_copy_77 : decode b_MD_copy 77 = .ok (.if_icmp .ge 31, 3) := by decide +kernel
theorem d_MD_copy_80 : decode b_MD_copy 80 = .ok (.aload_n 0, 1) := by decide +kernel
theorem d_MD_copy_81 : decode b_MD_copy 81 = .ok (.getfield 28, 3) := by decide +kernel
theorem d_MD_copy_84 : decode b_MD_copy 84 = .ok (.bipush 120, 2) := by decide +kernel
theorem d_MD_copy_86 : decode b_MD_copy 86 = .ok (.iload_n 2, 1) := by decide +kernel
theorem d_MD_copy_87 : decode b_MD_copy 87 = .ok (.imul, 1) := by decide +kernel
theorem d_MD_copy_88 : decode b_MD_copy 88 = .ok (.iload_n 3, 1) := by decide +kernel
theorem d_MD_copy_89 : decode b_MD_copy 89 = .ok (.iadd, 1) := by decide +kernel
theorem d_MD_copy_90 : decode b_MD_copy 90 = .ok (.aload_n 0, 1) := by decide +kernel
theorem d_MD_copy_91 : decode b_MD_copy 91 = .ok (.getfield 28, 3) := by decide +kernel
theorem d_MD_copy_94 : decode b_MD_copy 94 = .ok (.bipush 120, 2) := by decide +kernel
theorem d_MD_copy_96 : decode b_MD_copy 96 = .ok (.iload_n 1, 1) := by decide +kernel
theorem d_MD_copy_97 : decode b_MD_copy 97 = .ok (.imul, 1) := by decide +kernel
theorem d_MD_copy_98 : decode b_MD_copy 98 = .ok (.iload_n 3, 1) := by decide +kernel
theorem d_MD_copy_99 : decode b_MD_copy 99 = .ok (.iadd, 1) := by decide +kernel
theorem d_MD_copy_100 : decode b_MD_copy 100 = .ok (.iaload, 1) := by decide +kernel
theorem d_MD_copy_101 : decode b_MD_copy 101 = .ok (.iastore, 1) := by decide +kernel
theorem d_MD_copy_102 : decode b_MD_copy 102 = .ok (.iinc 3 1, 3) := by decide +kernel
theorem d_MD_copy_105 : decode b_MD_copy 105 = .ok (.goto (-31), 3) := by decide +kernel
theorem d_MD_copy_108 : decode b_MD_copy 108 = .ok (.iconst 0, 1) := by decide +kernel
theorem d_MD_copy_109 : decode b_MD_copy 109 = .ok (.istore_n 3, 1) := by decide +kernel
theorem d_MD_copy_110 : decode b_MD_copy 110 = .ok (.iload_n 3, 1) := by decide +kernel
theorem d_MD_copy_111 : decode b_MD_copy 111 = .ok (.bipush 20, 2) := by decide +kernel
theorem d_MD_copy_113 : decode b_MD_copy 113 = .ok (.if_icmp .ge 31, 3) := by decide +kernel
theorem d_MD_copy_116 : decode b_MD_copy 116 = .ok (.aload_n 0, 1) := by decide +kernel
theorem d_MD_copy_117 : decode b_MD_copy 117 = .ok (.getfield 34, 3) := by decide +kernel
theorem d_MD_copy_120 : decode b_MD_copy 120 = .ok (.bipush 20, 2) := by decide +kernel
theorem d_MD_copy_122 : decode b_MD_copy 122 = .ok (.iload_n 2, 1) := by decide +kernel
theorem d_MD_copy_123 : decode b_MD_copy 123 = .ok (.imul, 1) := by decide +kernel
theorem d_MD_copy_124 : decode b_MD_copy 124 = .ok (.iload_n 3, 1) := by decide +kernel
theorem d_MD_copy_125 : decode b_MD_copy 125 = .ok (.iadd, 1) := by decide +kernel
theorem d_MD_copy_126 : decode b_MD_copy 126 = .ok (.aload_n 0, 1) := by decide +kernel
theorem d_MD_copy_127 : decode b_MD_copy 127 = .ok (.getfield 34, 3) := by decide +kernel
theorem d_MD_copy_130 : decode b_MD_copy 130 = .ok (.bipush 20, 2) := by decide +kernel
theorem d_MD_copy_132 : decode b_MD_copy 132 = .ok (.iload_n 1, 1) := by decide +kernel
theorem d_MD_copy_133 : decode b_MD_copy 133 = .ok (.imul, 1) := by decide +kernel
theorem d_MD_copy_134 : decode b_MD_copy 134 = .ok (.iload_n 3, 1) := by decide +kernel
theorem d_MD_copy_135 : decode b_MD_copy 135 = .ok (.iadd, 1) := by decide +kernel
theorem d_MD_copy_136 : decode b_MD_copy 136 = .ok (.iaload, 1) := by decide +kernel
theorem d_MD_copy_137 : decode b_MD_copy 137 = .ok (.iastore, 1) := by decide +kernel
theorem d_MD_copy_138 : decode b_MD_copy 138 = .ok (.iinc 3 1, 3) := by decide +kernel
theorem d_MD_copy_141 : decode b_MD_copy 141 = .ok (.goto (-31), 3) := by decide +kernel
theorem d_MD_copy_144 : decode b_MD_copy 144 = .ok (.return_, 1) := by decide +kernel
theorem d_MD_load_0 : decode b_MD_load 0 = .ok (.aload_n 0, 1) := by decide +kernel
theorem d_MD_load_1 : decode b_MD_load 1 = .ok (.iconst 0, 1) := by decide +kernel
theorem d_MD_load_2 : decode b_MD_load 2 = .ok (.putfield 160, 3) := by decide +kernel
theorem d_MD_load_5 : decode b_MD_load 5 = .ok (.aload_n 0, 1) := by decide +kernel
theorem d_MD_load_6 : decode b_MD_load 6 = .ok (.iconst (-1), 1) := by decide +kernel
theorem d_MD_load_7 : decode b_MD_load 7 = .ok (.putfield 163, 3) := by decide +kernel
theorem d_MD_load_10 : decode b_MD_load 10 = .ok (.aload_n 0, 1) := by decide +kernel
theorem d_MD_load_11 : decode b_MD_load 11 = .ok (.sipush 202, 3) := by decide +kernel
theorem d_MD_load_14 : decode b_MD_load 14 = .ok (.sipush 202, 3) := by decide +kernel
theorem d_MD_load_17 : decode b_MD_load 17 = .ok (.invokevirtual 166, 3) := by decide +kernel
theorem d_MD_load_20 : decode b_MD_load 20 = .ok (.pop, 1) := by decide +kernel
theorem d_MD_load_21 : decode b_MD_load 21 = .ok (.aload_n 0, 1) := by decide +kernel
theorem d_MD_load_22 : decode b_MD_load 22 = .ok (.aload_n 0, 1) := by decide +kernel
theorem d_MD_load_23 : decode b_MD_load 23 = .ok (.iconst 1, 1) := by decide +kernel
theorem d_MD_load_24 : decode b_MD_load 24 = .ok (.iconst 4, 1) := by decide +kernel
theorem d_MD_load_25 : decode b_MD_load 25 = .ok (.invokevirtual 166, 3) := by decide +kernel
theorem d_MD_load_28 : decode b_MD_load 28 = .ok (.putfield 129, 3) := by decide +kernel
theorem d_MD_load_31 : decode b_MD_load 31 = .ok (.iconst 0, 1) := by decide +kernel
theorem d_MD_load_32 : decode b_MD_load 32 = .ok (.istore_n 1, 1) := by decide +kernel
theorem d_MD_load_33 : decode b_MD_load 33 = .ok (.aload_n 0, 1) := by decide +kernel
theorem d_MD_load_34 : decode b_MD_load 34 = .ok (.getfield 163, 3) := by decide +kernel
theorem d_MD_load_37 : decode b_MD_load 37 = .ok (.ifCond .ge 25, 3) := by decide +kernel
theorem d_MD_load_40 : decode b_MD_load 40 = .ok (.iload_n 1, 1) := by decide +kernel
theorem d_MD_load_41 : decode b_MD_load 41 = .ok (.aload_n 0, 1) := by decide +kernel
theorem d_MD_load_42 : decode b_MD_load 42 = .ok (.getfield 129, 3) := by decide +kernel
theorem d_MD_load_45 : decode b_MD_load 45 = .ok (.if_icmp .ge 17, 3) := by decide +kernel
theorem d_MD_load_48 : decode b_MD_load 48 = .ok (.aload_n 0, 1) := by decide +kernel
theorem d_MD_load_49 : decode b_MD_load 49 = .ok (.bipush 8, 2) := by decide +kernel
theorem d_MD_load_51 : decode b_MD_load 51 = .ok (.iload_n 1, 1) := by decide +kernel
theorem d_MD_load_52 : decode b_MD_load 52 = .ok (.iadd, 1) := by decide +kernel
theorem d_MD_load_53 : decode b_MD_load 53 = .ok (.invokevirtual 169, 3) := by decide +kernel
theorem d_MD_load_56 : decode b_MD_load 56 = .ok (.iinc 1 1, 3) := by decide +kernel
theorem d_MD_load_59 : decode b_MD_load 59 = .ok (.goto (-26), 3) := by decide +kernel
theorem d_MD_load_62 : decode b_MD_load 62 = .ok (.aload_n 0, 1) := by decide +kernel
theorem d_MD_load_63 : decode b_MD_load 63 = .ok (.getfield 163, 3) := by decide +kernel
theorem d_MD_load_66 : decode b_MD_load 66 = .ok (.ifCond .ge 22, 3) := by decide +kernel
theorem d_MD_load_69 : decode b_MD_load 69 = .ok (.aload_n 0, 1) := by decide +kernel
theorem d_MD_load_70 : decode b_MD_load 70 = .ok (.getfield 160, 3) := by decide +kernel
theorem d_MD_load_73 : decode b_MD_load 73 = .ok (.aload_n 0, 1) := by decide +kernel
theorem d_MD_load_74 : decode b_MD_load 74 = .ok (.getfield 100, 3) := by decide +kernel
theorem d_MD_load_77 : decode b_MD_load 77 = .ok (.if_icmp .ge 11, 3) := by decide +kernel
theorem d_MD_load_80 : decode b_MD_load 80 = .ok (.aload_n 0, 1) := by decide +kernel
theorem d_MD_load_81 : decode b_MD_load 81 = .ok (.aload_n 0, 1) := by decide +kernel
theorem d_MD_load_82 : decode b_MD_load 82 = .ok (.getfield 160, 3) := by decide +kernel
theorem d_MD_load_85 : decode b_MD_load 85 = .ok (.putfield 163, 3) := by decide +kernel
theorem d_MD_load_88 : decode b_MD_load 88 = .ok (.aload_n 0, 1) := by decide +kernel
theorem d_MD_load_89 : decode b_MD_load 89 = .ok (.getfield 163, 3) := by decide +kernel
theorem d_MD_load_92 : decode b_MD_load 92 = .ok (.ifCond .lt 10, 3) := by decide +kernel
theorem d_MD_load_95 : decode b_MD_load 95 = .ok (.iconst (-1), 1) := by decide +kernel
theorem d_MD_load_96 : decode b_MD_load 96 = .ok (.aload_n 0, 1) := by decide +kernel
theorem d_MD_load_97 : decode b_MD_load 97 = .ok (.getfield 163, 3) := by decide +kernel
theorem d_MD_load_100 : decode b_MD_load 100 = .ok (.isub, 1) := by decide +kernel
theorem d_MD_load_101 : decode b_MD_load 101 = .ok (.ireturn, 1) := by decide +kernel
theorem d_MD_load_102 : decode b_MD_load 102 = .ok (.iconst 0, 1) := by decide +kernel
theorem d_MD_load_103 : decode b_MD_load 103 = .ok (.istore_n 1, 1) := by decide +kernel
theorem d_MD_load_104 : decode b_MD_load 104 = .ok (.iload_n 1, 1) := by decide +kernel
theorem d_MD_load_105 : decode b_MD_load 105 = .ok (.aload_n 0, 1) := by decide +kernel
theorem d_MD_load_106 : decode b_MD_load 106 = .ok (.getfield 129, 3) := by decide +kernel
theorem d_MD_load_109 : decode b_MD_load 109 = .ok (.if_icmp .ge 37, 3) := by decide +kernel
theorem d_MD_load_112 : decode b_MD_load 112 = .ok (.aload_n 0, 1) := by decide +kernel
theorem d_MD_load_113 : decode b_MD_load 113 = .ok (.bipush 8, 2) := by decide +kernel
theorem d_MD_load_115 : decode b_MD_load 115 = .ok (.iload_n 1, 1) := by decide +kernel
theorem d_MD_load_116 : decode b_MD_load 116 = .ok (.iadd, 1) := by decide +kernel
theorem d_MD_load_117 : decode b_MD_load 117 = .ok (.invokevirtual 173, 3) := by decide +kernel
theorem d_MD_load_120 : decode b_MD_load 120 = .ok (.ifCond .eq 14, 3) := by decide +kernel
theorem d_MD_load_123 : decode b_MD_load 123 = .ok (.aload_n 0, 1) := by decide +kernel
theorem d_MD_load_124 : decode b_MD_load 124 = .ok (.bipush 8, 2) := by decide +kernel
theorem d_MD_load_126 : decode b_MD_load 126 = .ok (.iload_n 1, 1) := by decide +kernel
theorem d_MD_load_127 : decode b_MD_load 127 = .ok (.iadd, 1) := by decide +kernel
theorem d_MD_load_128 : decode b_MD_load 128 = .ok (.invokevirtual 176, 3) := by decide +kernel
theorem d_MD_load_131 : decode b_MD_load 131 = .ok (.ifCond .ne 9, 3) := by decide +kernel
theorem d_MD_load_134 : decode b_MD_load 134 = .ok (.sipush (-1000), 3) := by decide +kernel
theorem d_MD_load_137 : decode b_MD_load 137 = .ok (.iload_n 1, 1) := by decide +kernel
theorem d_MD_load_138 : decode b_MD_load 138 = .ok (.isub, 1) := by decide +kernel
theorem d_MD_load_139 : decode b_MD_load 139 = .ok (.ireturn, 1) := by decide +kernel
theorem d_MD_load_140 : decode b_MD_load 140 = .ok (.iinc 1 1, 3) := by decide +kernel
theorem d_MD_load_143 : decode b_MD_load 143 = .ok (.goto (-39), 3) := by decide +kernel
theorem d_MD_load_146 : decode b_MD_load 146 = .ok (.aload_n 0, 1) := by decide +kernel
theorem d_MD_load_147 : decode b_MD_load 147 = .ok (.aload_n 0, 1) := by decide +kernel
theorem d_MD_load_148 : decode b_MD_load 148 = .ok (.getfield 129, 3) := by decide +kernel
theorem d_MD_load_151 : decode b_MD_load 151 = .ok (.putfield 179, 3) := by decide +kernel
theorem d_MD_load_154 : decode b_MD_load 154 = .ok (.aload_n 0, 1) := by decide +kernel
theorem d_MD_load_155 : decode b_MD_load 155 = .ok (.iconst 0, 1) := by decide +kernel
theorem d_MD_load_156 : decode b_MD_load 156 = .ok (.putfield 182, 3) := by decide +kernel
theorem d_MD_load_159 : decode b_MD_load 159 = .ok (.iconst 0, 1) := by decide +kernel
theorem d_MD_load_160 : decode b_MD_load 160 = .ok (.istore_n 1, 1) := by decide +kernel
theorem d_MD_load_161 : decode b_MD_load 161 = .ok (.iload_n 1, 1) := by decide +kernel
theorem d_MD_load_162 : decode b_MD_load 162 = .ok (.aload_n 0, 1) := by decide +kernel
theorem d_MD_load_163 : decode b_MD_load 163 = .ok (.getfield 179, 3) := by decide +kernel
theorem d_MD_load_166 : decode b_MD_load 166 = .ok (.if_icmp .ge 18, 3) := by decide +kernel
theorem d_MD_load_169 : decode b_MD_load 169 = .ok (.aload_n 0, 1) := by decide +kernel
theorem d_MD_load_170 : decode b_MD_load 170 = .ok (.bipush 8, 2) := by decide +kernel
theorem d_MD_load_172 : decode b_MD_load 172 = .ok (.iload_n 1, 1) := by decide +kernel
theorem d_MD_load_173 : decode b_MD_load 173 = .ok (.iadd, 1) := by decide +kernel
theorem d_MD_load_174 : decode b_MD_load 174 = .ok (.iload_n 1, 1) := by decide +kernel
theorem d_MD_load_175 : decode b_MD_load 175 = .ok (.invokevirtual 185, 3) := by decide +kernel
theorem d_MD_load_178 : decode b_MD_load 178 = .ok (.iinc 1 1, 3) := by decide +kernel
theorem d_MD_load_181 : decode b_MD_load 181 = .ok (.goto (-20), 3) := by decide +kernel
theorem d_MD_load_184 : decode b_MD_load 184 = .ok (.iconst 0, 1) := by decide +kernel
theorem d_MD_load_185 : decode b_MD_load 185 = .ok (.istore_n 1, 1) := by decide +kernel
theorem d_MD_load_186 : decode b_MD_load 186 = .ok (.iload_n 1, 1) := by decide +kernel
theorem d_MD_load_187 : decode b_MD_load 187 = .ok (.bipush 12, 2) := by decide +kernel
theorem d_MD_load_189 : decode b_MD_load 189 = .ok (.if_icmp .ge 16, 3) := by decide +kernel
theorem d_MD_load_192 : decode b_MD_load 192 = .ok (.aload_n 0, 1) := by decide +kernel
theorem d_MD_load_193 : decode b_MD_load 193 = .ok (.getfield 47, 3) := by decide +kernel
theorem d_MD_load_196 : decode b_MD_load 196 = .ok (.iload_n 1, 1) := by decide +kernel
theorem d_MD_load_197 : decode b_MD_load 197 = .ok (.iconst 0, 1) := by decide +kernel
theorem d_MD_load_198 : decode b_MD_load 198 = .ok (.bastore, 1) := by decide +kernel
theorem d_MD_load_199 : decode b_MD_load 199 = .ok (.iinc 1 1, 3) := by decide +kernel
theorem d_MD_load_202 : decode b_MD_load 202 = .ok (.goto (-16), 3) := by decide +kernel
theorem d_MD_load_205 : decode b_MD_load 205 = .ok (.aload_n 0, 1) := by decide +kernel
theorem d_MD_load_206 : decode b_MD_load 206 = .ok (.getfield 179, 3) := by decide +kernel
theorem d_MD_load_209 : decode b_MD_load 209 = .ok (.ireturn, 1) := by decide +kernel
def f_MD_reach (fu : Nat) (s0 : xw_S) (p1 : Int) (p2 : Int) (p3 : Int) (p4 : Int64) : Option xw_S :=
 xw_grd ((0 ≤ p1 ∧ p1 < ((12 : Nat) : Int))) (xw_jn (fun (s28 : xw_S) => xw_let (xw_st s28 0 23 0) (fun s29 => some s29))
 (fun (j39 : xw_S → Option xw_S) => xw_grd (xw_r p2 ∧ xw_r (s0.1 6 (p1).toNat)) (xw_if (s0.1 6 (p1).toNat ≤ p2) (j39 s0)
 (xw_grd (xw_r p3 ∧ xw_r (s0.1 5 (p1).toNat)) (xw_if (s0.1 5 (p1).toNat < p3) (j39 s0)
 (xw_grd ((0 ≤ p2 ∧ p2 < ((121 : Nat) : Int))) (xw_jn (fun (s10 : xw_S) => xw_jn (fun (s19 : xw_S) (t0_86 : Int) => xw_grd ((t0_86 = 0 ∨ t0_86 = 1)) (xw_let (xw_st s19 0 24 t0_86) (fun s20 => xw_grd ((0 ≤ p2 ∧ p2 < ((121 : Nat) : Int))) (xw_let (xw_st s20 15 (p2).toNat p3) (fun s24 => xw_let (xw_sL s24 (p2).toNat ((s24.2 (p2).toNat) ||| p4)) (fun s26 => some s26))))))
 (fun (j86 : xw_S → Int → Option xw_S) => xw_jn (fun (s18 : xw_S) => j86 s18 1)
 (fun (j81 : xw_S → Option xw_S) => xw_grd (xw_r (s10.1 0 24)) (xw_if (s10.1 0 24 = 0) (xw_grd ((0 ≤ p2 ∧ p2 < ((121 : Nat) : Int))) (xw_grd (xw_r (s10.1 15 (p2).toNat)) (xw_if (s10.1 15 (p2).toNat < 0) (j81 s10)
 (xw_grd (xw_r (xw_Lc ((s10.2 (p2).toNat) ||| p4) (s10.2 (p2).toNat))) (xw_if (xw_Lc ((s10.2 (p2).toNat) ||| p4) (s10.2 (p2).toNat) = 0) (j86 s10 0)
 (j81 s10))))))
 (j81 s10)))))
 (fun (j45 : xw_S → Option xw_S) => xw_grd (xw_r (s0.1 15 (p2).toNat)) (xw_if (s0.1 15 (p2).toNat < 0) (j45 s0)
 (xw_if (s0.1 15 (p2).toNat = p3) (j45 s0)
 (j39 s0)))))))))))
set_option maxRecDepth 100000 in
set_option maxHeartbeats 4000000 in
theorem c_MD_reach (l : Launch) (D : va_G) (A : Nat → Prop) (ad : Nat → Nat) (cs : Nat → ClassId) (Z : va_W) (tt : Nat → Nat) (fu : Nat) (s0 sZ : xw_S) (p1 : Int) (p2 : Int) (p3 : Int) (p4 : Int64) (h : f_MD_reach fu s0 p1 p2 p3 p4 = some sZ) : Met l y_MD_reach w_MD_reach ({ frames := 0, cells := 0, slots := 0, locals := 0 }) (va_Pc [.ref (ad 0), .int (xw_i p1), .int (xw_i p2), .int (xw_i p3), .long p4] (xw_H D vwCl A kdR 29 ad cs Z tt s0)) (va_Qv (fun u => u = sZ) (xw_H D vwCl A kdR 29 ad cs Z tt) A) 0 0 A := by
  refine Met.ofW (cc := b_MD_reach) (maxL := 6) (ret := none) (by decide) rfl ?_
  intro p e s m args below meth c s₁ B hml hv
  obtain ⟨rfl, hP, hK, hD, hX⟩ := hv
  have hx := B.exec
  have hb := B.bytes
  have hr := B.returns
  have hts0 := atoms_spec (ws := w_MD_reach) B.pre
  have hts := fun w (hw : w ∈ wAll) => hts0 w (List.mem_cons_of_mem _ hw)
  have hown : s.vm.findClass "AdviceWeaverModel" = some m.cls := findClass_of_methodNamed B.named
  have hlk := B.notSynchronized
  clear hts0 B
  have hS : va_S A s.heap s.heap [] := va_S.rf
  have hl := lv_entry [.ref (ad 0), .int (xw_i p1), .int (xw_i p2), .int (xw_i p3), .long p4] (n := 6) (Nat.le_of_ble_eq_true rfl)
  rw [lg_entry_eq]
  generalize (lg_sl [.ref (ad 0), .int (xw_i p1), .int (xw_i p2), .int (xw_i p3), .long p4] ++ List.replicate (6 - (lg_sl [.ref (ad 0), .int (xw_i p1), .int (xw_i p2), .int (xw_i p3), .long p4]).length) Slot.unset).toArray = ls at hl ⊢
  have hl : lv_has ls 6 [(0, .ref (ad 0)), (1, .int (xw_i p1)), (2, .int (xw_i p2)), (3, .int (xw_i p3)), (4, .long p4)] := hl
  unfold f_MD_reach at h
  refine lv_iload_n hx hb d_MD_reach_0 rfl (lv_at hl 2 rfl) ?_
  refine lv_aload_n hx hb d_MD_reach_1 rfl (lv_at hl 0 rfl) ?_
  refine xw_getR (C := "AdviceWeaverModel") (T := T_MD) hx hb hts hin_MD hown hK hP (by decide) kr_MD (by decide) rfl 6 (by decide) (hts _ hw_447) (fun _ h9 => h9) rfl d_MD_reach_2 ?_
  refine lv_iload_n hx hb d_MD_reach_5 rfl (lv_at hl 1 rfl) ?_
  obtain ⟨hg1, h⟩ := xw_grdI h
  refine xw_iald hx hb hK hP (by decide) kr_m_length (by decide) hg1 d_MD_reach_6 ?_
  refine xw_jnI (fun j => ∀ (sq : xw_S), j sq = some sZ → ∀ (H : Heap) (locs : List Loc) (ls : Array Slot), va_P D vwCl (xw_ws kdR 29 ad cs Z sq) H → va_S A s.heap H locs → lv_has ls 6 [(0, .ref (ad 0))] → W p l e (headSpec w_MD_reach ({ frames := 0, cells := 0, slots := 0, locals := 0 })).room s m [.ref (ad 0), .int (xw_i p1), .int (xw_i p2), .int (xw_i p3), .long p4].toArray below meth c H locs 0 0 (MQ below (va_Qv (fun u => u = sZ) (xw_H D vwCl A kdR 29 ad cs Z tt) A) [.ref (ad 0), .int (xw_i p1), .int (xw_i p2), .int (xw_i p3), .long p4].toArray s 0 0 A) (F0 m 39 ls [])) h ?_ ?_
  · intro s28 h H locs ls hP hS hl
    refine lv_aload_n hx hb d_MD_reach_39 rfl (lv_at hl 0 rfl) ?_
    refine lv_iconst (v := xw_i 0) hx hb d_MD_reach_40 rfl ?_
    refine xw_putB (C := "AdviceWeaverModel") (T := T_MD) hx hb hts hin_MD ty_MD ty_MD_ok nm_MD hown hK hP hD hS (by decide) kr_MD (by decide) rfl 23 (by decide) (hts _ hw_482) (fun _ h9 => h9) rfl (by decide +kernel) rfl d_MD_reach_41 (by decide) (fun s29 e30 H locs hP hS => ?_)
    replace h := xw_letI e30 h
    exact xw_vretE hx hb hr hlk hP hK hD hX hS h d_MD_reach_44
  · intro j39 hj39 h
    obtain ⟨hg2, h⟩ := xw_grdI h
    refine xw_icmp_ge (tgt := 39) hx hb hg2.1 hg2.2 d_MD_reach_7 (by decide) (fun hc3 => ?_) (fun hc3 => ?_)
    · replace h := xw_ifT hc3 h
      exact hj39 s0 h _ _ _ hP hS (lv_sub hl [0] rfl)
    · replace h := xw_ifF hc3 h
      refine lv_iload_n hx hb d_MD_reach_10 rfl (lv_at hl 3 rfl) ?_
      refine lv_aload_n hx hb d_MD_reach_11 rfl (lv_at hl 0 rfl) ?_
      refine xw_getR (C := "AdviceWeaverModel") (T := T_MD) hx hb hts hin_MD hown hK hP (by decide) kr_MD (by decide) rfl 5 (by decide) (hts _ hw_446) (fun _ h9 => h9) rfl d_MD_reach_12 ?_
      refine lv_iload_n hx hb d_MD_reach_15 rfl (lv_at hl 1 rfl) ?_
      refine xw_iald hx hb hK hP (by decide) kr_m_room (by decide) hg1 d_MD_reach_16 ?_
      obtain ⟨hg4, h⟩ := xw_grdI h
      refine xw_icmp_gt (tgt := 39) hx hb hg4.1 hg4.2 d_MD_reach_17 (by decide) (fun hc5 => ?_) (fun hc5 => ?_)
      · replace h := xw_ifT hc5 h
        exact hj39 s0 h _ _ _ hP hS (lv_sub hl [0] rfl)
      · replace h := xw_ifF hc5 h
        refine lv_aload_n hx hb d_MD_reach_20 rfl (lv_at hl 0 rfl) ?_
        refine xw_getR (C := "AdviceWeaverModel") (T := T_MD) hx hb hts hin_MD hown hK hP (by decide) kr_MD (by decide) rfl 21 (by decide) (hts _ hw_479) (fun _ h9 => h9) rfl d_MD_reach_21 ?_
        refine lv_iload_n hx hb d_MD_reach_24 rfl (lv_at hl 2 rfl) ?_
        obtain ⟨hg6, h⟩ := xw_grdI h
        refine xw_iald hx hb hK hP (by decide) kr_m_depths (by decide) hg6 d_MD_reach_25 ?_
        refine xw_jnI (fun j => ∀ (sq : xw_S), j sq = some sZ → ∀ (H : Heap) (locs : List Loc) (ls : Array Slot), va_P D vwCl (xw_ws kdR 29 ad cs Z sq) H → va_S A s.heap H locs → lv_has ls 6 [(0, .ref (ad 0)), (2, .int (xw_i p2)), (3, .int (xw_i p3)), (4, .long p4)] → W p l e (headSpec w_MD_reach ({ frames := 0, cells := 0, slots := 0, locals := 0 })).room s m [.ref (ad 0), .int (xw_i p1), .int (xw_i p2), .int (xw_i p3), .long p4].toArray below meth c H locs 0 0 (MQ below (va_Qv (fun u => u = sZ) (xw_H D vwCl A kdR 29 ad cs Z tt) A) [.ref (ad 0), .int (xw_i p1), .int (xw_i p2), .int (xw_i p3), .long p4].toArray s 0 0 A) (F0 m 45 ls [])) h ?_ ?_
        · intro s10 h H locs ls hP hS hl
          refine lv_aload_n hx hb d_MD_reach_45 rfl (lv_at hl 0 rfl) ?_
          refine lv_aload_n hx hb d_MD_reach_46 rfl (lv_at hl 0 rfl) ?_
          refine xw_getI (C := "AdviceWeaverModel") (T := T_MD) hx hb hts hin_MD hown hK hP (by decide) kr_MD (by decide) rfl 24 (by decide) (hts _ hw_480) (fun _ h9 => h9) rfl d_MD_reach_47 ?_
          refine xw_jnI (fun j => ∀ (sq : xw_S) (t0_86 : Int), j sq t0_86 = some sZ → ∀ (H : Heap) (locs : List Loc) (ls : Array Slot), va_P D vwCl (xw_ws kdR 29 ad cs Z sq) H → va_S A s.heap H locs → lv_has ls 6 [(0, .ref (ad 0)), (2, .int (xw_i p2)), (3, .int (xw_i p3)), (4, .long p4)] → W p l e (headSpec w_MD_reach ({ frames := 0, cells := 0, slots := 0, locals := 0 })).room s m [.ref (ad 0), .int (xw_i p1), .int (xw_i p2), .int (xw_i p3), .long p4].toArray below meth c H locs 0 0 (MQ below (va_Qv (fun u => u = sZ) (xw_H D vwCl A kdR 29 ad cs Z tt) A) [.ref (ad 0), .int (xw_i p1), .int (xw_i p2), .int (xw_i p3), .long p4].toArray s 0 0 A) (F0 m 86 ls [.int (xw_i t0_86), .ref (ad 0)])) h ?_ ?_
          · intro s19 t0_86 h H locs ls hP hS hl
            obtain ⟨hg22, h⟩ := xw_grdI h
            refine xw_putB (C := "AdviceWeaverModel") (T := T_MD) hx hb hts hin_MD ty_MD ty_MD_ok nm_MD hown hK hP hD hS (by decide) kr_MD (by decide) rfl 24 (by decide) (hts _ hw_480) (fun _ h9 => h9) rfl (by decide +kernel) rfl d_MD_reach_86 hg22 (fun s20 e21 H locs hP hS => ?_)
            replace h := xw_letI e21 h
            refine lv_aload_n hx hb d_MD_reach_89 rfl (lv_at hl 0 rfl) ?_
            refine xw_getR (C := "AdviceWeaverModel") (T := T_MD) hx hb hts hin_MD hown hK hP (by decide) kr_MD (by decide) rfl 21 (by decide) (hts _ hw_479) (fun _ h9 => h9) rfl d_MD_reach_90 ?_
            refine lv_iload_n hx hb d_MD_reach_93 rfl (lv_at hl 1 rfl) ?_
            refine lv_iload_n hx hb d_MD_reach_94 rfl (lv_at hl 2 rfl) ?_
            obtain ⟨hg23, h⟩ := xw_grdI h
            refine xw_iast hx hb hK hP hD hS (by decide) kr_m_depths (by decide) hg23 d_MD_reach_95 (fun s24 e25 H locs hP hS => ?_)
            replace h := xw_letI e25 h
            refine lv_aload_n hx hb d_MD_reach_96 rfl (lv_at hl 0 rfl) ?_
            refine xw_getR (C := "AdviceWeaverModel") (T := T_MD) hx hb hts hin_MD hown hK hP (by decide) kr_MD (by decide) rfl 22 (by decide) (hts _ hw_481) (fun _ h9 => h9) rfl d_MD_reach_97 ?_
            refine lv_iload_n hx hb d_MD_reach_100 rfl (lv_at hl 1 rfl) ?_
            refine lv_aload_n hx hb d_MD_reach_101 rfl (lv_at hl 0 rfl) ?_
            refine xw_getR (C := "AdviceWeaverModel") (T := T_MD) hx hb hts hin_MD hown hK hP (by decide) kr_MD (by decide) rfl 22 (by decide) (hts _ hw_481) (fun _ h9 => h9) rfl d_MD_reach_102 ?_
            refine lv_iload_n hx hb d_MD_reach_105 rfl (lv_at hl 1 rfl) ?_
            refine xw_lald hx hb hK hP (by decide) kr_m_sets (by decide) hg23 d_MD_reach_106 ?_
            refine lv_lload hx hb d_MD_reach_107 (lv_at hl 3 rfl) ?_
            refine lv_lor hx hb d_MD_reach_109 ?_
            refine xw_last hx hb hK hP hD hS (by decide) kr_m_sets (by decide) hg23 kr_long d_MD_reach_110 (fun s26 e27 H locs hP hS => ?_)
            replace h := xw_letI e27 h
            exact xw_vretE hx hb hr hlk hP hK hD hX hS h d_MD_reach_111
          · intro j86 hj86 h
            refine xw_jnI (fun j => ∀ (sq : xw_S), j sq = some sZ → ∀ (H : Heap) (locs : List Loc) (ls : Array Slot), va_P D vwCl (xw_ws kdR 29 ad cs Z sq) H → va_S A s.heap H locs → lv_has ls 6 [(0, .ref (ad 0)), (2, .int (xw_i p2)), (3, .int (xw_i p3)), (4, .long p4)] → W p l e (headSpec w_MD_reach ({ frames := 0, cells := 0, slots := 0, locals := 0 })).room s m [.ref (ad 0), .int (xw_i p1), .int (xw_i p2), .int (xw_i p3), .long p4].toArray below meth c H locs 0 0 (MQ below (va_Qv (fun u => u = sZ) (xw_H D vwCl A kdR 29 ad cs Z tt) A) [.ref (ad 0), .int (xw_i p1), .int (xw_i p2), .int (xw_i p3), .long p4].toArray s 0 0 A) (F0 m 81 ls [.ref (ad 0)])) h ?_ ?_
            · intro s18 h H locs ls hP hS hl
              refine lv_iconst (v := xw_i 1) hx hb d_MD_reach_81 rfl ?_
              refine lv_goto (tgt := 86) hx hb d_MD_reach_82 (by decide) ?_
              exact hj86 s18 1 h _ _ _ hP hS (lv_sub hl [0, 1, 2, 3] rfl)
            · intro j81 hj81 h
              obtain ⟨hg11, h⟩ := xw_grdI h
              refine xw_if_ne (tgt := 81) hx hb hg11 d_MD_reach_50 (by decide) (fun hc12 => ?_) (fun hc12 => ?_)
              · replace h := xw_ifF hc12 h
                exact hj81 s10 h _ _ _ hP hS (lv_sub hl [0, 1, 2, 3] rfl)
              · replace h := xw_ifT hc12 h
                refine lv_aload_n hx hb d_MD_reach_53 rfl (lv_at hl 0 rfl) ?_
                refine xw_getR (C := "AdviceWeaverModel") (T := T_MD) hx hb hts hin_MD hown hK hP (by decide) kr_MD (by decide) rfl 21 (by decide) (hts _ hw_479) (fun _ h9 => h9) rfl d_MD_reach_54 ?_
                refine lv_iload_n hx hb d_MD_reach_57 rfl (lv_at hl 1 rfl) ?_
                obtain ⟨hg13, h⟩ := xw_grdI h
                refine xw_iald hx hb hK hP (by decide) kr_m_depths (by decide) hg13 d_MD_reach_58 ?_
                obtain ⟨hg14, h⟩ := xw_grdI h
                refine xw_if_lt (tgt := 81) hx hb hg14 d_MD_reach_59 (by decide) (fun hc15 => ?_) (fun hc15 => ?_)
                · replace h := xw_ifT hc15 h
                  exact hj81 s10 h _ _ _ hP hS (lv_sub hl [0, 1, 2, 3] rfl)
                · replace h := xw_ifF hc15 h
                  refine lv_aload_n hx hb d_MD_reach_62 rfl (lv_at hl 0 rfl) ?_
                  refine xw_getR (C := "AdviceWeaverModel") (T := T_MD) hx hb hts hin_MD hown hK hP (by decide) kr_MD (by decide) rfl 22 (by decide) (hts _ hw_481) (fun _ h9 => h9) rfl d_MD_reach_63 ?_
                  refine lv_iload_n hx hb d_MD_reach_66 rfl (lv_at hl 1 rfl) ?_
                  refine xw_lald hx hb hK hP (by decide) kr_m_sets (by decide) hg13 d_MD_reach_67 ?_
                  refine lv_lload hx hb d_MD_reach_68 (lv_at hl 3 rfl) ?_
                  refine lv_lor hx hb d_MD_reach_70 ?_
                  refine lv_aload_n hx hb d_MD_reach_71 rfl (lv_at hl 0 rfl) ?_
                  refine xw_getR (C := "AdviceWeaverModel") (T := T_MD) hx hb hts hin_MD hown hK hP (by decide) kr_MD (by decide) rfl 22 (by decide) (hts _ hw_481) (fun _ h9 => h9) rfl d_MD_reach_72 ?_
                  refine lv_iload_n hx hb d_MD_reach_75 rfl (lv_at hl 1 rfl) ?_
                  refine xw_lald hx hb hK hP (by decide) kr_m_sets (by decide) hg13 d_MD_reach_76 ?_
                  refine xw_lcmp hx hb d_MD_reach_77 ?_
                  obtain ⟨hg16, h⟩ := xw_grdI h
                  refine xw_if_eq (tgt := 85) hx hb hg16 d_MD_reach_78 (by decide) (fun hc17 => ?_) (fun hc17 => ?_)
                  · replace h := xw_ifT hc17 h
                    refine lv_iconst (v := xw_i 0) hx hb d_MD_reach_85 rfl ?_
                    exact hj86 s10 0 h _ _ _ hP hS (lv_sub hl [0, 1, 2, 3] rfl)
                  · replace h := xw_ifF hc17 h
                    exact hj81 s10 h _ _ _ hP hS (lv_sub hl [0, 1, 2, 3] rfl)
        · intro j45 hj45 h
          obtain ⟨hg7, h⟩ := xw_grdI h
          refine xw_if_lt (tgt := 45) hx hb hg7 d_MD_reach_26 (by decide) (fun hc8 => ?_) (fun hc8 => ?_)
          · replace h := xw_ifT hc8 h
            exact hj45 s0 h _ _ _ hP hS (lv_sub hl [0, 2, 3, 4] rfl)
          · replace h := xw_ifF hc8 h
            refine lv_aload_n hx hb d_MD_reach_29 rfl (lv_at hl 0 rfl) ?_
            refine xw_getR (C := "AdviceWeaverModel") (T := T_MD) hx hb hts hin_MD hown hK hP (by decide) kr_MD (by decide) rfl 21 (by decide) (hts _ hw_479) (fun _ h9 => h9) rfl d_MD_reach_30 ?_
            refine lv_iload_n hx hb d_MD_reach_33 rfl (lv_at hl 2 rfl) ?_
            refine xw_iald hx hb hK hP (by decide) kr_m_depths (by decide) hg6 d_MD_reach_34 ?_
            refine lv_iload_n hx hb d_MD_reach_35 rfl (lv_at hl 3 rfl) ?_
            refine xw_icmp_eq (tgt := 45) hx hb hg7 hg4.1 d_MD_reach_36 (by decide) (fun hc9 => ?_) (fun hc9 => ?_)
            · replace h := xw_ifT hc9 h
              exact hj45 s0 h _ _ _ hP hS (lv_sub hl [0, 2, 3, 4] rfl)
            · replace h := xw_ifF hc9 h
              exact hj39 s0 h _ _ _ hP hS (lv_sub hl [0] rfl)
def f_MD_takes (fu : Nat) (s0 : xw_S) (p1 : Int) (p2 : Int) : Option (xw_S × Int) :=
 xw_bn2 (f_MD_op fu s0 p1 p2) (fun s1 r3 => xw_grd (xw_r r3) (xw_if (r3 = 13) (xw_bn2 (f_MD_op fu s1 p1 (p2 + 1)) (fun s21 r23 => xw_grd ((0 ≤ ((xw_dv p1 4) * 4) + r23 ∧ ((xw_dv p1 4) * 4) + r23 < ((12 : Nat) : Int))) (some (s21, s21.1 3 (((xw_dv p1 4) * 4) + r23).toNat))))
 (xw_jn (fun (s8 : xw_S) (i3_48 : Int) => xw_jn (fun (s20 : xw_S) => some (s20, 1))
 (fun (j107 : xw_S → Option (xw_S × Int)) => xw_grd (xw_r i3_48) (xw_if (i3_48 = 3) (j107 s8)
 (xw_if (i3_48 = 8) (j107 s8)
 (xw_if (i3_48 = 9) (j107 s8)
 (xw_if (i3_48 = 11) (j107 s8)
 (xw_if (i3_48 = 12) (j107 s8)
 (xw_if (i3_48 = 14) (j107 s8)
 (xw_if (i3_48 = 15) (j107 s8)
 (xw_if (i3_48 = 21) (j107 s8)
 (xw_if (i3_48 = 22) (j107 s8)
 (xw_if (i3_48 = 32) (j107 s8)
 (some (s8, 0))))))))))))))
 (fun (j48 : xw_S → Int → Option (xw_S × Int)) => xw_if (r3 < 4) (j48 s1 r3)
 (xw_if (7 < r3) (j48 s1 r3)
 (some (s1, 2)))))))
set_option maxRecDepth 100000 in
set_option maxHeartbeats 4000000 in
theorem c_MD_takes (l : Launch) (D : va_G) (A : Nat → Prop) (ad : Nat → Nat) (cs : Nat → ClassId) (Z : va_W) (tt : Nat → Nat) (fu : Nat) (s0 sZ : xw_S) (p1 : Int) (p2 : Int) (r0 : Int) (h : f_MD_takes fu s0 p1 p2 = some (sZ, r0)) : Met l y_MD_takes w_MD_takes ({ frames := 1, cells := 0, slots := 0, locals := 22 }) (va_Pc [.ref (ad 0), .int (xw_i p1), .int (xw_i p2)] (xw_H D vwCl A kdR 29 ad cs Z tt s0)) (va_Qi (fun r u => r = xw_i r0 ∧ u = sZ) (xw_H D vwCl A kdR 29 ad cs Z tt) A) 0 0 A := by
  refine Met.ofW (cc := b_MD_takes) (maxL := 4) (ret := (some .int)) (by decide) rfl ?_
  intro p e s m args below meth c s₁ B hml hv
  obtain ⟨rfl, hP, hK, hD, hX⟩ := hv
  have hx := B.exec
  have hb := B.bytes
  have hr := B.returns
  have hts0 := atoms_spec (ws := w_MD_takes) B.pre
  have hts := fun w (hw : w ∈ wAll) => hts0 w (List.mem_cons_of_mem _ hw)
  have hown : s.vm.findClass "AdviceWeaverModel" = some m.cls := findClass_of_methodNamed B.named
  have hlk := B.notSynchronized
  clear hts0 B
  have hS : va_S A s.heap s.heap [] := va_S.rf
  have hl := lv_entry [.ref (ad 0), .int (xw_i p1), .int (xw_i p2)] (n := 4) (Nat.le_of_ble_eq_true rfl)
  rw [lg_entry_eq]
  generalize (lg_sl [.ref (ad 0), .int (xw_i p1), .int (xw_i p2)] ++ List.replicate (4 - (lg_sl [.ref (ad 0), .int (xw_i p1), .int (xw_i p2)]).length) Slot.unset).toArray = ls at hl ⊢
  have hl : lv_has ls 4 [(0, .ref (ad 0)), (1, .int (xw_i p1)), (2, .int (xw_i p2))] := hl
  unfold f_MD_takes at h
  refine lv_aload_n hx hb d_MD_takes_0 rfl (lv_at hl 0 rfl) ?_
  refine lv_iload_n hx hb d_MD_takes_1 rfl (lv_at hl 1 rfl) ?_
  refine lv_iload_n hx hb d_MD_takes_2 rfl (lv_at hl 2 rfl) ?_
  obtain ⟨s1, r3, hc2, h⟩ := xw_bn2I h
  refine xw_callVi (C := "AdviceWeaverModel") (T := T_MD) ⟨hx, hb, hml, hown, hts⟩ (c_MD_op l D A ad cs Z tt fu s0 s1 p1 p2 r3 hc2) (cwV 2 hts (gd_V hw_452 hw_453 hw_454 hw_433 hw_455) rfl rfl rfl (by decide +kernel) ⟨Nat.le_of_ble_eq_true rfl, Nat.le_of_ble_eq_true rfl⟩) hP hK hD hX hS (by decide) kr_MD (by decide) rfl rfl hl.1 rfl (Nat.le_of_ble_eq_true rfl) d_MD_takes_3 (fun H locs hP hS => ?_)
  refine lv_istore_n hx hb d_MD_takes_6 rfl hl (by decide) rfl (fun ls hl => ?_)
  refine lv_iload_n hx hb d_MD_takes_7 rfl (lv_at hl 0 rfl) ?_
  refine lv_bipush (v := xw_i 13) hx hb d_MD_takes_8 (by decide) ?_
  obtain ⟨hg4, h⟩ := xw_grdI h
  refine xw_icmp_ne (tgt := 33) hx hb hg4 (by decide) d_MD_takes_10 (by decide) (fun hc5 => ?_) (fun hc5 => ?_)
  · replace h := xw_ifF hc5 h
    refine lv_iload_n hx hb d_MD_takes_33 rfl (lv_at hl 0 rfl) ?_
    refine lv_iconst (v := xw_i 4) hx hb d_MD_takes_34 rfl ?_
    refine xw_jnI (fun j => ∀ (sq : xw_S) (i3_48 : Int), j sq i3_48 = some (sZ, r0) → ∀ (H : Heap) (locs : List Loc) (ls : Array Slot), va_P D vwCl (xw_ws kdR 29 ad cs Z sq) H → va_S A s.heap H locs → lv_has ls 4 [(3, .int (xw_i i3_48))] → W p l e (headSpec w_MD_takes ({ frames := 1, cells := 0, slots := 0, locals := 22 })).room s m [.ref (ad 0), .int (xw_i p1), .int (xw_i p2)].toArray below meth c H locs 0 0 (MQ below (va_Qi (fun r u => r = xw_i r0 ∧ u = sZ) (xw_H D vwCl A kdR 29 ad cs Z tt) A) [.ref (ad 0), .int (xw_i p1), .int (xw_i p2)].toArray s 0 0 A) (F0 m 48 ls [])) h ?_ ?_
    · intro s8 i3_48 h H locs ls hP hS hl
      refine lv_iload_n hx hb d_MD_takes_48 rfl (lv_at hl 0 rfl) ?_
      refine lv_iconst (v := xw_i 3) hx hb d_MD_takes_49 rfl ?_
      refine xw_jnI (fun j => ∀ (sq : xw_S), j sq = some (sZ, r0) → ∀ (H : Heap) (locs : List Loc) (ls : Array Slot), va_P D vwCl (xw_ws kdR 29 ad cs Z sq) H → va_S A s.heap H locs → lv_has ls 4 [] → W p l e (headSpec w_MD_takes ({ frames := 1, cells := 0, slots := 0, locals := 22 })).room s m [.ref (ad 0), .int (xw_i p1), .int (xw_i p2)].toArray below meth c H locs 0 0 (MQ below (va_Qi (fun r u => r = xw_i r0 ∧ u = sZ) (xw_H D vwCl A kdR 29 ad cs Z tt) A) [.ref (ad 0), .int (xw_i p1), .int (xw_i p2)].toArray s 0 0 A) (F0 m 107 ls [])) h ?_ ?_
      · intro s20 h H locs ls hP hS hl
        refine lv_iconst (v := xw_i 1) hx hb d_MD_takes_107 rfl ?_
        refine lv_goto (tgt := 112) hx hb d_MD_takes_108 (by decide) ?_
        exact xw_iretE hx hb hr hlk hP hK hD hX hS h d_MD_takes_112
      · intro j107 hj107 h
        obtain ⟨hg9, h⟩ := xw_grdI h
        refine xw_icmp_eq (tgt := 107) hx hb hg9 (by decide) d_MD_takes_50 (by decide) (fun hc10 => ?_) (fun hc10 => ?_)
        · replace h := xw_ifT hc10 h
          exact hj107 s8 h _ _ _ hP hS (lv_sub hl [] rfl)
        · replace h := xw_ifF hc10 h
          refine lv_iload_n hx hb d_MD_takes_53 rfl (lv_at hl 0 rfl) ?_
          refine lv_bipush (v := xw_i 8) hx hb d_MD_takes_54 (by decide) ?_
          refine xw_icmp_eq (tgt := 107) hx hb hg9 (by decide) d_MD_takes_56 (by decide) (fun hc11 => ?_) (fun hc11 => ?_)
          · replace h := xw_ifT hc11 h
            exact hj107 s8 h _ _ _ hP hS (lv_sub hl [] rfl)
          · replace h := xw_ifF hc11 h
            refine lv_iload_n hx hb d_MD_takes_59 rfl (lv_at hl 0 rfl) ?_
            refine lv_bipush (v := xw_i 9) hx hb d_MD_takes_60 (by decide) ?_
            refine xw_icmp_eq (tgt := 107) hx hb hg9 (by decide) d_MD_takes_62 (by decide) (fun hc12 => ?_) (fun hc12 => ?_)
            · replace h := xw_ifT hc12 h
              exact hj107 s8 h _ _ _ hP hS (lv_sub hl [] rfl)
            · replace h := xw_ifF hc12 h
              refine lv_iload_n hx hb d_MD_takes_65 rfl (lv_at hl 0 rfl) ?_
              refine lv_bipush (v := xw_i 11) hx hb d_MD_takes_66 (by decide) ?_
              refine xw_icmp_eq (tgt := 107) hx hb hg9 (by decide) d_MD_takes_68 (by decide) (fun hc13 => ?_) (fun hc13 => ?_)
              · replace h := xw_ifT hc13 h
                exact hj107 s8 h _ _ _ hP hS (lv_sub hl [] rfl)
              · replace h := xw_ifF hc13 h
                refine lv_iload_n hx hb d_MD_takes_71 rfl (lv_at hl 0 rfl) ?_
                refine lv_bipush (v := xw_i 12) hx hb d_MD_takes_72 (by decide) ?_
                refine xw_icmp_eq (tgt := 107) hx hb hg9 (by decide) d_MD_takes_74 (by decide) (fun hc14 => ?_) (fun hc14 => ?_)
                · replace h := xw_ifT hc14 h
                  exact hj107 s8 h _ _ _ hP hS (lv_sub hl [] rfl)
                · replace h := xw_ifF hc14 h
                  refine lv_iload_n hx hb d_MD_takes_77 rfl (lv_at hl 0 rfl) ?_
                  refine lv_bipush (v := xw_i 14) hx hb d_MD_takes_78 (by decide) ?_
                  refine xw_icmp_eq (tgt := 107) hx hb hg9 (by decide) d_MD_takes_80 (by decide) (fun hc15 => ?_) (fun hc15 => ?_)
                  · replace h := xw_ifT hc15 h
                    exact hj107 s8 h _ _ _ hP hS (lv_sub hl [] rfl)
                  · replace h := xw_ifF hc15 h
                    refine lv_iload_n hx hb d_MD_takes_83 rfl (lv_at hl 0 rfl) ?_
                    refine lv_bipush (v := xw_i 15) hx hb d_MD_takes_84 (by decide) ?_
                    refine xw_icmp_eq (tgt := 107) hx hb hg9 (by decide) d_MD_takes_86 (by decide) (fun hc16 => ?_) (fun hc16 => ?_)
                    · replace h := xw_ifT hc16 h
                      exact hj107 s8 h _ _ _ hP hS (lv_sub hl [] rfl)
                    · replace h := xw_ifF hc16 h
                      refine lv_iload_n hx hb d_MD_takes_89 rfl (lv_at hl 0 rfl) ?_
                      refine lv_bipush (v := xw_i 21) hx hb d_MD_takes_90 (by decide) ?_
                      refine xw_icmp_eq (tgt := 107) hx hb hg9 (by decide) d_MD_takes_92 (by decide) (fun hc17 => ?_) (fun hc17 => ?_)
                      · replace h := xw_ifT hc17 h
                        exact hj107 s8 h _ _ _ hP hS (lv_sub hl [] rfl)
                      · replace h := xw_ifF hc17 h
                        refine lv_iload_n hx hb d_MD_takes_95 rfl (lv_at hl 0 rfl) ?_
                        refine lv_bipush (v := xw_i 22) hx hb d_MD_takes_96 (by decide) ?_
                        refine xw_icmp_eq (tgt := 107) hx hb hg9 (by decide) d_MD_takes_98 (by decide) (fun hc18 => ?_) (fun hc18 => ?_)
                        · replace h := xw_ifT hc18 h
                          exact hj107 s8 h _ _ _ hP hS (lv_sub hl [] rfl)
                        · replace h := xw_ifF hc18 h
                          refine lv_iload_n hx hb d_MD_takes_101 rfl (lv_at hl 0 rfl) ?_
                          refine lv_bipush (v := xw_i 32) hx hb d_MD_takes_102 (by decide) ?_
                          refine xw_icmp_ne (tgt := 111) hx hb hg9 (by decide) d_MD_takes_104 (by decide) (fun hc19 => ?_) (fun hc19 => ?_)
                          · replace h := xw_ifF hc19 h
                            refine lv_iconst (v := xw_i 0) hx hb d_MD_takes_111 rfl ?_
                            exact xw_iretE hx hb hr hlk hP hK hD hX hS h d_MD_takes_112
                          · replace h := xw_ifT hc19 h
                            exact hj107 s8 h _ _ _ hP hS (lv_sub hl [] rfl)
    · intro j48 hj48 h
      refine xw_icmp_lt (tgt := 48) hx hb hg4 (by decide) d_MD_takes_35 (by decide) (fun hc6 => ?_) (fun hc6 => ?_)
      · replace h := xw_ifT hc6 h
        exact hj48 s1 r3 h _ _ _ hP hS (lv_sub hl [0] rfl)
      · replace h := xw_ifF hc6 h
        refine lv_iload_n hx hb d_MD_takes_38 rfl (lv_at hl 0 rfl) ?_
        refine lv_bipush (v := xw_i 7) hx hb d_MD_takes_39 (by decide) ?_
        refine xw_icmp_gt (tgt := 48) hx hb hg4 (by decide) d_MD_takes_41 (by decide) (fun hc7 => ?_) (fun hc7 => ?_)
        · replace h := xw_ifT hc7 h
          exact hj48 s1 r3 h _ _ _ hP hS (lv_sub hl [0] rfl)
        · replace h := xw_ifF hc7 h
          refine lv_iconst (v := xw_i 2) hx hb d_MD_takes_44 rfl ?_
          refine lv_goto (tgt := 112) hx hb d_MD_takes_45 (by decide) ?_
          exact xw_iretE hx hb hr hlk hP hK hD hX hS h d_MD_takes_112
  · replace h := xw_ifT hc5 h
    refine lv_aload_n hx hb d_MD_takes_13 rfl (lv_at hl 1 rfl) ?_
    refine xw_getR (C := "AdviceWeaverModel") (T := T_MD) hx hb hts hin_MD hown hK hP (by decide) kr_MD (by decide) rfl 3 (by decide) (hts _ hw_444) (fun _ h9 => h9) rfl d_MD_takes_14 ?_
    refine lv_iload_n hx hb d_MD_takes_17 rfl (lv_at hl 2 rfl) ?_
    refine lv_iconst (v := xw_i 4) hx hb d_MD_takes_18 rfl ?_
    refine xw_idiv hx hb (by decide) (by decide) d_MD_takes_19 ?_
    refine lv_iconst (v := xw_i 4) hx hb d_MD_takes_20 rfl ?_
    refine xw_imul hx hb d_MD_takes_21 ?_
    refine lv_aload_n hx hb d_MD_takes_22 rfl (lv_at hl 1 rfl) ?_
    refine lv_iload_n hx hb d_MD_takes_23 rfl (lv_at hl 2 rfl) ?_
    refine lv_iload_n hx hb d_MD_takes_24 rfl (lv_at hl 3 rfl) ?_
    refine lv_iconst (v := xw_i 1) hx hb d_MD_takes_25 rfl ?_
    refine xw_iadd hx hb d_MD_takes_26 ?_
    obtain ⟨s21, r23, hc22, h⟩ := xw_bn2I h
    refine xw_callVi (C := "AdviceWeaverModel") (T := T_MD) ⟨hx, hb, hml, hown, hts⟩ (c_MD_op l D A ad cs Z tt fu s1 s21 p1 (p2 + 1) r23 hc22) (cwV 2 hts (gd_V hw_452 hw_453 hw_454 hw_433 hw_455) rfl rfl rfl (by decide +kernel) ⟨Nat.le_of_ble_eq_true rfl, Nat.le_of_ble_eq_true rfl⟩) hP hK hD hX hS (by decide) kr_MD (by decide) rfl rfl hl.1 rfl (Nat.le_of_ble_eq_true rfl) d_MD_takes_27 (fun H locs hP hS => ?_)
    refine xw_iadd hx hb d_MD_takes_30 ?_
    obtain ⟨hg24, h⟩ := xw_grdI h
    refine xw_iald hx hb hK hP (by decide) kr_m_args (by decide) hg24 d_MD_takes_31 ?_
    exact xw_iretE hx hb hr hlk hP hK hD hX hS h d_MD_takes_32
def lp_MD_with_6 (fu : Nat) (d1_6 : Int64) (c3_6 : Int) (c4_6 : Int) (k74 : xw_S → Int64 → Option (xw_S × Int64)) : Nat → xw_S → Int64 → Int → Option (xw_S × Int64)
  | 0, _, _, _ => none
  | n + 1, s1, w5_6, i7_6 =>
    xw_grd (xw_r i7_6) (xw_if (64 ≤ i7_6) (k74 s1 w5_6)
     (xw_jn (fun (s20 : xw_S) (w5_68 : Int64) (i7_68 : Int) => xw_let (i7_68 + 1) (fun v21 => lp_MD_with_6 fu d1_6 c3_6 c4_6 k74 n s20 w5_68 v21))
     (fun (j68 : xw_S → Int64 → Int → Option (xw_S × Int64)) => xw_grd (xw_r (xw_Lc ((xw_Lhr d1_6 i7_6) &&& (1 : Int64)) (1 : Int64))) (xw_if (xw_Lc ((xw_Lhr d1_6 i7_6) &&& (1 : Int64)) (1 : Int64) = 0) (xw_jn (fun (s14 : xw_S) (w5_52 : Int64) (i7_52 : Int) (t0_52 : Int) => xw_grd ((t0_52 = 0 ∨ t0_52 = 1)) (xw_let (xw_st s14 0 23 t0_52) (fun s15 => xw_let (w5_52 ||| (xw_Lhl (1 : Int64) (xw_or i7_52 (xw_hl 1 c3_6)))) (fun v18 => j68 s15 v18 i7_52))))
     (fun (j52 : xw_S → Int64 → Int → Int → Option (xw_S × Int64)) => xw_jn (fun (s13 : xw_S) (w5_51 : Int64) (i7_51 : Int) => j52 s13 w5_51 i7_51 0)
     (fun (j51 : xw_S → Int64 → Int → Option (xw_S × Int64)) => xw_grd (xw_r (s1.1 0 23)) (xw_if (s1.1 0 23 = 0) (j51 s1 w5_6 i7_6)
     (xw_jn (fun (s12 : xw_S) (w5_47 : Int64) (i7_47 : Int) => j52 s12 w5_47 i7_47 1)
     (fun (j47 : xw_S → Int64 → Int → Option (xw_S × Int64)) => xw_grd (xw_r c4_6) (xw_if (c4_6 = 0) (j47 s1 w5_6 i7_6)
     (xw_grd (xw_r (xw_an (xw_hr i7_6 c3_6) 1)) (xw_if (xw_an (xw_hr i7_6 c3_6) 1 = 1) (j47 s1 w5_6 i7_6)
     (j51 s1 w5_6 i7_6))))))))))
     (j68 s1 w5_6 i7_6)))))
def f_MD_with (fu : Nat) (s0 : xw_S) (p1 : Int64) (p3 : Int) (p4 : Int) : Option (xw_S × Int64) :=
 xw_jn (fun (s23 : xw_S) (w5_74 : Int64) => some (s23, w5_74))
 (fun (k74 : xw_S → Int64 → Option (xw_S × Int64)) => lp_MD_with_6 fu p1 p3 p4 k74 fu s0 (0 : Int64) 0)
set_option maxRecDepth 100000 in
set_option maxHeartbeats 4000000 in
theorem c_MD_with (l : Launch) (D : va_G) (A : Nat → Prop) (ad : Nat → Nat) (cs : Nat → ClassId) (Z : va_W) (tt : Nat → Nat) (fu : Nat) (s0 sZ : xw_S) (p1 : Int64) (p3 : Int) (p4 : Int) (r0 : Int64) (h : f_MD_with fu s0 p1 p3 p4 = some (sZ, r0)) : Met l y_MD_with w_MD_with ({ frames := 0, cells := 0, slots := 0, locals := 0 }) (va_Pc [.ref (ad 0), .long p1, .int (xw_i p3), .int (xw_i p4)] (xw_H D vwCl A kdR 29 ad cs Z tt s0)) (va_Ql (fun r u => r = r0 ∧ u = sZ) (xw_H D vwCl A kdR 29 ad cs Z tt) A) 0 0 A := by
  refine Met.ofW (cc := b_MD_with) (maxL := 8) (ret := (some .long)) (by decide) rfl ?_
  intro p e s m args below meth c s₁ B hml hv
  obtain ⟨rfl, hP, hK, hD, hX⟩ := hv
  have hx := B.exec
  have hb := B.bytes
  have hr := B.returns
  have hts0 := atoms_spec (ws := w_MD_with) B.pre
  have hts := fun w (hw : w ∈ wAll) => hts0 w (List.mem_cons_of_mem _ hw)
  have hown : s.vm.findClass "AdviceWeaverModel" = some m.cls := findClass_of_methodNamed B.named
  have hlk := B.notSynchronized
  clear hts0 B
  have hS : va_S A s.heap s.heap [] := va_S.rf
  have hl := lv_entry [.ref (ad 0), .long p1, .int (xw_i p3), .int (xw_i p4)] (n := 8) (Nat.le_of_ble_eq_true rfl)
  rw [lg_entry_eq]
  generalize (lg_sl [.ref (ad 0), .long p1, .int (xw_i p3), .int (xw_i p4)] ++ List.replicate (8 - (lg_sl [.ref (ad 0), .long p1, .int (xw_i p3), .int (xw_i p4)]).length) Slot.unset).toArray = ls at hl ⊢
  have hl : lv_has ls 8 [(0, .ref (ad 0)), (1, .long p1), (3, .int (xw_i p3)), (4, .int (xw_i p4))] := hl
  have hlp6 : ∀ (d1_6 : Int64) (c3_6 : Int) (c4_6 : Int) (k74 : xw_S → Int64 → Option (xw_S × Int64)) (hk74 : ∀ (sq : xw_S) (w5_74 : Int64), k74 sq w5_74 = some (sZ, r0) → ∀ (H : Heap) (locs : List Loc) (ls : Array Slot), va_P D vwCl (xw_ws kdR 29 ad cs Z sq) H → va_S A s.heap H locs → lv_has ls 8 [(5, .long w5_74)] → W p l e (headSpec w_MD_with ({ frames := 0, cells := 0, slots := 0, locals := 0 })).room s m [.ref (ad 0), .long p1, .int (xw_i p3), .int (xw_i p4)].toArray below meth c H locs 0 0 (MQ below (va_Ql (fun r u => r = r0 ∧ u = sZ) (xw_H D vwCl A kdR 29 ad cs Z tt) A) [.ref (ad 0), .long p1, .int (xw_i p3), .int (xw_i p4)].toArray s 0 0 A) (F0 m 74 ls [])) (n : Nat), ∀ (sq : xw_S) (w5_6 : Int64) (i7_6 : Int), lp_MD_with_6 fu d1_6 c3_6 c4_6 k74 n sq w5_6 i7_6 = some (sZ, r0) → ∀ (H : Heap) (locs : List Loc) (ls : Array Slot), va_P D vwCl (xw_ws kdR 29 ad cs Z sq) H → va_S A s.heap H locs → lv_has ls 8 [(0, .ref (ad 0)), (1, .long d1_6), (3, .int (xw_i c3_6)), (4, .int (xw_i c4_6)), (5, .long w5_6), (7, .int (xw_i i7_6))] → W p l e (headSpec w_MD_with ({ frames := 0, cells := 0, slots := 0, locals := 0 })).room s m [.ref (ad 0), .long p1, .int (xw_i p3), .int (xw_i p4)].toArray below meth c H locs 0 0 (MQ below (va_Ql (fun r u => r = r0 ∧ u = sZ) (xw_H D vwCl A kdR 29 ad cs Z tt) A) [.ref (ad 0), .long p1, .int (xw_i p3), .int (xw_i p4)].toArray s 0 0 A) (F0 m 6 ls []) := by
    intro d1_6 c3_6 c4_6 k74 hk74 n
    induction n with
    | zero =>
      intro sq w5_6 i7_6 h
      cases (show (none : Option (xw_S × Int64)) = some (sZ, r0) from h)
    | succ n ih6 =>
      intro s1 w5_6 i7_6 h H locs ls hP hS hl
      unfold lp_MD_with_6 at h
      refine lv_iload hx hb d_MD_with_6 (lv_at hl 5 rfl) ?_
      refine lv_bipush (v := xw_i 64) hx hb d_MD_with_8 (by decide) ?_
      obtain ⟨hg2, h⟩ := xw_grdI h
      refine xw_icmp_ge (tgt := 74) hx hb hg2 (by decide) d_MD_with_10 (by decide) (fun hc3 => ?_) (fun hc3 => ?_)
      · replace h := xw_ifT hc3 h
        exact hk74 s1 w5_6 h _ _ _ hP hS (lv_sub hl [4] rfl)
      · replace h := xw_ifF hc3 h
        refine lv_lload_n hx hb d_MD_with_13 rfl (lv_at hl 1 rfl) ?_
        refine lv_iload hx hb d_MD_with_14 (lv_at hl 5 rfl) ?_
        refine lv_lshr (v := xw_Lhr d1_6 i7_6) hx hb d_MD_with_16 rfl ?_
        refine lv_lconst (v := 1) hx hb d_MD_with_17 rfl ?_
        refine lv_land hx hb d_MD_with_18 ?_
        refine lv_lconst (v := 1) hx hb d_MD_with_19 rfl ?_
        refine xw_lcmp hx hb d_MD_with_20 ?_
        refine xw_jnI (fun j => ∀ (sq : xw_S) (w5_68 : Int64) (i7_68 : Int), j sq w5_68 i7_68 = some (sZ, r0) → ∀ (H : Heap) (locs : List Loc) (ls : Array Slot), va_P D vwCl (xw_ws kdR 29 ad cs Z sq) H → va_S A s.heap H locs → lv_has ls 8 [(0, .ref (ad 0)), (1, .long d1_6), (3, .int (xw_i c3_6)), (4, .int (xw_i c4_6)), (5, .long w5_68), (7, .int (xw_i i7_68))] → W p l e (headSpec w_MD_with ({ frames := 0, cells := 0, slots := 0, locals := 0 })).room s m [.ref (ad 0), .long p1, .int (xw_i p3), .int (xw_i p4)].toArray below meth c H locs 0 0 (MQ below (va_Ql (fun r u => r = r0 ∧ u = sZ) (xw_H D vwCl A kdR 29 ad cs Z tt) A) [.ref (ad 0), .long p1, .int (xw_i p3), .int (xw_i p4)].toArray s 0 0 A) (F0 m 68 ls [])) h ?_ ?_
        · intro s20 w5_68 i7_68 h H locs ls hP hS hl
          obtain ⟨v21, e22⟩ : ∃ z, z = i7_68 + 1 := ⟨_, rfl⟩
          replace h := xw_letI e22 h
          refine xw_iinc (lv' := [(7, .int (xw_i v21)), (0, .ref (ad 0)), (1, .long d1_6), (3, .int (xw_i c3_6)), (4, .int (xw_i c4_6)), (5, .long w5_68)]) hx hb d_MD_with_68 hl (k := 5) rfl (by decide) (by rw [e22]; rfl) (fun ls hl => ?_)
          refine lv_goto (tgt := 6) hx hb d_MD_with_71 (by decide) ?_
          exact ih6 s20 w5_68 v21 h _ _ _ hP hS (lv_sub hl [1, 2, 3, 4, 5, 0] rfl)
        · intro j68 hj68 h
          obtain ⟨hg4, h⟩ := xw_grdI h
          refine xw_if_ne (tgt := 68) hx hb hg4 d_MD_with_21 (by decide) (fun hc5 => ?_) (fun hc5 => ?_)
          · replace h := xw_ifF hc5 h
            exact hj68 s1 w5_6 i7_6 h _ _ _ hP hS (lv_sub hl [0, 1, 2, 3, 4, 5] rfl)
          · replace h := xw_ifT hc5 h
            refine lv_aload_n hx hb d_MD_with_24 rfl (lv_at hl 0 rfl) ?_
            refine lv_aload_n hx hb d_MD_with_25 rfl (lv_at hl 0 rfl) ?_
            refine xw_getI (C := "AdviceWeaverModel") (T := T_MD) hx hb hts hin_MD hown hK hP (by decide) kr_MD (by decide) rfl 23 (by decide) (hts _ hw_482) (fun _ h9 => h9) rfl d_MD_with_26 ?_
            refine xw_jnI (fun j => ∀ (sq : xw_S) (w5_52 : Int64) (i7_52 : Int) (t0_52 : Int), j sq w5_52 i7_52 t0_52 = some (sZ, r0) → ∀ (H : Heap) (locs : List Loc) (ls : Array Slot), va_P D vwCl (xw_ws kdR 29 ad cs Z sq) H → va_S A s.heap H locs → lv_has ls 8 [(0, .ref (ad 0)), (1, .long d1_6), (3, .int (xw_i c3_6)), (4, .int (xw_i c4_6)), (5, .long w5_52), (7, .int (xw_i i7_52))] → W p l e (headSpec w_MD_with ({ frames := 0, cells := 0, slots := 0, locals := 0 })).room s m [.ref (ad 0), .long p1, .int (xw_i p3), .int (xw_i p4)].toArray below meth c H locs 0 0 (MQ below (va_Ql (fun r u => r = r0 ∧ u = sZ) (xw_H D vwCl A kdR 29 ad cs Z tt) A) [.ref (ad 0), .long p1, .int (xw_i p3), .int (xw_i p4)].toArray s 0 0 A) (F0 m 52 ls [.int (xw_i t0_52), .ref (ad 0)])) h ?_ ?_
            · intro s14 w5_52 i7_52 t0_52 h H locs ls hP hS hl
              obtain ⟨hg17, h⟩ := xw_grdI h
              refine xw_putB (C := "AdviceWeaverModel") (T := T_MD) hx hb hts hin_MD ty_MD ty_MD_ok nm_MD hown hK hP hD hS (by decide) kr_MD (by decide) rfl 23 (by decide) (hts _ hw_482) (fun _ h9 => h9) rfl (by decide +kernel) rfl d_MD_with_52 hg17 (fun s15 e16 H locs hP hS => ?_)
              replace h := xw_letI e16 h
              refine lv_lload hx hb d_MD_with_55 (lv_at hl 4 rfl) ?_
              refine lv_lconst (v := 1) hx hb d_MD_with_57 rfl ?_
              refine lv_iload hx hb d_MD_with_58 (lv_at hl 5 rfl) ?_
              refine lv_iconst (v := xw_i 1) hx hb d_MD_with_60 rfl ?_
              refine lv_iload_n hx hb d_MD_with_61 rfl (lv_at hl 2 rfl) ?_
              refine xw_ishl hx hb d_MD_with_62 ?_
              refine xw_ior hx hb d_MD_with_63 ?_
              refine lv_lshl (v := xw_Lhl (1 : Int64) (xw_or i7_52 (xw_hl 1 c3_6))) hx hb d_MD_with_64 rfl ?_
              refine lv_lor hx hb d_MD_with_65 ?_
              refine lv_topl (fun v18 e19 => ?_)
              replace h := xw_letI e19 h
              refine lv_lstore hx hb d_MD_with_66 hl (by decide) rfl (fun ls hl => ?_)
              exact hj68 s15 v18 i7_52 h _ _ _ hP hS (lv_sub hl [1, 2, 3, 4, 0, 5] rfl)
            · intro j52 hj52 h
              refine xw_jnI (fun j => ∀ (sq : xw_S) (w5_51 : Int64) (i7_51 : Int), j sq w5_51 i7_51 = some (sZ, r0) → ∀ (H : Heap) (locs : List Loc) (ls : Array Slot), va_P D vwCl (xw_ws kdR 29 ad cs Z sq) H → va_S A s.heap H locs → lv_has ls 8 [(0, .ref (ad 0)), (1, .long d1_6), (3, .int (xw_i c3_6)), (4, .int (xw_i c4_6)), (5, .long w5_51), (7, .int (xw_i i7_51))] → W p l e (headSpec w_MD_with ({ frames := 0, cells := 0, slots := 0, locals := 0 })).room s m [.ref (ad 0), .long p1, .int (xw_i p3), .int (xw_i p4)].toArray below meth c H locs 0 0 (MQ below (va_Ql (fun r u => r = r0 ∧ u = sZ) (xw_H D vwCl A kdR 29 ad cs Z tt) A) [.ref (ad 0), .long p1, .int (xw_i p3), .int (xw_i p4)].toArray s 0 0 A) (F0 m 51 ls [.ref (ad 0)])) h ?_ ?_
              · intro s13 w5_51 i7_51 h H locs ls hP hS hl
                refine lv_iconst (v := xw_i 0) hx hb d_MD_with_51 rfl ?_
                exact hj52 s13 w5_51 i7_51 0 h _ _ _ hP hS (lv_sub hl [0, 1, 2, 3, 4, 5] rfl)
              · intro j51 hj51 h
                obtain ⟨hg6, h⟩ := xw_grdI h
                refine xw_if_eq (tgt := 51) hx hb hg6 d_MD_with_29 (by decide) (fun hc7 => ?_) (fun hc7 => ?_)
                · replace h := xw_ifT hc7 h
                  exact hj51 s1 w5_6 i7_6 h _ _ _ hP hS (lv_sub hl [0, 1, 2, 3, 4, 5] rfl)
                · replace h := xw_ifF hc7 h
                  refine lv_iload hx hb d_MD_with_32 (lv_at hl 3 rfl) ?_
                  refine xw_jnI (fun j => ∀ (sq : xw_S) (w5_47 : Int64) (i7_47 : Int), j sq w5_47 i7_47 = some (sZ, r0) → ∀ (H : Heap) (locs : List Loc) (ls : Array Slot), va_P D vwCl (xw_ws kdR 29 ad cs Z sq) H → va_S A s.heap H locs → lv_has ls 8 [(0, .ref (ad 0)), (1, .long d1_6), (3, .int (xw_i c3_6)), (4, .int (xw_i c4_6)), (5, .long w5_47), (7, .int (xw_i i7_47))] → W p l e (headSpec w_MD_with ({ frames := 0, cells := 0, slots := 0, locals := 0 })).room s m [.ref (ad 0), .long p1, .int (xw_i p3), .int (xw_i p4)].toArray below meth c H locs 0 0 (MQ below (va_Ql (fun r u => r = r0 ∧ u = sZ) (xw_H D vwCl A kdR 29 ad cs Z tt) A) [.ref (ad 0), .long p1, .int (xw_i p3), .int (xw_i p4)].toArray s 0 0 A) (F0 m 47 ls [.ref (ad 0)])) h ?_ ?_
                  · intro s12 w5_47 i7_47 h H locs ls hP hS hl
                    refine lv_iconst (v := xw_i 1) hx hb d_MD_with_47 rfl ?_
                    refine lv_goto (tgt := 52) hx hb d_MD_with_48 (by decide) ?_
                    exact hj52 s12 w5_47 i7_47 1 h _ _ _ hP hS (lv_sub hl [0, 1, 2, 3, 4, 5] rfl)
                  · intro j47 hj47 h
                    obtain ⟨hg8, h⟩ := xw_grdI h
                    refine xw_if_eq (tgt := 47) hx hb hg8 d_MD_with_34 (by decide) (fun hc9 => ?_) (fun hc9 => ?_)
                    · replace h := xw_ifT hc9 h
                      exact hj47 s1 w5_6 i7_6 h _ _ _ hP hS (lv_sub hl [0, 1, 2, 3, 4, 5] rfl)
                    · replace h := xw_ifF hc9 h
                      refine lv_iload hx hb d_MD_with_37 (lv_at hl 5 rfl) ?_
                      refine lv_iload_n hx hb d_MD_with_39 rfl (lv_at hl 2 rfl) ?_
                      refine xw_ishr hx hb d_MD_with_40 ?_
                      refine lv_iconst (v := xw_i 1) hx hb d_MD_with_41 rfl ?_
                      refine xw_iand hx hb d_MD_with_42 ?_
                      refine lv_iconst (v := xw_i 1) hx hb d_MD_with_43 rfl ?_
                      obtain ⟨hg10, h⟩ := xw_grdI h
                      refine xw_icmp_ne (tgt := 51) hx hb hg10 (by decide) d_MD_with_44 (by decide) (fun hc11 => ?_) (fun hc11 => ?_)
                      · replace h := xw_ifF hc11 h
                        exact hj51 s1 w5_6 i7_6 h _ _ _ hP hS (lv_sub hl [0, 1, 2, 3, 4, 5] rfl)
                      · replace h := xw_ifT hc11 h
                        exact hj47 s1 w5_6 i7_6 h _ _ _ hP hS (lv_sub hl [0, 1, 2, 3, 4, 5] rfl)
  unfold f_MD_with at h
  refine lv_lconst (v := 0) hx hb d_MD_with_0 rfl ?_
  refine lv_lstore hx hb d_MD_with_1 hl (by decide) rfl (fun ls hl => ?_)
  refine lv_iconst (v := xw_i 0) hx hb d_MD_with_3 rfl ?_
  refine lv_istore hx hb d_MD_with_4 hl (by decide) rfl (fun ls hl => ?_)
  refine xw_jnI (fun j => ∀ (sq : xw_S) (w5_74 : Int64), j sq w5_74 = some (sZ, r0) → ∀ (H : Heap) (locs : List Loc) (ls : Array Slot), va_P D vwCl (xw_ws kdR 29 ad cs Z sq) H → va_S A s.heap H locs → lv_has ls 8 [(5, .long w5_74)] → W p l e (headSpec w_MD_with ({ frames := 0, cells := 0, slots := 0, locals := 0 })).room s m [.ref (ad 0), .long p1, .int (xw_i p3), .int (xw_i p4)].toArray below meth c H locs 0 0 (MQ below (va_Ql (fun r u => r = r0 ∧ u = sZ) (xw_H D vwCl A kdR 29 ad cs Z tt) A) [.ref (ad 0), .long p1, .int (xw_i p3), .int (xw_i p4)].toArray s 0 0 A) (F0 m 74 ls [])) h ?_ ?_
  · intro s23 w5_74 h H locs ls hP hS hl
    refine lv_lload hx hb d_MD_with_74 (lv_at hl 0 rfl) ?_
    exact xw_lretE hx hb hr hlk hP hK hD hX hS h d_MD_with_76
  · intro k74 hk74 h
    exact hlp6 p1 p3 p4 k74 hk74 fu s0 (0 : Int64) 0 h _ _ _ hP hS (lv_sub hl [2, 3, 4, 5, 1, 0] rfl)
def f_MD_puts (fu : Nat) (s0 : xw_S) (p0 : Int) : Option (xw_S × Int) :=
 xw_grd (xw_r p0) (xw_if (p0 = 8) (some (s0, 2))
 (xw_jn (fun (s10 : xw_S) => some (s10, 1))
 (fun (j37 : xw_S → Option (xw_S × Int)) => xw_if (p0 = 1) (j37 s0)
 (xw_if (p0 = 2) (j37 s0)
 (xw_jn (fun (s7 : xw_S) => xw_grd (xw_r p0) (xw_if (p0 = 13) (j37 s7)
 (some (s7, 0))))
 (fun (j31 : xw_S → Option (xw_S × Int)) => xw_if (p0 < 4) (j31 s0)
 (xw_if (p0 ≤ 7) (j37 s0)
 (j31 s0))))))))
set_option maxRecDepth 100000 in
set_option maxHeartbeats 4000000 in
theorem c_MD_puts (l : Launch) (D : va_G) (A : Nat → Prop) (ad : Nat → Nat) (cs : Nat → ClassId) (Z : va_W) (tt : Nat → Nat) (fu : Nat) (s0 sZ : xw_S) (p0 : Int) (r0 : Int) (h : f_MD_puts fu s0 p0 = some (sZ, r0)) : Met l y_MD_puts w_MD_puts ({ frames := 0, cells := 0, slots := 0, locals := 0 }) (va_Pc [.int (xw_i p0)] (xw_H D vwCl A kdR 29 ad cs Z tt s0)) (va_Qi (fun r u => r = xw_i r0 ∧ u = sZ) (xw_H D vwCl A kdR 29 ad cs Z tt) A) 0 0 A := by
  refine Met.ofW (cc := b_MD_puts) (maxL := 1) (ret := (some .int)) (by decide) rfl ?_
  intro p e s m args below meth c s₁ B hml hv
  obtain ⟨rfl, hP, hK, hD, hX⟩ := hv
  have hx := B.exec
  have hb := B.bytes
  have hr := B.returns
  have hts0 := atoms_spec (ws := w_MD_puts) B.pre
  have hts := fun w (hw : w ∈ wAll) => hts0 w (List.mem_cons_of_mem _ hw)
  have hown : s.vm.findClass "AdviceWeaverModel" = some m.cls := findClass_of_methodNamed B.named
  have hlk := B.notSynchronized
  clear hts0 B
  have hS : va_S A s.heap s.heap [] := va_S.rf
  have hl := lv_entry [.int (xw_i p0)] (n := 1) (Nat.le_of_ble_eq_true rfl)
  rw [lg_entry_eq]
  generalize (lg_sl [.int (xw_i p0)] ++ List.replicate (1 - (lg_sl [.int (xw_i p0)]).length) Slot.unset).toArray = ls at hl ⊢
  have hl : lv_has ls 1 [(0, .int (xw_i p0))] := hl
  unfold f_MD_puts at h
  refine lv_iload_n hx hb d_MD_puts_0 rfl (lv_at hl 0 rfl) ?_
  refine lv_bipush (v := xw_i 8) hx hb d_MD_puts_1 (by decide) ?_
  obtain ⟨hg1, h⟩ := xw_grdI h
  refine xw_icmp_ne (tgt := 10) hx hb hg1 (by decide) d_MD_puts_3 (by decide) (fun hc2 => ?_) (fun hc2 => ?_)
  · replace h := xw_ifF hc2 h
    refine lv_iload_n hx hb d_MD_puts_10 rfl (lv_at hl 0 rfl) ?_
    refine lv_iconst (v := xw_i 1) hx hb d_MD_puts_11 rfl ?_
    refine xw_jnI (fun j => ∀ (sq : xw_S), j sq = some (sZ, r0) → ∀ (H : Heap) (locs : List Loc) (ls : Array Slot), va_P D vwCl (xw_ws kdR 29 ad cs Z sq) H → va_S A s.heap H locs → lv_has ls 1 [] → W p l e (headSpec w_MD_puts ({ frames := 0, cells := 0, slots := 0, locals := 0 })).room s m [.int (xw_i p0)].toArray below meth c H locs 0 0 (MQ below (va_Qi (fun r u => r = xw_i r0 ∧ u = sZ) (xw_H D vwCl A kdR 29 ad cs Z tt) A) [.int (xw_i p0)].toArray s 0 0 A) (F0 m 37 ls [])) h ?_ ?_
    · intro s10 h H locs ls hP hS hl
      refine lv_iconst (v := xw_i 1) hx hb d_MD_puts_37 rfl ?_
      refine lv_goto (tgt := 42) hx hb d_MD_puts_38 (by decide) ?_
      exact xw_iretE hx hb hr hlk hP hK hD hX hS h d_MD_puts_42
    · intro j37 hj37 h
      refine xw_icmp_eq (tgt := 37) hx hb hg1 (by decide) d_MD_puts_12 (by decide) (fun hc3 => ?_) (fun hc3 => ?_)
      · replace h := xw_ifT hc3 h
        exact hj37 s0 h _ _ _ hP hS (lv_sub hl [] rfl)
      · replace h := xw_ifF hc3 h
        refine lv_iload_n hx hb d_MD_puts_15 rfl (lv_at hl 0 rfl) ?_
        refine lv_iconst (v := xw_i 2) hx hb d_MD_puts_16 rfl ?_
        refine xw_icmp_eq (tgt := 37) hx hb hg1 (by decide) d_MD_puts_17 (by decide) (fun hc4 => ?_) (fun hc4 => ?_)
        · replace h := xw_ifT hc4 h
          exact hj37 s0 h _ _ _ hP hS (lv_sub hl [] rfl)
        · replace h := xw_ifF hc4 h
          refine lv_iload_n hx hb d_MD_puts_20 rfl (lv_at hl 0 rfl) ?_
          refine lv_iconst (v := xw_i 4) hx hb d_MD_puts_21 rfl ?_
          refine xw_jnI (fun j => ∀ (sq : xw_S), j sq = some (sZ, r0) → ∀ (H : Heap) (locs : List Loc) (ls : Array Slot), va_P D vwCl (xw_ws kdR 29 ad cs Z sq) H → va_S A s.heap H locs → lv_has ls 1 [(0, .int (xw_i p0))] → W p l e (headSpec w_MD_puts ({ frames := 0, cells := 0, slots := 0, locals := 0 })).room s m [.int (xw_i p0)].toArray below meth c H locs 0 0 (MQ below (va_Qi (fun r u => r = xw_i r0 ∧ u = sZ) (xw_H D vwCl A kdR 29 ad cs Z tt) A) [.int (xw_i p0)].toArray s 0 0 A) (F0 m 31 ls [])) h ?_ ?_
          · intro s7 h H locs ls hP hS hl
            refine lv_iload_n hx hb d_MD_puts_31 rfl (lv_at hl 0 rfl) ?_
            refine lv_bipush (v := xw_i 13) hx hb d_MD_puts_32 (by decide) ?_
            obtain ⟨hg8, h⟩ := xw_grdI h
            refine xw_icmp_ne (tgt := 41) hx hb hg8 (by decide) d_MD_puts_34 (by decide) (fun hc9 => ?_) (fun hc9 => ?_)
            · replace h := xw_ifF hc9 h
              refine lv_iconst (v := xw_i 0) hx hb d_MD_puts_41 rfl ?_
              exact xw_iretE hx hb hr hlk hP hK hD hX hS h d_MD_puts_42
            · replace h := xw_ifT hc9 h
              exact hj37 s7 h _ _ _ hP hS (lv_sub hl [] rfl)
          · intro j31 hj31 h
            refine xw_icmp_lt (tgt := 31) hx hb hg1 (by decide) d_MD_puts_22 (by decide) (fun hc5 => ?_) (fun hc5 => ?_)
            · replace h := xw_ifT hc5 h
              exact hj31 s0 h _ _ _ hP hS (lv_sub hl [0] rfl)
            · replace h := xw_ifF hc5 h
              refine lv_iload_n hx hb d_MD_puts_25 rfl (lv_at hl 0 rfl) ?_
              refine lv_bipush (v := xw_i 7) hx hb d_MD_puts_26 (by decide) ?_
              refine xw_icmp_le (tgt := 37) hx hb hg1 (by decide) d_MD_puts_28 (by decide) (fun hc6 => ?_) (fun hc6 => ?_)
              · replace h := xw_ifT hc6 h
                exact hj37 s0 h _ _ _ hP hS (lv_sub hl [] rfl)
              · replace h := xw_ifF hc6 h
                exact hj31 s0 h _ _ _ hP hS (lv_sub hl [0] rfl)
  · replace h := xw_ifT hc2 h
    refine lv_iconst (v := xw_i 2) hx hb d_MD_puts_6 rfl ?_
    refine lv_goto (tgt := 42) hx hb d_MD_puts_7 (by decide) ?_
    exact xw_iretE hx hb hr hlk hP hK hD hX hS h d_MD_puts_42
def f_MD_ends (fu : Nat) (s0 : xw_S) (p0 : Int) : Option (xw_S × Int) :=
 xw_jn (fun (s7 : xw_S) => some (s7, 1))
 (fun (j30 : xw_S → Option (xw_S × Int)) => xw_grd (xw_r p0) (xw_if (p0 = 10) (j30 s0)
 (xw_if (p0 = 14) (j30 s0)
 (xw_if (p0 = 15) (j30 s0)
 (xw_if (p0 = 20) (j30 s0)
 (xw_if (p0 = 32) (j30 s0)
 (some (s0, 0))))))))
set_option maxRecDepth 100000 in
set_option maxHeartbeats 4000000 in
theorem c_MD_ends (l : Launch) (D : va_G) (A : Nat → Prop) (ad : Nat → Nat) (cs : Nat → ClassId) (Z : va_W) (tt : Nat → Nat) (fu : Nat) (s0 sZ : xw_S) (p0 : Int) (r0 : Int) (h : f_MD_ends fu s0 p0 = some (sZ, r0)) : Met l y_MD_ends w_MD_ends ({ frames := 0, cells := 0, slots := 0, locals := 0 }) (va_Pc [.int (xw_i p0)] (xw_H D vwCl A kdR 29 ad cs Z tt s0)) (va_Qi (fun r u => r = xw_i r0 ∧ u = sZ) (xw_H D vwCl A kdR 29 ad cs Z tt) A) 0 0 A := by
  refine Met.ofW (cc := b_MD_ends) (maxL := 1) (ret := (some .boolean)) (by decide) rfl ?_
  intro p e s m args below meth c s₁ B hml hv
  obtain ⟨rfl, hP, hK, hD, hX⟩ := hv
  have hx := B.exec
  have hb := B.bytes
  have hr := B.returns
  have hts0 := atoms_spec (ws := w_MD_ends) B.pre
  have hts := fun w (hw : w ∈ wAll) => hts0 w (List.mem_cons_of_mem _ hw)
  have hown : s.vm.findClass "AdviceWeaverModel" = some m.cls := findClass_of_methodNamed B.named
  have hlk := B.notSynchronized
  clear hts0 B
  have hS : va_S A s.heap s.heap [] := va_S.rf
  have hl := lv_entry [.int (xw_i p0)] (n := 1) (Nat.le_of_ble_eq_true rfl)
  rw [lg_entry_eq]
  generalize (lg_sl [.int (xw_i p0)] ++ List.replicate (1 - (lg_sl [.int (xw_i p0)]).length) Slot.unset).toArray = ls at hl ⊢
  have hl : lv_has ls 1 [(0, .int (xw_i p0))] := hl
  unfold f_MD_ends at h
  refine lv_iload_n hx hb d_MD_ends_0 rfl (lv_at hl 0 rfl) ?_
  refine lv_bipush (v := xw_i 10) hx hb d_MD_ends_1 (by decide) ?_
  refine xw_jnI (fun j => ∀ (sq : xw_S), j sq = some (sZ, r0) → ∀ (H : Heap) (locs : List Loc) (ls : Array Slot), va_P D vwCl (xw_ws kdR 29 ad cs Z sq) H → va_S A s.heap H locs → lv_has ls 1 [] → W p l e (headSpec w_MD_ends ({ frames := 0, cells := 0, slots := 0, locals := 0 })).room s m [.int (xw_i p0)].toArray below meth c H locs 0 0 (MQ below (va_Qi (fun r u => r = xw_i r0 ∧ u = sZ) (xw_H D vwCl A kdR 29 ad cs Z tt) A) [.int (xw_i p0)].toArray s 0 0 A) (F0 m 30 ls [])) h ?_ ?_
  · intro s7 h H locs ls hP hS hl
    refine lv_iconst (v := xw_i 1) hx hb d_MD_ends_30 rfl ?_
    refine lv_goto (tgt := 35) hx hb d_MD_ends_31 (by decide) ?_
    exact xw_zretE hx hb hr hlk hP hK hD hX hS h (by decide) d_MD_ends_35
  · intro j30 hj30 h
    obtain ⟨hg1, h⟩ := xw_grdI h
    refine xw_icmp_eq (tgt := 30) hx hb hg1 (by decide) d_MD_ends_3 (by decide) (fun hc2 => ?_) (fun hc2 => ?_)
    · replace h := xw_ifT hc2 h
      exact hj30 s0 h _ _ _ hP hS (lv_sub hl [] rfl)
    · replace h := xw_ifF hc2 h
      refine lv_iload_n hx hb d_MD_ends_6 rfl (lv_at hl 0 rfl) ?_
      refine lv_bipush (v := xw_i 14) hx hb d_MD_ends_7 (by decide) ?_
      refine xw_icmp_eq (tgt := 30) hx hb hg1 (by decide) d_MD_ends_9 (by decide) (fun hc3 => ?_) (fun hc3 => ?_)
      · replace h := xw_ifT hc3 h
        exact hj30 s0 h _ _ _ hP hS (lv_sub hl [] rfl)
      · replace h := xw_ifF hc3 h
        refine lv_iload_n hx hb d_MD_ends_12 rfl (lv_at hl 0 rfl) ?_
        refine lv_bipush (v := xw_i 15) hx hb d_MD_ends_13 (by decide) ?_
        refine xw_icmp_eq (tgt := 30) hx hb hg1 (by decide) d_MD_ends_15 (by decide) (fun hc4 => ?_) (fun hc4 => ?_)
        · replace h := xw_ifT hc4 h
          exact hj30 s0 h _ _ _ hP hS (lv_sub hl [] rfl)
        · replace h := xw_ifF hc4 h
          refine lv_iload_n hx hb d_MD_ends_18 rfl (lv_at hl 0 rfl) ?_
          refine lv_bipush (v := xw_i 20) hx hb d_MD_ends_19 (by decide) ?_
          refine xw_icmp_eq (tgt := 30) hx hb hg1 (by decide) d_MD_ends_21 (by decide) (fun hc5 => ?_) (fun hc5 => ?_)
          · replace h := xw_ifT hc5 h
            exact hj30 s0 h _ _ _ hP hS (lv_sub hl [] rfl)
          · replace h := xw_ifF hc5 h
            refine lv_iload_n hx hb d_MD_ends_24 rfl (lv_at hl 0 rfl) ?_
            refine lv_bipush (v := xw_i 32) hx hb d_MD_ends_25 (by decide) ?_
            refine xw_icmp_ne (tgt := 34) hx hb hg1 (by decide) d_MD_ends_27 (by decide) (fun hc6 => ?_) (fun hc6 => ?_)
            · replace h := xw_ifF hc6 h
              refine lv_iconst (v := xw_i 0) hx hb d_MD_ends_34 rfl ?_
              exact xw_zretE hx hb hr hlk hP hK hD hX hS h (by decide) d_MD_ends_35
            · replace h := xw_ifT hc6 h
              exact hj30 s0 h _ _ _ hP hS (lv_sub hl [] rfl)
def lp_MD_follow_29 (fu : Nat) (c1_29 : Int) (c2_29 : Int) (c3_29 : Int) (c4_29 : Int) (d5_29 : Int64) (k94 : xw_S → Int → Int → Int64 → Option xw_S) : Nat → xw_S → Int → Option xw_S
  | 0, _, _ => none
  | n + 1, s11, i7_29 =>
    xw_grd ((0 ≤ c1_29 ∧ c1_29 < ((12 : Nat) : Int))) (xw_grd (xw_r i7_29 ∧ xw_r ((20 * c1_29) + (4 * (s11.1 8 (c1_29).toNat)))) (xw_if ((20 * c1_29) + (4 * (s11.1 8 (c1_29).toNat)) ≤ i7_29) (k94 s11 c3_29 c4_29 d5_29)
     (xw_grd ((0 ≤ i7_29 ∧ i7_29 < ((240 : Nat) : Int))) (xw_jn (fun (s25 : xw_S) (i7_88 : Int) => xw_let (i7_88 + 4) (fun v26 => lp_MD_follow_29 fu c1_29 c2_29 c3_29 c4_29 d5_29 k94 n s25 v26))
     (fun (j88 : xw_S → Int → Option xw_S) => xw_grd (xw_r (s11.1 9 (i7_29).toNat) ∧ xw_r c2_29) (xw_if (c2_29 < s11.1 9 (i7_29).toNat) (j88 s11 i7_29)
     (xw_grd ((0 ≤ i7_29 + 1 ∧ i7_29 + 1 < ((240 : Nat) : Int))) (xw_grd (xw_r (s11.1 9 (i7_29 + 1).toNat)) (xw_if (s11.1 9 (i7_29 + 1).toNat ≤ c2_29) (j88 s11 i7_29)
     (xw_grd ((0 ≤ i7_29 + 2 ∧ i7_29 + 2 < ((240 : Nat) : Int))) (xw_bnd (f_MD_reach fu s11 c1_29 (s11.1 9 (i7_29 + 2).toNat) 1 d5_29) (fun s22 => j88 s22 i7_29))))))))))))
def f_MD_follow (fu : Nat) (s0 : xw_S) (p1 : Int) (p2 : Int) : Option xw_S :=
 xw_bn2 (f_MD_op fu s0 p1 p2) (fun s1 r3 => xw_grd ((0 ≤ p2 ∧ p2 < ((121 : Nat) : Int))) (xw_let (s1.1 15 (p2).toNat) (fun v5 => xw_let (s1.2 (p2).toNat) (fun v7 => xw_let (20 * p1) (fun v9 => xw_jn (fun (s28 : xw_S) (i3_94 : Int) (i4_94 : Int) (w5_94 : Int64) => xw_bn2 (f_MD_takes fu s28 p1 p2) (fun s29 r31 => xw_jn (fun (s36 : xw_S) (i3_110 : Int) (i4_110 : Int) (w5_110 : Int64) => xw_jn (fun (s47 : xw_S) (i3_137 : Int) (i4_137 : Int) (w5_137 : Int64) => xw_jn (fun (s56 : xw_S) (i3_159 : Int) (i4_159 : Int) (w5_159 : Int64) => xw_bn2 (f_MD_takes fu s56 p1 p2) (fun s57 r59 => xw_bn2 (f_MD_puts fu s57 i3_159) (fun s60 r62 => xw_let ((i4_159 - r59) + r62) (fun v63 => xw_jn (fun (s78 : xw_S) (i3_204 : Int) (w5_204 : Int64) (i7_204 : Int) => xw_grd (xw_r (s78.1 0 23)) (xw_if (s78.1 0 23 = 0) (some s78)
 (xw_bn2 (f_MD_ends fu s78 i3_204) (fun s81 r83 => xw_grd (xw_r r83) (xw_if (r83 = 0) (xw_bn2 (f_MD_sizeOf fu s81 i3_204) (fun s86 r88 => xw_bnd (f_MD_reach fu s86 p1 (p2 + r88) i7_204 w5_204) (fun s89 => some s89)))
 (some s81))))))
 (fun (j204 : xw_S → Int → Int64 → Int → Option xw_S) => xw_grd (xw_r (s60.1 0 23)) (xw_if (s60.1 0 23 = 0) (j204 s60 i3_159 w5_159 v63)
 (xw_bn2 (f_MD_branches fu s60 i3_159) (fun s67 r69 => xw_grd (xw_r r69) (xw_if (r69 = 0) (j204 s67 i3_159 w5_159 v63)
 (xw_bn2 (f_MD_target fu s67 p1 p2) (fun s72 r74 => xw_bnd (f_MD_reach fu s72 p1 r74 v63 w5_159) (fun s75 => j204 s75 i3_159 w5_159 v63))))))))))))
 (fun (j159 : xw_S → Int → Int → Int64 → Option xw_S) => xw_grd (xw_r i3_137) (xw_if (i3_137 = 3) (xw_bn2 (f_MD_op fu s47 p1 (p2 + 1)) (fun s50 r52 => xw_bn2 (f_MD_with fu s50 w5_137 r52 0) (fun s53 r55 => j159 s53 i3_137 i4_137 r55)))
 (j159 s47 i3_137 i4_137 w5_137))))
 (fun (j137 : xw_S → Int → Int → Int64 → Option xw_S) => xw_jn (fun (s40 : xw_S) (i3_121 : Int) (i4_121 : Int) (w5_121 : Int64) => xw_bn2 (f_MD_op fu s40 p1 (p2 + 1)) (fun s41 r43 => xw_bn2 (f_MD_with fu s41 w5_121 r43 1) (fun s44 r46 => j137 s44 i3_121 i4_121 w5_121)))
 (fun (j121 : xw_S → Int → Int → Int64 → Option xw_S) => xw_grd (xw_r i3_110) (xw_if (i3_110 = 2) (j121 s36 i3_110 i4_110 w5_110)
 (xw_if (i3_110 = 16) (j121 s36 i3_110 i4_110 w5_110)
 (j137 s36 i3_110 i4_110 w5_110))))))
 (fun (j110 : xw_S → Int → Int → Int64 → Option xw_S) => xw_grd (xw_r i4_94 ∧ xw_r r31) (xw_if (r31 ≤ i4_94) (j110 s29 i3_94 i4_94 w5_94)
 (xw_let (xw_st s29 0 23 0) (fun s34 => j110 s34 i3_94 i4_94 w5_94))))))
 (fun (k94 : xw_S → Int → Int → Int64 → Option xw_S) => lp_MD_follow_29 fu p1 p2 r3 v5 v7 k94 fu s1 v9))))))
set_option maxRecDepth 100000 in
set_option maxHeartbeats 4000000 in
theorem c_MD_follow (l : Launch) (D : va_G) (A : Nat → Prop) (ad : Nat → Nat) (cs : Nat → ClassId) (Z : va_W) (tt : Nat → Nat) (fu : Nat) (s0 sZ : xw_S) (p1 : Int) (p2 : Int) (h : f_MD_follow fu s0 p1 p2 = some sZ) : Met l y_MD_follow w_MD_follow ({ frames := 2, cells := 0, slots := 0, locals := 45 }) (va_Pc [.ref (ad 0), .int (xw_i p1), .int (xw_i p2)] (xw_H D vwCl A kdR 29 ad cs Z tt s0)) (va_Qv (fun u => u = sZ) (xw_H D vwCl A kdR 29 ad cs Z tt) A) 0 0 A := by
  refine Met.ofW (cc := b_MD_follow) (maxL := 8) (ret := none) (by decide) rfl ?_
  intro p e s m args below meth c s₁ B hml hv
  obtain ⟨rfl, hP, hK, hD, hX⟩ := hv
  have hx := B.exec
  have hb := B.bytes
  have hr := B.returns
  have hts0 := atoms_spec (ws := w_MD_follow) B.pre
  have hts := fun w (hw : w ∈ wAll) => hts0 w (List.mem_cons_of_mem _ hw)
  have hown : s.vm.findClass "AdviceWeaverModel" = some m.cls := findClass_of_methodNamed B.named
  have hlk := B.notSynchronized
  clear hts0 B
  have hS : va_S A s.heap s.heap [] := va_S.rf
  have hl := lv_entry [.ref (ad 0), .int (xw_i p1), .int (xw_i p2)] (n := 8) (Nat.le_of_ble_eq_true rfl)
  rw [lg_entry_eq]
  generalize (lg_sl [.ref (ad 0), .int (xw_i p1), .int (xw_i p2)] ++ List.replicate (8 - (lg_sl [.ref (ad 0), .int (xw_i p1), .int (xw_i p2)]).length) Slot.unset).toArray = ls at hl ⊢
  have hl : lv_has ls 8 [(0, .ref (ad 0)), (1, .int (xw_i p1)), (2, .int (xw_i p2))] := hl
  have hlp29 : ∀ (c1_29 : Int) (c2_29 : Int) (c3_29 : Int) (c4_29 : Int) (d5_29 : Int64) (k94 : xw_S → Int → Int → Int64 → Option xw_S) (hk94 : ∀ (sq : xw_S) (i3_94 : Int) (i4_94 : Int) (w5_94 : Int64), k94 sq i3_94 i4_94 w5_94 = some sZ → ∀ (H : Heap) (locs : List Loc) (ls : Array Slot), va_P D vwCl (xw_ws kdR 29 ad cs Z sq) H → va_S A s.heap H locs → lv_has ls 8 [(0, .ref (ad 0)), (1, .int (xw_i c1_29)), (2, .int (xw_i c2_29)), (3, .int (xw_i i3_94)), (4, .int (xw_i i4_94)), (5, .long w5_94)] → W p l e (headSpec w_MD_follow ({ frames := 2, cells := 0, slots := 0, locals := 45 })).room s m [.ref (ad 0), .int (xw_i p1), .int (xw_i p2)].toArray below meth c H locs 0 0 (MQ below (va_Qv (fun u => u = sZ) (xw_H D vwCl A kdR 29 ad cs Z tt) A) [.ref (ad 0), .int (xw_i p1), .int (xw_i p2)].toArray s 0 0 A) (F0 m 94 ls [])) (n : Nat), ∀ (sq : xw_S) (i7_29 : Int), lp_MD_follow_29 fu c1_29 c2_29 c3_29 c4_29 d5_29 k94 n sq i7_29 = some sZ → ∀ (H : Heap) (locs : List Loc) (ls : Array Slot), va_P D vwCl (xw_ws kdR 29 ad cs Z sq) H → va_S A s.heap H locs → lv_has ls 8 [(0, .ref (ad 0)), (1, .int (xw_i c1_29)), (2, .int (xw_i c2_29)), (3, .int (xw_i c3_29)), (4, .int (xw_i c4_29)), (5, .long d5_29), (7, .int (xw_i i7_29))] → W p l e (headSpec w_MD_follow ({ frames := 2, cells := 0, slots := 0, locals := 45 })).room s m [.ref (ad 0), .int (xw_i p1), .int (xw_i p2)].toArray below meth c H locs 0 0 (MQ below (va_Qv (fun u => u = sZ) (xw_H D vwCl A kdR 29 ad cs Z tt) A) [.ref (ad 0), .int (xw_i p1), .int (xw_i p2)].toArray s 0 0 A) (F0 m 29 ls []) := by
    intro c1_29 c2_29 c3_29 c4_29 d5_29 k94 hk94 n
    induction n with
    | zero =>
      intro sq i7_29 h
      cases (show (none : Option xw_S) = some sZ from h)
    | succ n ih29 =>
      intro s11 i7_29 h H locs ls hP hS hl
      unfold lp_MD_follow_29 at h
      refine lv_iload hx hb d_MD_follow_29 (lv_at hl 6 rfl) ?_
      refine lv_bipush (v := xw_i 20) hx hb d_MD_follow_31 (by decide) ?_
      refine lv_iload_n hx hb d_MD_follow_33 rfl (lv_at hl 1 rfl) ?_
      refine xw_imul hx hb d_MD_follow_34 ?_
      refine lv_iconst (v := xw_i 4) hx hb d_MD_follow_35 rfl ?_
      refine lv_aload_n hx hb d_MD_follow_36 rfl (lv_at hl 0 rfl) ?_
      refine xw_getR (C := "AdviceWeaverModel") (T := T_MD) hx hb hts hin_MD hown hK hP (by decide) kr_MD (by decide) rfl 8 (by decide) (hts _ hw_449) (fun _ h9 => h9) rfl d_MD_follow_37 ?_
      refine lv_iload_n hx hb d_MD_follow_40 rfl (lv_at hl 1 rfl) ?_
      obtain ⟨hg12, h⟩ := xw_grdI h
      refine xw_iald hx hb hK hP (by decide) kr_m_handlers (by decide) hg12 d_MD_follow_41 ?_
      refine xw_imul hx hb d_MD_follow_42 ?_
      refine xw_iadd hx hb d_MD_follow_43 ?_
      obtain ⟨hg13, h⟩ := xw_grdI h
      refine xw_icmp_ge (tgt := 94) hx hb hg13.1 hg13.2 d_MD_follow_44 (by decide) (fun hc14 => ?_) (fun hc14 => ?_)
      · replace h := xw_ifT hc14 h
        exact hk94 s11 c3_29 c4_29 d5_29 h _ _ _ hP hS (lv_sub hl [0, 1, 2, 3, 4, 5] rfl)
      · replace h := xw_ifF hc14 h
        refine lv_aload_n hx hb d_MD_follow_47 rfl (lv_at hl 0 rfl) ?_
        refine xw_getR (C := "AdviceWeaverModel") (T := T_MD) hx hb hts hin_MD hown hK hP (by decide) kr_MD (by decide) rfl 9 (by decide) (hts _ hw_450) (fun _ h9 => h9) rfl d_MD_follow_48 ?_
        refine lv_iload hx hb d_MD_follow_51 (lv_at hl 6 rfl) ?_
        obtain ⟨hg15, h⟩ := xw_grdI h
        refine xw_iald hx hb hK hP (by decide) kr_m_handler (by decide) hg15 d_MD_follow_53 ?_
        refine lv_iload_n hx hb d_MD_follow_54 rfl (lv_at hl 2 rfl) ?_
        refine xw_jnI (fun j => ∀ (sq : xw_S) (i7_88 : Int), j sq i7_88 = some sZ → ∀ (H : Heap) (locs : List Loc) (ls : Array Slot), va_P D vwCl (xw_ws kdR 29 ad cs Z sq) H → va_S A s.heap H locs → lv_has ls 8 [(0, .ref (ad 0)), (1, .int (xw_i c1_29)), (2, .int (xw_i c2_29)), (3, .int (xw_i c3_29)), (4, .int (xw_i c4_29)), (5, .long d5_29), (7, .int (xw_i i7_88))] → W p l e (headSpec w_MD_follow ({ frames := 2, cells := 0, slots := 0, locals := 45 })).room s m [.ref (ad 0), .int (xw_i p1), .int (xw_i p2)].toArray below meth c H locs 0 0 (MQ below (va_Qv (fun u => u = sZ) (xw_H D vwCl A kdR 29 ad cs Z tt) A) [.ref (ad 0), .int (xw_i p1), .int (xw_i p2)].toArray s 0 0 A) (F0 m 88 ls [])) h ?_ ?_
        · intro s25 i7_88 h H locs ls hP hS hl
          obtain ⟨v26, e27⟩ : ∃ z, z = i7_88 + 4 := ⟨_, rfl⟩
          replace h := xw_letI e27 h
          refine xw_iinc (lv' := [(7, .int (xw_i v26)), (0, .ref (ad 0)), (1, .int (xw_i c1_29)), (2, .int (xw_i c2_29)), (3, .int (xw_i c3_29)), (4, .int (xw_i c4_29)), (5, .long d5_29)]) hx hb d_MD_follow_88 hl (k := 6) rfl (by decide) (by rw [e27]; rfl) (fun ls hl => ?_)
          refine lv_goto (tgt := 29) hx hb d_MD_follow_91 (by decide) ?_
          exact ih29 s25 v26 h _ _ _ hP hS (lv_sub hl [1, 2, 3, 4, 5, 6, 0] rfl)
        · intro j88 hj88 h
          obtain ⟨hg16, h⟩ := xw_grdI h
          refine xw_icmp_gt (tgt := 88) hx hb hg16.1 hg16.2 d_MD_follow_55 (by decide) (fun hc17 => ?_) (fun hc17 => ?_)
          · replace h := xw_ifT hc17 h
            exact hj88 s11 i7_29 h _ _ _ hP hS (lv_sub hl [0, 1, 2, 3, 4, 5, 6] rfl)
          · replace h := xw_ifF hc17 h
            refine lv_iload_n hx hb d_MD_follow_58 rfl (lv_at hl 2 rfl) ?_
            refine lv_aload_n hx hb d_MD_follow_59 rfl (lv_at hl 0 rfl) ?_
            refine xw_getR (C := "AdviceWeaverModel") (T := T_MD) hx hb hts hin_MD hown hK hP (by decide) kr_MD (by decide) rfl 9 (by decide) (hts _ hw_450) (fun _ h9 => h9) rfl d_MD_follow_60 ?_
            refine lv_iload hx hb d_MD_follow_63 (lv_at hl 6 rfl) ?_
            refine lv_iconst (v := xw_i 1) hx hb d_MD_follow_65 rfl ?_
            refine xw_iadd hx hb d_MD_follow_66 ?_
            obtain ⟨hg18, h⟩ := xw_grdI h
            refine xw_iald hx hb hK hP (by decide) kr_m_handler (by decide) hg18 d_MD_follow_67 ?_
            obtain ⟨hg19, h⟩ := xw_grdI h
            refine xw_icmp_ge (tgt := 88) hx hb hg16.2 hg19 d_MD_follow_68 (by decide) (fun hc20 => ?_) (fun hc20 => ?_)
            · replace h := xw_ifT hc20 h
              exact hj88 s11 i7_29 h _ _ _ hP hS (lv_sub hl [0, 1, 2, 3, 4, 5, 6] rfl)
            · replace h := xw_ifF hc20 h
              refine lv_aload_n hx hb d_MD_follow_71 rfl (lv_at hl 0 rfl) ?_
              refine lv_iload_n hx hb d_MD_follow_72 rfl (lv_at hl 1 rfl) ?_
              refine lv_aload_n hx hb d_MD_follow_73 rfl (lv_at hl 0 rfl) ?_
              refine xw_getR (C := "AdviceWeaverModel") (T := T_MD) hx hb hts hin_MD hown hK hP (by decide) kr_MD (by decide) rfl 9 (by decide) (hts _ hw_450) (fun _ h9 => h9) rfl d_MD_follow_74 ?_
              refine lv_iload hx hb d_MD_follow_77 (lv_at hl 6 rfl) ?_
              refine lv_iconst (v := xw_i 2) hx hb d_MD_follow_79 rfl ?_
              refine xw_iadd hx hb d_MD_follow_80 ?_
              obtain ⟨hg21, h⟩ := xw_grdI h
              refine xw_iald hx hb hK hP (by decide) kr_m_handler (by decide) hg21 d_MD_follow_81 ?_
              refine lv_iconst (v := xw_i 1) hx hb d_MD_follow_82 rfl ?_
              refine lv_lload hx hb d_MD_follow_83 (lv_at hl 5 rfl) ?_
              obtain ⟨s22, hc23, h⟩ := xw_bndI h
              refine xw_callVv (C := "AdviceWeaverModel") (T := T_MD) ⟨hx, hb, hml, hown, hts⟩ (c_MD_reach l D A ad cs Z tt fu s11 s22 c1_29 (s11.1 9 (i7_29 + 2).toNat) 1 d5_29 hc23) (cwV 4 hts (gd_V hw_483 hw_484 hw_485 hw_433 hw_486) rfl rfl rfl (by decide +kernel) ⟨Nat.le_of_ble_eq_true rfl, Nat.le_of_ble_eq_true rfl⟩) hP hK hD hX hS (by decide) kr_MD (by decide) rfl rfl hl.1 rfl (Nat.le_of_ble_eq_true rfl) d_MD_follow_85 (fun H locs hP hS => ?_)
              exact hj88 s22 i7_29 h _ _ _ hP hS (lv_sub hl [0, 1, 2, 3, 4, 5, 6] rfl)
  unfold f_MD_follow at h
  refine lv_aload_n hx hb d_MD_follow_0 rfl (lv_at hl 0 rfl) ?_
  refine lv_iload_n hx hb d_MD_follow_1 rfl (lv_at hl 1 rfl) ?_
  refine lv_iload_n hx hb d_MD_follow_2 rfl (lv_at hl 2 rfl) ?_
  obtain ⟨s1, r3, hc2, h⟩ := xw_bn2I h
  refine xw_callVi (C := "AdviceWeaverModel") (T := T_MD) ⟨hx, hb, hml, hown, hts⟩ (c_MD_op l D A ad cs Z tt fu s0 s1 p1 p2 r3 hc2) (cwV 2 hts (gd_V hw_452 hw_453 hw_454 hw_433 hw_455) rfl rfl rfl (by decide +kernel) ⟨Nat.le_of_ble_eq_true rfl, Nat.le_of_ble_eq_true rfl⟩) hP hK hD hX hS (by decide) kr_MD (by decide) rfl rfl hl.1 rfl (Nat.le_of_ble_eq_true rfl) d_MD_follow_3 (fun H locs hP hS => ?_)
  refine lv_istore_n hx hb d_MD_follow_6 rfl hl (by decide) rfl (fun ls hl => ?_)
  refine lv_aload_n hx hb d_MD_follow_7 rfl (lv_at hl 1 rfl) ?_
  refine xw_getR (C := "AdviceWeaverModel") (T := T_MD) hx hb hts hin_MD hown hK hP (by decide) kr_MD (by decide) rfl 21 (by decide) (hts _ hw_479) (fun _ h9 => h9) rfl d_MD_follow_8 ?_
  refine lv_iload_n hx hb d_MD_follow_11 rfl (lv_at hl 3 rfl) ?_
  obtain ⟨hg4, h⟩ := xw_grdI h
  refine xw_iald hx hb hK hP (by decide) kr_m_depths (by decide) hg4 d_MD_follow_12 ?_
  refine xw_topi (fun v5 e6 => ?_)
  replace h := xw_letI e6 h
  refine lv_istore hx hb d_MD_follow_13 hl (by decide) rfl (fun ls hl => ?_)
  refine lv_aload_n hx hb d_MD_follow_15 rfl (lv_at hl 2 rfl) ?_
  refine xw_getR (C := "AdviceWeaverModel") (T := T_MD) hx hb hts hin_MD hown hK hP (by decide) kr_MD (by decide) rfl 22 (by decide) (hts _ hw_481) (fun _ h9 => h9) rfl d_MD_follow_16 ?_
  refine lv_iload_n hx hb d_MD_follow_19 rfl (lv_at hl 4 rfl) ?_
  refine xw_lald hx hb hK hP (by decide) kr_m_sets (by decide) hg4 d_MD_follow_20 ?_
  refine lv_topl (fun v7 e8 => ?_)
  replace h := xw_letI e8 h
  refine lv_lstore hx hb d_MD_follow_21 hl (by decide) rfl (fun ls hl => ?_)
  refine lv_bipush (v := xw_i 20) hx hb d_MD_follow_23 (by decide) ?_
  refine lv_iload_n hx hb d_MD_follow_25 rfl (lv_at hl 4 rfl) ?_
  refine xw_imul hx hb d_MD_follow_26 ?_
  refine xw_topi (fun v9 e10 => ?_)
  replace h := xw_letI e10 h
  refine lv_istore hx hb d_MD_follow_27 hl (by decide) rfl (fun ls hl => ?_)
  refine xw_jnI (fun j => ∀ (sq : xw_S) (i3_94 : Int) (i4_94 : Int) (w5_94 : Int64), j sq i3_94 i4_94 w5_94 = some sZ → ∀ (H : Heap) (locs : List Loc) (ls : Array Slot), va_P D vwCl (xw_ws kdR 29 ad cs Z sq) H → va_S A s.heap H locs → lv_has ls 8 [(0, .ref (ad 0)), (1, .int (xw_i p1)), (2, .int (xw_i p2)), (3, .int (xw_i i3_94)), (4, .int (xw_i i4_94)), (5, .long w5_94)] → W p l e (headSpec w_MD_follow ({ frames := 2, cells := 0, slots := 0, locals := 45 })).room s m [.ref (ad 0), .int (xw_i p1), .int (xw_i p2)].toArray below meth c H locs 0 0 (MQ below (va_Qv (fun u => u = sZ) (xw_H D vwCl A kdR 29 ad cs Z tt) A) [.ref (ad 0), .int (xw_i p1), .int (xw_i p2)].toArray s 0 0 A) (F0 m 94 ls [])) h ?_ ?_
  · intro s28 i3_94 i4_94 w5_94 h H locs ls hP hS hl
    refine lv_iload hx hb d_MD_follow_94 (lv_at hl 4 rfl) ?_
    refine lv_aload_n hx hb d_MD_follow_96 rfl (lv_at hl 0 rfl) ?_
    refine lv_iload_n hx hb d_MD_follow_97 rfl (lv_at hl 1 rfl) ?_
    refine lv_iload_n hx hb d_MD_follow_98 rfl (lv_at hl 2 rfl) ?_
    obtain ⟨s29, r31, hc30, h⟩ := xw_bn2I h
    refine xw_callVi (C := "AdviceWeaverModel") (T := T_MD) ⟨hx, hb, hml, hown, hts⟩ (c_MD_takes l D A ad cs Z tt fu s28 s29 p1 p2 r31 hc30) (cwV 2 hts (gd_V hw_487 hw_488 hw_489 hw_433 hw_490) rfl rfl rfl (by decide +kernel) ⟨Nat.le_of_ble_eq_true rfl, Nat.le_of_ble_eq_true rfl⟩) hP hK hD hX hS (by decide) kr_MD (by decide) rfl rfl hl.1 rfl (Nat.le_of_ble_eq_true rfl) d_MD_follow_99 (fun H locs hP hS => ?_)
    refine xw_jnI (fun j => ∀ (sq : xw_S) (i3_110 : Int) (i4_110 : Int) (w5_110 : Int64), j sq i3_110 i4_110 w5_110 = some sZ → ∀ (H : Heap) (locs : List Loc) (ls : Array Slot), va_P D vwCl (xw_ws kdR 29 ad cs Z sq) H → va_S A s.heap H locs → lv_has ls 8 [(0, .ref (ad 0)), (1, .int (xw_i p1)), (2, .int (xw_i p2)), (3, .int (xw_i i3_110)), (4, .int (xw_i i4_110)), (5, .long w5_110)] → W p l e (headSpec w_MD_follow ({ frames := 2, cells := 0, slots := 0, locals := 45 })).room s m [.ref (ad 0), .int (xw_i p1), .int (xw_i p2)].toArray below meth c H locs 0 0 (MQ below (va_Qv (fun u => u = sZ) (xw_H D vwCl A kdR 29 ad cs Z tt) A) [.ref (ad 0), .int (xw_i p1), .int (xw_i p2)].toArray s 0 0 A) (F0 m 110 ls [])) h ?_ ?_
    · intro s36 i3_110 i4_110 w5_110 h H locs ls hP hS hl
      refine lv_iload_n hx hb d_MD_follow_110 rfl (lv_at hl 3 rfl) ?_
      refine lv_iconst (v := xw_i 2) hx hb d_MD_follow_111 rfl ?_
      refine xw_jnI (fun j => ∀ (sq : xw_S) (i3_137 : Int) (i4_137 : Int) (w5_137 : Int64), j sq i3_137 i4_137 w5_137 = some sZ → ∀ (H : Heap) (locs : List Loc) (ls : Array Slot), va_P D vwCl (xw_ws kdR 29 ad cs Z sq) H → va_S A s.heap H locs → lv_has ls 8 [(0, .ref (ad 0)), (1, .int (xw_i p1)), (2, .int (xw_i p2)), (3, .int (xw_i i3_137)), (4, .int (xw_i i4_137)), (5, .long w5_137)] → W p l e (headSpec w_MD_follow ({ frames := 2, cells := 0, slots := 0, locals := 45 })).room s m [.ref (ad 0), .int (xw_i p1), .int (xw_i p2)].toArray below meth c H locs 0 0 (MQ below (va_Qv (fun u => u = sZ) (xw_H D vwCl A kdR 29 ad cs Z tt) A) [.ref (ad 0), .int (xw_i p1), .int (xw_i p2)].toArray s 0 0 A) (F0 m 137 ls [])) h ?_ ?_
      · intro s47 i3_137 i4_137 w5_137 h H locs ls hP hS hl
        refine lv_iload_n hx hb d_MD_follow_137 rfl (lv_at hl 3 rfl) ?_
        refine lv_iconst (v := xw_i 3) hx hb d_MD_follow_138 rfl ?_
        refine xw_jnI (fun j => ∀ (sq : xw_S) (i3_159 : Int) (i4_159 : Int) (w5_159 : Int64), j sq i3_159 i4_159 w5_159 = some sZ → ∀ (H : Heap) (locs : List Loc) (ls : Array Slot), va_P D vwCl (xw_ws kdR 29 ad cs Z sq) H → va_S A s.heap H locs → lv_has ls 8 [(0, .ref (ad 0)), (1, .int (xw_i p1)), (2, .int (xw_i p2)), (3, .int (xw_i i3_159)), (4, .int (xw_i i4_159)), (5, .long w5_159)] → W p l e (headSpec w_MD_follow ({ frames := 2, cells := 0, slots := 0, locals := 45 })).room s m [.ref (ad 0), .int (xw_i p1), .int (xw_i p2)].toArray below meth c H locs 0 0 (MQ below (va_Qv (fun u => u = sZ) (xw_H D vwCl A kdR 29 ad cs Z tt) A) [.ref (ad 0), .int (xw_i p1), .int (xw_i p2)].toArray s 0 0 A) (F0 m 159 ls [])) h ?_ ?_
        · intro s56 i3_159 i4_159 w5_159 h H locs ls hP hS hl
          refine lv_iload hx hb d_MD_follow_159 (lv_at hl 4 rfl) ?_
          refine lv_aload_n hx hb d_MD_follow_161 rfl (lv_at hl 0 rfl) ?_
          refine lv_iload_n hx hb d_MD_follow_162 rfl (lv_at hl 1 rfl) ?_
          refine lv_iload_n hx hb d_MD_follow_163 rfl (lv_at hl 2 rfl) ?_
          obtain ⟨s57, r59, hc58, h⟩ := xw_bn2I h
          refine xw_callVi (C := "AdviceWeaverModel") (T := T_MD) ⟨hx, hb, hml, hown, hts⟩ (c_MD_takes l D A ad cs Z tt fu s56 s57 p1 p2 r59 hc58) (cwV 2 hts (gd_V hw_487 hw_488 hw_489 hw_433 hw_490) rfl rfl rfl (by decide +kernel) ⟨Nat.le_of_ble_eq_true rfl, Nat.le_of_ble_eq_true rfl⟩) hP hK hD hX hS (by decide) kr_MD (by decide) rfl rfl hl.1 rfl (Nat.le_of_ble_eq_true rfl) d_MD_follow_164 (fun H locs hP hS => ?_)
          refine xw_isub hx hb d_MD_follow_167 ?_
          refine lv_iload_n hx hb d_MD_follow_168 rfl (lv_at hl 3 rfl) ?_
          obtain ⟨s60, r62, hc61, h⟩ := xw_bn2I h
          refine xw_callSi ⟨hx, hb, hml, hown, hts⟩ (c_MD_puts l D A ad cs Z tt fu s57 s60 i3_159 r62 hc61) (va_cwS 1 hts (gd_S hw_495 hw_496 hw_433 hw_497) rfl rfl rfl (by decide +kernel) ⟨Nat.le_of_ble_eq_true rfl, Nat.le_of_ble_eq_true rfl⟩) hP hK hD hX hS rfl hl.1 rfl (Nat.le_of_ble_eq_true rfl) d_MD_follow_169 (fun H locs hP hS => ?_)
          refine xw_iadd hx hb d_MD_follow_172 ?_
          refine xw_topi (fun v63 e64 => ?_)
          replace h := xw_letI e64 h
          refine lv_istore hx hb d_MD_follow_173 hl (by decide) rfl (fun ls hl => ?_)
          refine lv_aload_n hx hb d_MD_follow_175 rfl (lv_at hl 1 rfl) ?_
          refine xw_getI (C := "AdviceWeaverModel") (T := T_MD) hx hb hts hin_MD hown hK hP (by decide) kr_MD (by decide) rfl 23 (by decide) (hts _ hw_482) (fun _ h9 => h9) rfl d_MD_follow_176 ?_
          refine xw_jnI (fun j => ∀ (sq : xw_S) (i3_204 : Int) (w5_204 : Int64) (i7_204 : Int), j sq i3_204 w5_204 i7_204 = some sZ → ∀ (H : Heap) (locs : List Loc) (ls : Array Slot), va_P D vwCl (xw_ws kdR 29 ad cs Z sq) H → va_S A s.heap H locs → lv_has ls 8 [(0, .ref (ad 0)), (1, .int (xw_i p1)), (2, .int (xw_i p2)), (3, .int (xw_i i3_204)), (5, .long w5_204), (7, .int (xw_i i7_204))] → W p l e (headSpec w_MD_follow ({ frames := 2, cells := 0, slots := 0, locals := 45 })).room s m [.ref (ad 0), .int (xw_i p1), .int (xw_i p2)].toArray below meth c H locs 0 0 (MQ below (va_Qv (fun u => u = sZ) (xw_H D vwCl A kdR 29 ad cs Z tt) A) [.ref (ad 0), .int (xw_i p1), .int (xw_i p2)].toArray s 0 0 A) (F0 m 204 ls [])) h ?_ ?_
          · intro s78 i3_204 w5_204 i7_204 h H locs ls hP hS hl
            refine lv_aload_n hx hb d_MD_follow_204 rfl (lv_at hl 0 rfl) ?_
            refine xw_getI (C := "AdviceWeaverModel") (T := T_MD) hx hb hts hin_MD hown hK hP (by decide) kr_MD (by decide) rfl 23 (by decide) (hts _ hw_482) (fun _ h9 => h9) rfl d_MD_follow_205 ?_
            obtain ⟨hg79, h⟩ := xw_grdI h
            refine xw_if_eq (tgt := 233) hx hb hg79 d_MD_follow_208 (by decide) (fun hc80 => ?_) (fun hc80 => ?_)
            · replace h := xw_ifT hc80 h
              exact xw_vretE hx hb hr hlk hP hK hD hX hS h d_MD_follow_233
            · replace h := xw_ifF hc80 h
              refine lv_iload_n hx hb d_MD_follow_211 rfl (lv_at hl 3 rfl) ?_
              obtain ⟨s81, r83, hc82, h⟩ := xw_bn2I h
              refine xw_callSi ⟨hx, hb, hml, hown, hts⟩ (c_MD_ends l D A ad cs Z tt fu s78 s81 i3_204 r83 hc82) (va_cwS 1 hts (gd_S hw_498 hw_499 hw_433 hw_500) rfl rfl rfl (by decide +kernel) ⟨Nat.le_of_ble_eq_true rfl, Nat.le_of_ble_eq_true rfl⟩) hP hK hD hX hS rfl hl.1 rfl (Nat.le_of_ble_eq_true rfl) d_MD_follow_212 (fun H locs hP hS => ?_)
              obtain ⟨hg84, h⟩ := xw_grdI h
              refine xw_if_ne (tgt := 233) hx hb hg84 d_MD_follow_215 (by decide) (fun hc85 => ?_) (fun hc85 => ?_)
              · replace h := xw_ifF hc85 h
                exact xw_vretE hx hb hr hlk hP hK hD hX hS h d_MD_follow_233
              · replace h := xw_ifT hc85 h
                refine lv_aload_n hx hb d_MD_follow_218 rfl (lv_at hl 0 rfl) ?_
                refine lv_iload_n hx hb d_MD_follow_219 rfl (lv_at hl 1 rfl) ?_
                refine lv_iload_n hx hb d_MD_follow_220 rfl (lv_at hl 2 rfl) ?_
                refine lv_iload_n hx hb d_MD_follow_221 rfl (lv_at hl 3 rfl) ?_
                obtain ⟨s86, r88, hc87, h⟩ := xw_bn2I h
                refine xw_callSi ⟨hx, hb, hml, hown, hts⟩ (c_MD_sizeOf l D A ad cs Z tt fu s81 s86 i3_204 r88 hc87) (va_cwS 1 hts (gd_S hw_456 hw_457 hw_433 hw_458) rfl rfl rfl (by decide +kernel) ⟨Nat.le_of_ble_eq_true rfl, Nat.le_of_ble_eq_true rfl⟩) hP hK hD hX hS rfl hl.1 rfl (Nat.le_of_ble_eq_true rfl) d_MD_follow_222 (fun H locs hP hS => ?_)
                refine xw_iadd hx hb d_MD_follow_225 ?_
                refine lv_iload hx hb d_MD_follow_226 (lv_at hl 5 rfl) ?_
                refine lv_lload hx hb d_MD_follow_228 (lv_at hl 4 rfl) ?_
                obtain ⟨s89, hc90, h⟩ := xw_bndI h
                refine xw_callVv (C := "AdviceWeaverModel") (T := T_MD) ⟨hx, hb, hml, hown, hts⟩ (c_MD_reach l D A ad cs Z tt fu s86 s89 p1 (p2 + r88) i7_204 w5_204 hc90) (cwV 4 hts (gd_V hw_483 hw_484 hw_485 hw_433 hw_486) rfl rfl rfl (by decide +kernel) ⟨Nat.le_of_ble_eq_true rfl, Nat.le_of_ble_eq_true rfl⟩) hP hK hD hX hS (by decide) kr_MD (by decide) rfl rfl hl.1 rfl (Nat.le_of_ble_eq_true rfl) d_MD_follow_230 (fun H locs hP hS => ?_)
                exact xw_vretE hx hb hr hlk hP hK hD hX hS h d_MD_follow_233
          · intro j204 hj204 h
            obtain ⟨hg65, h⟩ := xw_grdI h
            refine xw_if_eq (tgt := 204) hx hb hg65 d_MD_follow_179 (by decide) (fun hc66 => ?_) (fun hc66 => ?_)
            · replace h := xw_ifT hc66 h
              exact hj204 s60 i3_159 w5_159 v63 h _ _ _ hP hS (lv_sub hl [1, 2, 3, 4, 6, 0] rfl)
            · replace h := xw_ifF hc66 h
              refine lv_iload_n hx hb d_MD_follow_182 rfl (lv_at hl 4 rfl) ?_
              obtain ⟨s67, r69, hc68, h⟩ := xw_bn2I h
              refine xw_callSi ⟨hx, hb, hml, hown, hts⟩ (c_MD_branches l D A ad cs Z tt fu s60 s67 i3_159 r69 hc68) (va_cwS 1 hts (gd_S hw_467 hw_468 hw_433 hw_469) rfl rfl rfl (by decide +kernel) ⟨Nat.le_of_ble_eq_true rfl, Nat.le_of_ble_eq_true rfl⟩) hP hK hD hX hS rfl hl.1 rfl (Nat.le_of_ble_eq_true rfl) d_MD_follow_183 (fun H locs hP hS => ?_)
              obtain ⟨hg70, h⟩ := xw_grdI h
              refine xw_if_eq (tgt := 204) hx hb hg70 d_MD_follow_186 (by decide) (fun hc71 => ?_) (fun hc71 => ?_)
              · replace h := xw_ifT hc71 h
                exact hj204 s67 i3_159 w5_159 v63 h _ _ _ hP hS (lv_sub hl [1, 2, 3, 4, 6, 0] rfl)
              · replace h := xw_ifF hc71 h
                refine lv_aload_n hx hb d_MD_follow_189 rfl (lv_at hl 1 rfl) ?_
                refine lv_iload_n hx hb d_MD_follow_190 rfl (lv_at hl 2 rfl) ?_
                refine lv_aload_n hx hb d_MD_follow_191 rfl (lv_at hl 1 rfl) ?_
                refine lv_iload_n hx hb d_MD_follow_192 rfl (lv_at hl 2 rfl) ?_
                refine lv_iload_n hx hb d_MD_follow_193 rfl (lv_at hl 3 rfl) ?_
                obtain ⟨s72, r74, hc73, h⟩ := xw_bn2I h
                refine xw_callVi (C := "AdviceWeaverModel") (T := T_MD) ⟨hx, hb, hml, hown, hts⟩ (c_MD_target l D A ad cs Z tt fu s67 s72 p1 p2 r74 hc73) (cwV 2 hts (gd_V hw_470 hw_471 hw_472 hw_433 hw_473) rfl rfl rfl (by decide +kernel) ⟨Nat.le_of_ble_eq_true rfl, Nat.le_of_ble_eq_true rfl⟩) hP hK hD hX hS (by decide) kr_MD (by decide) rfl rfl hl.1 rfl (Nat.le_of_ble_eq_true rfl) d_MD_follow_194 (fun H locs hP hS => ?_)
                refine lv_iload hx hb d_MD_follow_197 (lv_at hl 0 rfl) ?_
                refine lv_lload hx hb d_MD_follow_199 (lv_at hl 6 rfl) ?_
                obtain ⟨s75, hc76, h⟩ := xw_bndI h
                refine xw_callVv (C := "AdviceWeaverModel") (T := T_MD) ⟨hx, hb, hml, hown, hts⟩ (c_MD_reach l D A ad cs Z tt fu s72 s75 p1 r74 v63 w5_159 hc76) (cwV 4 hts (gd_V hw_483 hw_484 hw_485 hw_433 hw_486) rfl rfl rfl (by decide +kernel) ⟨Nat.le_of_ble_eq_true rfl, Nat.le_of_ble_eq_true rfl⟩) hP hK hD hX hS (by decide) kr_MD (by decide) rfl rfl hl.1 rfl (Nat.le_of_ble_eq_true rfl) d_MD_follow_201 (fun H locs hP hS => ?_)
                exact hj204 s75 i3_159 w5_159 v63 h _ _ _ hP hS (lv_sub hl [1, 2, 3, 4, 6, 0] rfl)
        · intro j159 hj159 h
          obtain ⟨hg48, h⟩ := xw_grdI h
          refine xw_icmp_ne (tgt := 159) hx hb hg48 (by decide) d_MD_follow_139 (by decide) (fun hc49 => ?_) (fun hc49 => ?_)
          · replace h := xw_ifF hc49 h
            exact hj159 s47 i3_137 i4_137 w5_137 h _ _ _ hP hS (lv_sub hl [0, 1, 2, 3, 4, 5] rfl)
          · replace h := xw_ifT hc49 h
            refine lv_aload_n hx hb d_MD_follow_142 rfl (lv_at hl 0 rfl) ?_
            refine lv_lload hx hb d_MD_follow_143 (lv_at hl 5 rfl) ?_
            refine lv_aload_n hx hb d_MD_follow_145 rfl (lv_at hl 0 rfl) ?_
            refine lv_iload_n hx hb d_MD_follow_146 rfl (lv_at hl 1 rfl) ?_
            refine lv_iload_n hx hb d_MD_follow_147 rfl (lv_at hl 2 rfl) ?_
            refine lv_iconst (v := xw_i 1) hx hb d_MD_follow_148 rfl ?_
            refine xw_iadd hx hb d_MD_follow_149 ?_
            obtain ⟨s50, r52, hc51, h⟩ := xw_bn2I h
            refine xw_callVi (C := "AdviceWeaverModel") (T := T_MD) ⟨hx, hb, hml, hown, hts⟩ (c_MD_op l D A ad cs Z tt fu s47 s50 p1 (p2 + 1) r52 hc51) (cwV 2 hts (gd_V hw_452 hw_453 hw_454 hw_433 hw_455) rfl rfl rfl (by decide +kernel) ⟨Nat.le_of_ble_eq_true rfl, Nat.le_of_ble_eq_true rfl⟩) hP hK hD hX hS (by decide) kr_MD (by decide) rfl rfl hl.1 rfl (Nat.le_of_ble_eq_true rfl) d_MD_follow_150 (fun H locs hP hS => ?_)
            refine lv_iconst (v := xw_i 0) hx hb d_MD_follow_153 rfl ?_
            obtain ⟨s53, r55, hc54, h⟩ := xw_bn2I h
            refine xw_callVl (C := "AdviceWeaverModel") (T := T_MD) ⟨hx, hb, hml, hown, hts⟩ (c_MD_with l D A ad cs Z tt fu s50 s53 w5_137 r52 0 r55 hc54) (cwV 3 hts (gd_V hw_491 hw_492 hw_493 hw_433 hw_494) rfl rfl rfl (by decide +kernel) ⟨Nat.le_of_ble_eq_true rfl, Nat.le_of_ble_eq_true rfl⟩) hP hK hD hX hS (by decide) kr_MD (by decide) rfl rfl hl.1 rfl (Nat.le_of_ble_eq_true rfl) d_MD_follow_154 (fun H locs hP hS => ?_)
            refine lv_lstore hx hb d_MD_follow_157 hl (by decide) rfl (fun ls hl => ?_)
            exact hj159 s53 i3_137 i4_137 r55 h _ _ _ hP hS (lv_sub hl [1, 2, 3, 4, 5, 0] rfl)
      · intro j137 hj137 h
        refine xw_jnI (fun j => ∀ (sq : xw_S) (i3_121 : Int) (i4_121 : Int) (w5_121 : Int64), j sq i3_121 i4_121 w5_121 = some sZ → ∀ (H : Heap) (locs : List Loc) (ls : Array Slot), va_P D vwCl (xw_ws kdR 29 ad cs Z sq) H → va_S A s.heap H locs → lv_has ls 8 [(0, .ref (ad 0)), (1, .int (xw_i p1)), (2, .int (xw_i p2)), (3, .int (xw_i i3_121)), (4, .int (xw_i i4_121)), (5, .long w5_121)] → W p l e (headSpec w_MD_follow ({ frames := 2, cells := 0, slots := 0, locals := 45 })).room s m [.ref (ad 0), .int (xw_i p1), .int (xw_i p2)].toArray below meth c H locs 0 0 (MQ below (va_Qv (fun u => u = sZ) (xw_H D vwCl A kdR 29 ad cs Z tt) A) [.ref (ad 0), .int (xw_i p1), .int (xw_i p2)].toArray s 0 0 A) (F0 m 121 ls [])) h ?_ ?_
        · intro s40 i3_121 i4_121 w5_121 h H locs ls hP hS hl
          refine lv_aload_n hx hb d_MD_follow_121 rfl (lv_at hl 0 rfl) ?_
          refine lv_lload hx hb d_MD_follow_122 (lv_at hl 5 rfl) ?_
          refine lv_aload_n hx hb d_MD_follow_124 rfl (lv_at hl 0 rfl) ?_
          refine lv_iload_n hx hb d_MD_follow_125 rfl (lv_at hl 1 rfl) ?_
          refine lv_iload_n hx hb d_MD_follow_126 rfl (lv_at hl 2 rfl) ?_
          refine lv_iconst (v := xw_i 1) hx hb d_MD_follow_127 rfl ?_
          refine xw_iadd hx hb d_MD_follow_128 ?_
          obtain ⟨s41, r43, hc42, h⟩ := xw_bn2I h
          refine xw_callVi (C := "AdviceWeaverModel") (T := T_MD) ⟨hx, hb, hml, hown, hts⟩ (c_MD_op l D A ad cs Z tt fu s40 s41 p1 (p2 + 1) r43 hc42) (cwV 2 hts (gd_V hw_452 hw_453 hw_454 hw_433 hw_455) rfl rfl rfl (by decide +kernel) ⟨Nat.le_of_ble_eq_true rfl, Nat.le_of_ble_eq_true rfl⟩) hP hK hD hX hS (by decide) kr_MD (by decide) rfl rfl hl.1 rfl (Nat.le_of_ble_eq_true rfl) d_MD_follow_129 (fun H locs hP hS => ?_)
          refine lv_iconst (v := xw_i 1) hx hb d_MD_follow_132 rfl ?_
          obtain ⟨s44, r46, hc45, h⟩ := xw_bn2I h
          refine xw_callVl (C := "AdviceWeaverModel") (T := T_MD) ⟨hx, hb, hml, hown, hts⟩ (c_MD_with l D A ad cs Z tt fu s41 s44 w5_121 r43 1 r46 hc45) (cwV 3 hts (gd_V hw_491 hw_492 hw_493 hw_433 hw_494) rfl rfl rfl (by decide +kernel) ⟨Nat.le_of_ble_eq_true rfl, Nat.le_of_ble_eq_true rfl⟩) hP hK hD hX hS (by decide) kr_MD (by decide) rfl rfl hl.1 rfl (Nat.le_of_ble_eq_true rfl) d_MD_follow_133 (fun H locs hP hS => ?_)
          refine lv_pop2_2 hx hb d_MD_follow_136 rfl ?_
          exact hj137 s44 i3_121 i4_121 w5_121 h _ _ _ hP hS (lv_sub hl [0, 1, 2, 3, 4, 5] rfl)
        · intro j121 hj121 h
          obtain ⟨hg37, h⟩ := xw_grdI h
          refine xw_icmp_eq (tgt := 121) hx hb hg37 (by decide) d_MD_follow_112 (by decide) (fun hc38 => ?_) (fun hc38 => ?_)
          · replace h := xw_ifT hc38 h
            exact hj121 s36 i3_110 i4_110 w5_110 h _ _ _ hP hS (lv_sub hl [0, 1, 2, 3, 4, 5] rfl)
          · replace h := xw_ifF hc38 h
            refine lv_iload_n hx hb d_MD_follow_115 rfl (lv_at hl 3 rfl) ?_
            refine lv_bipush (v := xw_i 16) hx hb d_MD_follow_116 (by decide) ?_
            refine xw_icmp_ne (tgt := 137) hx hb hg37 (by decide) d_MD_follow_118 (by decide) (fun hc39 => ?_) (fun hc39 => ?_)
            · replace h := xw_ifF hc39 h
              exact hj137 s36 i3_110 i4_110 w5_110 h _ _ _ hP hS (lv_sub hl [0, 1, 2, 3, 4, 5] rfl)
            · replace h := xw_ifT hc39 h
              exact hj121 s36 i3_110 i4_110 w5_110 h _ _ _ hP hS (lv_sub hl [0, 1, 2, 3, 4, 5] rfl)
    · intro j110 hj110 h
      obtain ⟨hg32, h⟩ := xw_grdI h
      refine xw_icmp_ge (tgt := 110) hx hb hg32.1 hg32.2 d_MD_follow_102 (by decide) (fun hc33 => ?_) (fun hc33 => ?_)
      · replace h := xw_ifT hc33 h
        exact hj110 s29 i3_94 i4_94 w5_94 h _ _ _ hP hS (lv_sub hl [0, 1, 2, 3, 4, 5] rfl)
      · replace h := xw_ifF hc33 h
        refine lv_aload_n hx hb d_MD_follow_105 rfl (lv_at hl 0 rfl) ?_
        refine lv_iconst (v := xw_i 0) hx hb d_MD_follow_106 rfl ?_
        refine xw_putB (C := "AdviceWeaverModel") (T := T_MD) hx hb hts hin_MD ty_MD ty_MD_ok nm_MD hown hK hP hD hS (by decide) kr_MD (by decide) rfl 23 (by decide) (hts _ hw_482) (fun _ h9 => h9) rfl (by decide +kernel) rfl d_MD_follow_107 (by decide) (fun s34 e35 H locs hP hS => ?_)
        replace h := xw_letI e35 h
        exact hj110 s34 i3_94 i4_94 w5_94 h _ _ _ hP hS (lv_sub hl [0, 1, 2, 3, 4, 5] rfl)
  · intro k94 hk94 h
    exact hlp29 p1 p2 r3 v5 v7 k94 hk94 fu s1 v9 h _ _ _ hP hS (lv_sub hl [4, 5, 6, 3, 2, 1, 0] rfl)
def lp_MD_explore_8 (fu : Nat) (c1_8 : Int) (k34 : xw_S → Option (xw_S × Int)) : Nat → xw_S → Int → Option (xw_S × Int)
  | 0, _, _ => none
  | n + 1, s4, i2_8 =>
    xw_grd (xw_r i2_8) (xw_if (120 < i2_8) (k34 s4)
     (xw_grd ((0 ≤ i2_8 ∧ i2_8 < ((121 : Nat) : Int))) (xw_let (xw_st s4 15 (i2_8).toNat (-1)) (fun s8 => xw_let (xw_sL s8 (i2_8).toNat (0 : Int64)) (fun s10 => xw_let (i2_8 + 1) (fun v12 => lp_MD_explore_8 fu c1_8 k34 n s10 v12))))))
def lp_MD_explore_84 (fu : Nat) (c1_84 : Int) (k122 : xw_S → Option (xw_S × Int)) : Nat → xw_S → Int → Option (xw_S × Int)
  | 0, _, _ => none
  | n + 1, s30, i2_84 =>
    xw_grd ((0 ≤ c1_84 ∧ c1_84 < ((12 : Nat) : Int))) (xw_grd (xw_r i2_84 ∧ xw_r (s30.1 6 (c1_84).toNat)) (xw_if (s30.1 6 (c1_84).toNat ≤ i2_84) (k122 s30)
     (xw_grd (xw_r (s30.1 0 23)) (xw_if (s30.1 0 23 = 0) (k122 s30)
     (xw_grd ((0 ≤ i2_84 ∧ i2_84 < ((121 : Nat) : Int))) (xw_jn (fun (s42 : xw_S) (i2_116 : Int) => xw_let (i2_116 + 1) (fun v43 => lp_MD_explore_84 fu c1_84 k122 n s42 v43))
     (fun (j116 : xw_S → Int → Option (xw_S × Int)) => xw_grd (xw_r (s30.1 15 (i2_84).toNat)) (xw_if (s30.1 15 (i2_84).toNat < 0) (j116 s30 i2_84)
     (xw_bnd (f_MD_follow fu s30 c1_84 i2_84) (fun s39 => j116 s39 i2_84))))))))))
def lp_MD_explore_63 (fu : Nat) (c1_63 : Int) (k125 : xw_S → Option (xw_S × Int)) : Nat → xw_S → Option (xw_S × Int)
  | 0, _ => none
  | n + 1, s23 =>
    xw_grd (xw_r (s23.1 0 24)) (xw_if (s23.1 0 24 = 0) (k125 s23)
     (xw_grd (xw_r (s23.1 0 23)) (xw_if (s23.1 0 23 = 0) (k125 s23)
     (xw_let (xw_st s23 0 24 0) (fun s28 => xw_jn (fun (s45 : xw_S) => lp_MD_explore_63 fu c1_63 k125 n s45)
     (fun (k122 : xw_S → Option (xw_S × Int)) => lp_MD_explore_84 fu c1_63 k122 fu s28 0))))))
def f_MD_explore (fu : Nat) (s0 : xw_S) (p1 : Int) : Option (xw_S × Int) :=
 xw_bn2 (f_MD_divide fu s0 p1) (fun s1 r3 => xw_jn (fun (s14 : xw_S) => xw_let (xw_st s14 0 23 1) (fun s15 => xw_let (xw_st s15 0 24 1) (fun s17 => xw_grd ((0 ≤ p1 ∧ p1 < ((12 : Nat) : Int))) (xw_bnd (f_MD_reach fu s17 p1 0 0 (xw_Lhl (1 : Int64) ((xw_hl 1 (s17.1 3 (p1).toNat)) - 1))) (fun s20 => xw_jn (fun (s46 : xw_S) => xw_grd ((s46.1 0 23 = 0 ∨ s46.1 0 23 = 1)) (some (s46, s46.1 0 23)))
 (fun (k125 : xw_S → Option (xw_S × Int)) => lp_MD_explore_63 fu p1 k125 fu s20))))))
 (fun (k34 : xw_S → Option (xw_S × Int)) => lp_MD_explore_8 fu p1 k34 fu s1 0))
set_option maxRecDepth 100000 in
set_option maxHeartbeats 4000000 in
theorem c_MD_explore (l : Launch) (D : va_G) (A : Nat → Prop) (ad : Nat → Nat) (cs : Nat → ClassId) (Z : va_W) (tt : Nat → Nat) (fu : Nat) (s0 sZ : xw_S) (p1 : Int) (r0 : Int) (h : f_MD_explore fu s0 p1 = some (sZ, r0)) : Met l y_MD_explore w_MD_explore ({ frames := 3, cells := 0, slots := 0, locals := 72 }) (va_Pc [.ref (ad 0), .int (xw_i p1)] (xw_H D vwCl A kdR 29 ad cs Z tt s0)) (va_Qi (fun r u => r = xw_i r0 ∧ u = sZ) (xw_H D vwCl A kdR 29 ad cs Z tt) A) 0 0 A := by
  refine Met.ofW (cc := b_MD_explore) (maxL := 3) (ret := (some .boolean)) (by decide) rfl ?_
  intro p e s m args below meth c s₁ B hml hv
  obtain ⟨rfl, hP, hK, hD, hX⟩ := hv
  have hx := B.exec
  have hb := B.bytes
  have hr := B.returns
  have hts0 := atoms_spec (ws := w_MD_explore) B.pre
  have hts := fun w (hw : w ∈ wAll) => hts0 w (List.mem_cons_of_mem _ hw)
  have hown : s.vm.findClass "AdviceWeaverModel" = some m.cls := findClass_of_methodNamed B.named
  have hlk := B.notSynchronized
  clear hts0 B
  have hS : va_S A s.heap s.heap [] := va_S.rf
  have hl := lv_entry [.ref (ad 0), .int (xw_i p1)] (n := 3) (Nat.le_of_ble_eq_true rfl)
  rw [lg_entry_eq]
  generalize (lg_sl [.ref (ad 0), .int (xw_i p1)] ++ List.replicate (3 - (lg_sl [.ref (ad 0), .int (xw_i p1)]).length) Slot.unset).toArray = ls at hl ⊢
  have hl : lv_has ls 3 [(0, .ref (ad 0)), (1, .int (xw_i p1))] := hl
  have hlp8 : ∀ (c1_8 : Int) (k34 : xw_S → Option (xw_S × Int)) (hk34 : ∀ (sq : xw_S), k34 sq = some (sZ, r0) → ∀ (H : Heap) (locs : List Loc) (ls : Array Slot), va_P D vwCl (xw_ws kdR 29 ad cs Z sq) H → va_S A s.heap H locs → lv_has ls 3 [(0, .ref (ad 0)), (1, .int (xw_i c1_8))] → W p l e (headSpec w_MD_explore ({ frames := 3, cells := 0, slots := 0, locals := 72 })).room s m [.ref (ad 0), .int (xw_i p1)].toArray below meth c H locs 0 0 (MQ below (va_Qi (fun r u => r = xw_i r0 ∧ u = sZ) (xw_H D vwCl A kdR 29 ad cs Z tt) A) [.ref (ad 0), .int (xw_i p1)].toArray s 0 0 A) (F0 m 34 ls [])) (n : Nat), ∀ (sq : xw_S) (i2_8 : Int), lp_MD_explore_8 fu c1_8 k34 n sq i2_8 = some (sZ, r0) → ∀ (H : Heap) (locs : List Loc) (ls : Array Slot), va_P D vwCl (xw_ws kdR 29 ad cs Z sq) H → va_S A s.heap H locs → lv_has ls 3 [(0, .ref (ad 0)), (1, .int (xw_i c1_8)), (2, .int (xw_i i2_8))] → W p l e (headSpec w_MD_explore ({ frames := 3, cells := 0, slots := 0, locals := 72 })).room s m [.ref (ad 0), .int (xw_i p1)].toArray below meth c H locs 0 0 (MQ below (va_Qi (fun r u => r = xw_i r0 ∧ u = sZ) (xw_H D vwCl A kdR 29 ad cs Z tt) A) [.ref (ad 0), .int (xw_i p1)].toArray s 0 0 A) (F0 m 8 ls []) := by
    intro c1_8 k34 hk34 n
    induction n with
    | zero =>
      intro sq i2_8 h
      cases (show (none : Option (xw_S × Int)) = some (sZ, r0) from h)
    | succ n ih8 =>
      intro s4 i2_8 h H locs ls hP hS hl
      unfold lp_MD_explore_8 at h
      refine lv_iload_n hx hb d_MD_explore_8 rfl (lv_at hl 2 rfl) ?_
      refine lv_bipush (v := xw_i 120) hx hb d_MD_explore_9 (by decide) ?_
      obtain ⟨hg5, h⟩ := xw_grdI h
      refine xw_icmp_gt (tgt := 34) hx hb hg5 (by decide) d_MD_explore_11 (by decide) (fun hc6 => ?_) (fun hc6 => ?_)
      · replace h := xw_ifT hc6 h
        exact hk34 s4 h _ _ _ hP hS (lv_sub hl [0, 1] rfl)
      · replace h := xw_ifF hc6 h
        refine lv_aload_n hx hb d_MD_explore_14 rfl (lv_at hl 0 rfl) ?_
        refine xw_getR (C := "AdviceWeaverModel") (T := T_MD) hx hb hts hin_MD hown hK hP (by decide) kr_MD (by decide) rfl 21 (by decide) (hts _ hw_479) (fun _ h9 => h9) rfl d_MD_explore_15 ?_
        refine lv_iload_n hx hb d_MD_explore_18 rfl (lv_at hl 2 rfl) ?_
        refine lv_iconst (v := xw_i (-1)) hx hb d_MD_explore_19 rfl ?_
        obtain ⟨hg7, h⟩ := xw_grdI h
        refine xw_iast hx hb hK hP hD hS (by decide) kr_m_depths (by decide) hg7 d_MD_explore_20 (fun s8 e9 H locs hP hS => ?_)
        replace h := xw_letI e9 h
        refine lv_aload_n hx hb d_MD_explore_21 rfl (lv_at hl 0 rfl) ?_
        refine xw_getR (C := "AdviceWeaverModel") (T := T_MD) hx hb hts hin_MD hown hK hP (by decide) kr_MD (by decide) rfl 22 (by decide) (hts _ hw_481) (fun _ h9 => h9) rfl d_MD_explore_22 ?_
        refine lv_iload_n hx hb d_MD_explore_25 rfl (lv_at hl 2 rfl) ?_
        refine lv_lconst (v := 0) hx hb d_MD_explore_26 rfl ?_
        refine xw_last hx hb hK hP hD hS (by decide) kr_m_sets (by decide) hg7 kr_long d_MD_explore_27 (fun s10 e11 H locs hP hS => ?_)
        replace h := xw_letI e11 h
        obtain ⟨v12, e13⟩ : ∃ z, z = i2_8 + 1 := ⟨_, rfl⟩
        replace h := xw_letI e13 h
        refine xw_iinc (lv' := [(2, .int (xw_i v12)), (0, .ref (ad 0)), (1, .int (xw_i c1_8))]) hx hb d_MD_explore_28 hl (k := 2) rfl (by decide) (by rw [e13]; rfl) (fun ls hl => ?_)
        refine lv_goto (tgt := 8) hx hb d_MD_explore_31 (by decide) ?_
        exact ih8 s10 v12 h _ _ _ hP hS (lv_sub hl [1, 2, 0] rfl)
  have hlp84 : ∀ (c1_84 : Int) (k122 : xw_S → Option (xw_S × Int)) (hk122 : ∀ (sq : xw_S), k122 sq = some (sZ, r0) → ∀ (H : Heap) (locs : List Loc) (ls : Array Slot), va_P D vwCl (xw_ws kdR 29 ad cs Z sq) H → va_S A s.heap H locs → lv_has ls 3 [(0, .ref (ad 0)), (1, .int (xw_i c1_84))] → W p l e (headSpec w_MD_explore ({ frames := 3, cells := 0, slots := 0, locals := 72 })).room s m [.ref (ad 0), .int (xw_i p1)].toArray below meth c H locs 0 0 (MQ below (va_Qi (fun r u => r = xw_i r0 ∧ u = sZ) (xw_H D vwCl A kdR 29 ad cs Z tt) A) [.ref (ad 0), .int (xw_i p1)].toArray s 0 0 A) (F0 m 122 ls [])) (n : Nat), ∀ (sq : xw_S) (i2_84 : Int), lp_MD_explore_84 fu c1_84 k122 n sq i2_84 = some (sZ, r0) → ∀ (H : Heap) (locs : List Loc) (ls : Array Slot), va_P D vwCl (xw_ws kdR 29 ad cs Z sq) H → va_S A s.heap H locs → lv_has ls 3 [(0, .ref (ad 0)), (1, .int (xw_i c1_84)), (2, .int (xw_i i2_84))] → W p l e (headSpec w_MD_explore ({ frames := 3, cells := 0, slots := 0, locals := 72 })).room s m [.ref (ad 0), .int (xw_i p1)].toArray below meth c H locs 0 0 (MQ below (va_Qi (fun r u => r = xw_i r0 ∧ u = sZ) (xw_H D vwCl A kdR 29 ad cs Z tt) A) [.ref (ad 0), .int (xw_i p1)].toArray s 0 0 A) (F0 m 84 ls []) := by
    intro c1_84 k122 hk122 n
    induction n with
    | zero =>
      intro sq i2_84 h
      cases (show (none : Option (xw_S × Int)) = some (sZ, r0) from h)
    | succ n ih84 =>
      intro s30 i2_84 h H locs ls hP hS hl
      unfold lp_MD_explore_84 at h
      refine lv_iload_n hx hb d_MD_explore_84 rfl (lv_at hl 2 rfl) ?_
      refine lv_aload_n hx hb d_MD_explore_85 rfl (lv_at hl 0 rfl) ?_
      refine xw_getR (C := "AdviceWeaverModel") (T := T_MD) hx hb hts hin_MD hown hK hP (by decide) kr_MD (by decide) rfl 6 (by decide) (hts _ hw_447) (fun _ h9 => h9) rfl d_MD_explore_86 ?_
      refine lv_iload_n hx hb d_MD_explore_89 rfl (lv_at hl 1 rfl) ?_
      obtain ⟨hg31, h⟩ := xw_grdI h
      refine xw_iald hx hb hK hP (by decide) kr_m_length (by decide) hg31 d_MD_explore_90 ?_
      obtain ⟨hg32, h⟩ := xw_grdI h
      refine xw_icmp_ge (tgt := 122) hx hb hg32.1 hg32.2 d_MD_explore_91 (by decide) (fun hc33 => ?_) (fun hc33 => ?_)
      · replace h := xw_ifT hc33 h
        exact hk122 s30 h _ _ _ hP hS (lv_sub hl [0, 1] rfl)
      · replace h := xw_ifF hc33 h
        refine lv_aload_n hx hb d_MD_explore_94 rfl (lv_at hl 0 rfl) ?_
        refine xw_getI (C := "AdviceWeaverModel") (T := T_MD) hx hb hts hin_MD hown hK hP (by decide) kr_MD (by decide) rfl 23 (by decide) (hts _ hw_482) (fun _ h9 => h9) rfl d_MD_explore_95 ?_
        obtain ⟨hg34, h⟩ := xw_grdI h
        refine xw_if_eq (tgt := 122) hx hb hg34 d_MD_explore_98 (by decide) (fun hc35 => ?_) (fun hc35 => ?_)
        · replace h := xw_ifT hc35 h
          exact hk122 s30 h _ _ _ hP hS (lv_sub hl [0, 1] rfl)
        · replace h := xw_ifF hc35 h
          refine lv_aload_n hx hb d_MD_explore_101 rfl (lv_at hl 0 rfl) ?_
          refine xw_getR (C := "AdviceWeaverModel") (T := T_MD) hx hb hts hin_MD hown hK hP (by decide) kr_MD (by decide) rfl 21 (by decide) (hts _ hw_479) (fun _ h9 => h9) rfl d_MD_explore_102 ?_
          refine lv_iload_n hx hb d_MD_explore_105 rfl (lv_at hl 2 rfl) ?_
          obtain ⟨hg36, h⟩ := xw_grdI h
          refine xw_iald hx hb hK hP (by decide) kr_m_depths (by decide) hg36 d_MD_explore_106 ?_
          refine xw_jnI (fun j => ∀ (sq : xw_S) (i2_116 : Int), j sq i2_116 = some (sZ, r0) → ∀ (H : Heap) (locs : List Loc) (ls : Array Slot), va_P D vwCl (xw_ws kdR 29 ad cs Z sq) H → va_S A s.heap H locs → lv_has ls 3 [(0, .ref (ad 0)), (1, .int (xw_i c1_84)), (2, .int (xw_i i2_116))] → W p l e (headSpec w_MD_explore ({ frames := 3, cells := 0, slots := 0, locals := 72 })).room s m [.ref (ad 0), .int (xw_i p1)].toArray below meth c H locs 0 0 (MQ below (va_Qi (fun r u => r = xw_i r0 ∧ u = sZ) (xw_H D vwCl A kdR 29 ad cs Z tt) A) [.ref (ad 0), .int (xw_i p1)].toArray s 0 0 A) (F0 m 116 ls [])) h ?_ ?_
          · intro s42 i2_116 h H locs ls hP hS hl
            obtain ⟨v43, e44⟩ : ∃ z, z = i2_116 + 1 := ⟨_, rfl⟩
            replace h := xw_letI e44 h
            refine xw_iinc (lv' := [(2, .int (xw_i v43)), (0, .ref (ad 0)), (1, .int (xw_i c1_84))]) hx hb d_MD_explore_116 hl (k := 2) rfl (by decide) (by rw [e44]; rfl) (fun ls hl => ?_)
            refine lv_goto (tgt := 84) hx hb d_MD_explore_119 (by decide) ?_
            exact ih84 s42 v43 h _ _ _ hP hS (lv_sub hl [1, 2, 0] rfl)
          · intro j116 hj116 h
            obtain ⟨hg37, h⟩ := xw_grdI h
            refine xw_if_lt (tgt := 116) hx hb hg37 d_MD_explore_107 (by decide) (fun hc38 => ?_) (fun hc38 => ?_)
            · replace h := xw_ifT hc38 h
              exact hj116 s30 i2_84 h _ _ _ hP hS (lv_sub hl [0, 1, 2] rfl)
            · replace h := xw_ifF hc38 h
              refine lv_aload_n hx hb d_MD_explore_110 rfl (lv_at hl 0 rfl) ?_
              refine lv_iload_n hx hb d_MD_explore_111 rfl (lv_at hl 1 rfl) ?_
              refine lv_iload_n hx hb d_MD_explore_112 rfl (lv_at hl 2 rfl) ?_
              obtain ⟨s39, hc40, h⟩ := xw_bndI h
              refine xw_callVv (C := "AdviceWeaverModel") (T := T_MD) ⟨hx, hb, hml, hown, hts⟩ (c_MD_follow l D A ad cs Z tt fu s30 s39 c1_84 i2_84 hc40) (cwV 2 hts (gd_V hw_501 hw_502 hw_503 hw_433 hw_504) rfl rfl rfl (by decide +kernel) ⟨Nat.le_of_ble_eq_true rfl, Nat.le_of_ble_eq_true rfl⟩) hP hK hD hX hS (by decide) kr_MD (by decide) rfl rfl hl.1 rfl (Nat.le_of_ble_eq_true rfl) d_MD_explore_113 (fun H locs hP hS => ?_)
              exact hj116 s39 i2_84 h _ _ _ hP hS (lv_sub hl [0, 1, 2] rfl)
  have hlp63 : ∀ (c1_63 : Int) (k125 : xw_S → Option (xw_S × Int)) (hk125 : ∀ (sq : xw_S), k125 sq = some (sZ, r0) → ∀ (H : Heap) (locs : List Loc) (ls : Array Slot), va_P D vwCl (xw_ws kdR 29 ad cs Z sq) H → va_S A s.heap H locs → lv_has ls 3 [(0, .ref (ad 0))] → W p l e (headSpec w_MD_explore ({ frames := 3, cells := 0, slots := 0, locals := 72 })).room s m [.ref (ad 0), .int (xw_i p1)].toArray below meth c H locs 0 0 (MQ below (va_Qi (fun r u => r = xw_i r0 ∧ u = sZ) (xw_H D vwCl A kdR 29 ad cs Z tt) A) [.ref (ad 0), .int (xw_i p1)].toArray s 0 0 A) (F0 m 125 ls [])) (n : Nat), ∀ (sq : xw_S), lp_MD_explore_63 fu c1_63 k125 n sq = some (sZ, r0) → ∀ (H : Heap) (locs : List Loc) (ls : Array Slot), va_P D vwCl (xw_ws kdR 29 ad cs Z sq) H → va_S A s.heap H locs → lv_has ls 3 [(0, .ref (ad 0)), (1, .int (xw_i c1_63))] → W p l e (headSpec w_MD_explore ({ frames := 3, cells := 0, slots := 0, locals := 72 })).room s m [.ref (ad 0), .int (xw_i p1)].toArray below meth c H locs 0 0 (MQ below (va_Qi (fun r u => r = xw_i r0 ∧ u = sZ) (xw_H D vwCl A kdR 29 ad cs Z tt) A) [.ref (ad 0), .int (xw_i p1)].toArray s 0 0 A) (F0 m 63 ls []) := by
    intro c1_63 k125 hk125 n
    induction n with
    | zero =>
      intro sq h
      cases (show (none : Option (xw_S × Int)) = some (sZ, r0) from h)
    | succ n ih63 =>
      intro s23 h H locs ls hP hS hl
      unfold lp_MD_explore_63 at h
      refine lv_aload_n hx hb d_MD_explore_63 rfl (lv_at hl 0 rfl) ?_
      refine xw_getI (C := "AdviceWeaverModel") (T := T_MD) hx hb hts hin_MD hown hK hP (by decide) kr_MD (by decide) rfl 24 (by decide) (hts _ hw_480) (fun _ h9 => h9) rfl d_MD_explore_64 ?_
      obtain ⟨hg24, h⟩ := xw_grdI h
      refine xw_if_eq (tgt := 125) hx hb hg24 d_MD_explore_67 (by decide) (fun hc25 => ?_) (fun hc25 => ?_)
      · replace h := xw_ifT hc25 h
        exact hk125 s23 h _ _ _ hP hS (lv_sub hl [0] rfl)
      · replace h := xw_ifF hc25 h
        refine lv_aload_n hx hb d_MD_explore_70 rfl (lv_at hl 0 rfl) ?_
        refine xw_getI (C := "AdviceWeaverModel") (T := T_MD) hx hb hts hin_MD hown hK hP (by decide) kr_MD (by decide) rfl 23 (by decide) (hts _ hw_482) (fun _ h9 => h9) rfl d_MD_explore_71 ?_
        obtain ⟨hg26, h⟩ := xw_grdI h
        refine xw_if_eq (tgt := 125) hx hb hg26 d_MD_explore_74 (by decide) (fun hc27 => ?_) (fun hc27 => ?_)
        · replace h := xw_ifT hc27 h
          exact hk125 s23 h _ _ _ hP hS (lv_sub hl [0] rfl)
        · replace h := xw_ifF hc27 h
          refine lv_aload_n hx hb d_MD_explore_77 rfl (lv_at hl 0 rfl) ?_
          refine lv_iconst (v := xw_i 0) hx hb d_MD_explore_78 rfl ?_
          refine xw_putB (C := "AdviceWeaverModel") (T := T_MD) hx hb hts hin_MD ty_MD ty_MD_ok nm_MD hown hK hP hD hS (by decide) kr_MD (by decide) rfl 24 (by decide) (hts _ hw_480) (fun _ h9 => h9) rfl (by decide +kernel) rfl d_MD_explore_79 (by decide) (fun s28 e29 H locs hP hS => ?_)
          replace h := xw_letI e29 h
          refine lv_iconst (v := xw_i 0) hx hb d_MD_explore_82 rfl ?_
          refine lv_istore_n hx hb d_MD_explore_83 rfl hl (by decide) rfl (fun ls hl => ?_)
          refine xw_jnI (fun j => ∀ (sq : xw_S), j sq = some (sZ, r0) → ∀ (H : Heap) (locs : List Loc) (ls : Array Slot), va_P D vwCl (xw_ws kdR 29 ad cs Z sq) H → va_S A s.heap H locs → lv_has ls 3 [(0, .ref (ad 0)), (1, .int (xw_i c1_63))] → W p l e (headSpec w_MD_explore ({ frames := 3, cells := 0, slots := 0, locals := 72 })).room s m [.ref (ad 0), .int (xw_i p1)].toArray below meth c H locs 0 0 (MQ below (va_Qi (fun r u => r = xw_i r0 ∧ u = sZ) (xw_H D vwCl A kdR 29 ad cs Z tt) A) [.ref (ad 0), .int (xw_i p1)].toArray s 0 0 A) (F0 m 122 ls [])) h ?_ ?_
          · intro s45 h H locs ls hP hS hl
            refine lv_goto (tgt := 63) hx hb d_MD_explore_122 (by decide) ?_
            exact ih63 s45 h _ _ _ hP hS (lv_sub hl [0, 1] rfl)
          · intro k122 hk122 h
            exact hlp84 c1_63 k122 hk122 fu s28 0 h _ _ _ hP hS (lv_sub hl [1, 2, 0] rfl)
  unfold f_MD_explore at h
  refine lv_aload_n hx hb d_MD_explore_0 rfl (lv_at hl 0 rfl) ?_
  refine lv_iload_n hx hb d_MD_explore_1 rfl (lv_at hl 1 rfl) ?_
  obtain ⟨s1, r3, hc2, h⟩ := xw_bn2I h
  refine xw_callVi (C := "AdviceWeaverModel") (T := T_MD) ⟨hx, hb, hml, hown, hts⟩ (c_MD_divide l D A ad cs Z tt fu s0 s1 p1 r3 hc2) (cwV 1 hts (gd_V hw_463 hw_464 hw_465 hw_433 hw_466) rfl rfl rfl (by decide +kernel) ⟨Nat.le_of_ble_eq_true rfl, Nat.le_of_ble_eq_true rfl⟩) hP hK hD hX hS (by decide) kr_MD (by decide) rfl rfl hl.1 rfl (Nat.le_of_ble_eq_true rfl) d_MD_explore_2 (fun H locs hP hS => ?_)
  refine lv_pop hx hb d_MD_explore_5 rfl ?_
  refine lv_iconst (v := xw_i 0) hx hb d_MD_explore_6 rfl ?_
  refine lv_istore_n hx hb d_MD_explore_7 rfl hl (by decide) rfl (fun ls hl => ?_)
  refine xw_jnI (fun j => ∀ (sq : xw_S), j sq = some (sZ, r0) → ∀ (H : Heap) (locs : List Loc) (ls : Array Slot), va_P D vwCl (xw_ws kdR 29 ad cs Z sq) H → va_S A s.heap H locs → lv_has ls 3 [(0, .ref (ad 0)), (1, .int (xw_i p1))] → W p l e (headSpec w_MD_explore ({ frames := 3, cells := 0, slots := 0, locals := 72 })).room s m [.ref (ad 0), .int (xw_i p1)].toArray below meth c H locs 0 0 (MQ below (va_Qi (fun r u => r = xw_i r0 ∧ u = sZ) (xw_H D vwCl A kdR 29 ad cs Z tt) A) [.ref (ad 0), .int (xw_i p1)].toArray s 0 0 A) (F0 m 34 ls [])) h ?_ ?_
  · intro s14 h H locs ls hP hS hl
    refine lv_aload_n hx hb d_MD_explore_34 rfl (lv_at hl 0 rfl) ?_
    refine lv_iconst (v := xw_i 1) hx hb d_MD_explore_35 rfl ?_
    refine xw_putB (C := "AdviceWeaverModel") (T := T_MD) hx hb hts hin_MD ty_MD ty_MD_ok nm_MD hown hK hP hD hS (by decide) kr_MD (by decide) rfl 23 (by decide) (hts _ hw_482) (fun _ h9 => h9) rfl (by decide +kernel) rfl d_MD_explore_36 (by decide) (fun s15 e16 H locs hP hS => ?_)
    replace h := xw_letI e16 h
    refine lv_aload_n hx hb d_MD_explore_39 rfl (lv_at hl 0 rfl) ?_
    refine lv_iconst (v := xw_i 1) hx hb d_MD_explore_40 rfl ?_
    refine xw_putB (C := "AdviceWeaverModel") (T := T_MD) hx hb hts hin_MD ty_MD ty_MD_ok nm_MD hown hK hP hD hS (by decide) kr_MD (by decide) rfl 24 (by decide) (hts _ hw_480) (fun _ h9 => h9) rfl (by decide +kernel) rfl d_MD_explore_41 (by decide) (fun s17 e18 H locs hP hS => ?_)
    replace h := xw_letI e18 h
    refine lv_aload_n hx hb d_MD_explore_44 rfl (lv_at hl 0 rfl) ?_
    refine lv_iload_n hx hb d_MD_explore_45 rfl (lv_at hl 1 rfl) ?_
    refine lv_iconst (v := xw_i 0) hx hb d_MD_explore_46 rfl ?_
    refine lv_iconst (v := xw_i 0) hx hb d_MD_explore_47 rfl ?_
    refine lv_lconst (v := 1) hx hb d_MD_explore_48 rfl ?_
    refine lv_iconst (v := xw_i 1) hx hb d_MD_explore_49 rfl ?_
    refine lv_aload_n hx hb d_MD_explore_50 rfl (lv_at hl 0 rfl) ?_
    refine xw_getR (C := "AdviceWeaverModel") (T := T_MD) hx hb hts hin_MD hown hK hP (by decide) kr_MD (by decide) rfl 3 (by decide) (hts _ hw_444) (fun _ h9 => h9) rfl d_MD_explore_51 ?_
    refine lv_iload_n hx hb d_MD_explore_54 rfl (lv_at hl 1 rfl) ?_
    obtain ⟨hg19, h⟩ := xw_grdI h
    refine xw_iald hx hb hK hP (by decide) kr_m_args (by decide) hg19 d_MD_explore_55 ?_
    refine xw_ishl hx hb d_MD_explore_56 ?_
    refine lv_iconst (v := xw_i 1) hx hb d_MD_explore_57 rfl ?_
    refine xw_isub hx hb d_MD_explore_58 ?_
    refine lv_lshl (v := xw_Lhl (1 : Int64) ((xw_hl 1 (s17.1 3 (p1).toNat)) - 1)) hx hb d_MD_explore_59 rfl ?_
    obtain ⟨s20, hc21, h⟩ := xw_bndI h
    refine xw_callVv (C := "AdviceWeaverModel") (T := T_MD) ⟨hx, hb, hml, hown, hts⟩ (c_MD_reach l D A ad cs Z tt fu s17 s20 p1 0 0 (xw_Lhl (1 : Int64) ((xw_hl 1 (s17.1 3 (p1).toNat)) - 1)) hc21) (cwV 4 hts (gd_V hw_483 hw_484 hw_485 hw_433 hw_486) rfl rfl rfl (by decide +kernel) ⟨Nat.le_of_ble_eq_true rfl, Nat.le_of_ble_eq_true rfl⟩) hP hK hD hX hS (by decide) kr_MD (by decide) rfl rfl hl.1 rfl (Nat.le_of_ble_eq_true rfl) d_MD_explore_60 (fun H locs hP hS => ?_)
    refine xw_jnI (fun j => ∀ (sq : xw_S), j sq = some (sZ, r0) → ∀ (H : Heap) (locs : List Loc) (ls : Array Slot), va_P D vwCl (xw_ws kdR 29 ad cs Z sq) H → va_S A s.heap H locs → lv_has ls 3 [(0, .ref (ad 0))] → W p l e (headSpec w_MD_explore ({ frames := 3, cells := 0, slots := 0, locals := 72 })).room s m [.ref (ad 0), .int (xw_i p1)].toArray below meth c H locs 0 0 (MQ below (va_Qi (fun r u => r = xw_i r0 ∧ u = sZ) (xw_H D vwCl A kdR 29 ad cs Z tt) A) [.ref (ad 0), .int (xw_i p1)].toArray s 0 0 A) (F0 m 125 ls [])) h ?_ ?_
    · intro s46 h H locs ls hP hS hl
      refine lv_aload_n hx hb d_MD_explore_125 rfl (lv_at hl 0 rfl) ?_
      refine xw_getI (C := "AdviceWeaverModel") (T := T_MD) hx hb hts hin_MD hown hK hP (by decide) kr_MD (by decide) rfl 23 (by decide) (hts _ hw_482) (fun _ h9 => h9) rfl d_MD_explore_126 ?_
      obtain ⟨hg47, h⟩ := xw_grdI h
      exact xw_zretE hx hb hr hlk hP hK hD hX hS h hg47 d_MD_explore_129
    · intro k125 hk125 h
      exact hlp63 p1 k125 hk125 fu s20 h _ _ _ hP hS (lv_sub hl [0, 1] rfl)
  · intro k34 hk34 h
    exact hlp8 p1 k34 hk34 fu s1 0 h _ _ _ hP hS (lv_sub hl [1, 2, 0] rfl)
def lp_MD_copy_74 (fu : Nat) (c1_74 : Int) (c2_74 : Int) (k108 : xw_S → Option xw_S) : Nat → xw_S → Int → Option xw_S
  | 0, _, _ => none
  | n + 1, s15, i3_74 =>
    xw_grd (xw_r i3_74) (xw_if (120 ≤ i3_74) (k108 s15)
     (xw_grd ((0 ≤ (120 * c1_74) + i3_74 ∧ (120 * c1_74) + i3_74 < ((1440 : Nat) : Int))) (xw_grd ((0 ≤ (120 * c2_74) + i3_74 ∧ (120 * c2_74) + i3_74 < ((1440 : Nat) : Int))) (xw_let (xw_st s15 7 ((120 * c2_74) + i3_74).toNat (s15.1 7 ((120 * c1_74) + i3_74).toNat)) (fun s20 => xw_let (i3_74 + 1) (fun v22 => lp_MD_copy_74 fu c1_74 c2_74 k108 n s20 v22))))))
def lp_MD_copy_110 (fu : Nat) (c1_110 : Int) (c2_110 : Int) (k144 : xw_S → Option xw_S) : Nat → xw_S → Int → Option xw_S
  | 0, _, _ => none
  | n + 1, s25, i3_110 =>
    xw_grd (xw_r i3_110) (xw_if (20 ≤ i3_110) (k144 s25)
     (xw_grd ((0 ≤ (20 * c1_110) + i3_110 ∧ (20 * c1_110) + i3_110 < ((240 : Nat) : Int))) (xw_grd ((0 ≤ (20 * c2_110) + i3_110 ∧ (20 * c2_110) + i3_110 < ((240 : Nat) : Int))) (xw_let (xw_st s25 9 ((20 * c2_110) + i3_110).toNat (s25.1 9 ((20 * c1_110) + i3_110).toNat)) (fun s30 => xw_let (i3_110 + 1) (fun v32 => lp_MD_copy_110 fu c1_110 c2_110 k144 n s30 v32))))))
def f_MD_copy (fu : Nat) (s0 : xw_S) (p1 : Int) (p2 : Int) : Option xw_S :=
 xw_grd ((0 ≤ p1 ∧ p1 < ((12 : Nat) : Int))) (xw_grd ((0 ≤ p2 ∧ p2 < ((12 : Nat) : Int))) (xw_let (xw_st s0 2 (p2).toNat (s0.1 2 (p1).toNat)) (fun s3 => xw_let (xw_st s3 3 (p2).toNat (s3.1 3 (p1).toNat)) (fun s5 => xw_let (xw_st s5 4 (p2).toNat (s5.1 4 (p1).toNat)) (fun s7 => xw_let (xw_st s7 5 (p2).toNat (s7.1 5 (p1).toNat)) (fun s9 => xw_let (xw_st s9 6 (p2).toNat (s9.1 6 (p1).toNat)) (fun s11 => xw_let (xw_st s11 8 (p2).toNat (s11.1 8 (p1).toNat)) (fun s13 => xw_jn (fun (s24 : xw_S) => xw_jn (fun (s34 : xw_S) => some s34)
 (fun (k144 : xw_S → Option xw_S) => lp_MD_copy_110 fu p1 p2 k144 fu s24 0))
 (fun (k108 : xw_S → Option xw_S) => lp_MD_copy_74 fu p1 p2 k108 fu s13 0)))))))))
set_option maxRecDepth 100000 in
set_option maxHeartbeats 4000000 in
theorem c_MD_copy (l : Launch) (D : va_G) (A : Nat → Prop) (ad : Nat → Nat) (cs : Nat → ClassId) (Z : va_W) (tt : Nat → Nat) (fu : Nat) (s0 sZ : xw_S) (p1 : Int) (p2 : Int) (h : f_MD_copy fu s0 p1 p2 = some sZ) : Met l y_MD_copy w_MD_copy ({ frames := 0, cells := 0, slots := 0, locals := 0 }) (va_Pc [.ref (ad 0), .int (xw_i p1), .int (xw_i p2)] (xw_H D vwCl A kdR 29 ad cs Z tt s0)) (va_Qv (fun u => u = sZ) (xw_H D vwCl A kdR 29 ad cs Z tt) A) 0 0 A := by
  refine Met.ofW (cc := b_MD_copy) (maxL := 4) (ret := none) (by decide) rfl ?_
  intro p e s m args below meth c s₁ B hml hv
  obtain ⟨rfl, hP, hK, hD, hX⟩ := hv
  have hx := B.exec
  have hb := B.bytes
  have hr := B.returns
  have hts0 := atoms_spec (ws := w_MD_copy) B.pre
  have hts := fun w (hw : w ∈ wAll) => hts0 w (List.mem_cons_of_mem _ hw)
  have hown : s.vm.findClass "AdviceWeaverModel" = some m.cls := findClass_of_methodNamed B.named
  have hlk := B.notSynchronized
  clear hts0 B
  have hS : va_S A s.heap s.heap [] := va_S.rf
  have hl := lv_entry [.ref (ad 0), .int (xw_i p1), .int (xw_i p2)] (n := 4) (Nat.le_of_ble_eq_true rfl)
  rw [lg_entry_eq]
  generalize (lg_sl [.ref (ad 0), .int (xw_i p1), .int (xw_i p2)] ++ List.replicate (4 - (lg_sl [.ref (ad 0), .int (xw_i p1), .int (xw_i p2)]).length) Slot.unset).toArray = ls at hl ⊢
  have hl : lv_has ls 4 [(0, .ref (ad 0)), (1, .int (xw_i p1)), (2, .int (xw_i p2))] := hl
  have hlp74 : ∀ (c1_74 : Int) (c2_74 : Int) (k108 : xw_S → Option xw_S) (hk108 : ∀ (sq : xw_S), k108 sq = some sZ → ∀ (H : Heap) (locs : List Loc) (ls : Array Slot), va_P D vwCl (xw_ws kdR 29 ad cs Z sq) H → va_S A s.heap H locs → lv_has ls 4 [(0, .ref (ad 0)), (1, .int (xw_i c1_74)), (2, .int (xw_i c2_74))] → W p l e (headSpec w_MD_copy ({ frames := 0, cells := 0, slots := 0, locals := 0 })).room s m [.ref (ad 0), .int (xw_i p1), .int (xw_i p2)].toArray below meth c H locs 0 0 (MQ below (va_Qv (fun u => u = sZ) (xw_H D vwCl A kdR 29 ad cs Z tt) A) [.ref (ad 0), .int (xw_i p1), .int (xw_i p2)].toArray s 0 0 A) (F0 m 108 ls [])) (n : Nat), ∀ (sq : xw_S) (i3_74 : Int), lp_MD_copy_74 fu c1_74 c2_74 k108 n sq i3_74 = some sZ → ∀ (H : Heap) (locs : List Loc) (ls : Array Slot), va_P D vwCl (xw_ws kdR 29 ad cs Z sq) H → va_S A s.heap H locs → lv_has ls 4 [(0, .ref (ad 0)), (1, .int (xw_i c1_74)), (2, .int (xw_i c2_74)), (3, .int (xw_i i3_74))] → W p l e (headSpec w_MD_copy ({ frames := 0, cells := 0, slots := 0, locals := 0 })).room s m [.ref (ad 0), .int (xw_i p1), .int (xw_i p2)].toArray below meth c H locs 0 0 (MQ below (va_Qv (fun u => u = sZ) (xw_H D vwCl A kdR 29 ad cs Z tt) A) [.ref (ad 0), .int (xw_i p1), .int (xw_i p2)].toArray s 0 0 A) (F0 m 74 ls []) := by
    intro c1_74 c2_74 k108 hk108 n
    induction n with
    | zero =>
      intro sq i3_74 h
      cases (show (none : Option xw_S) = some sZ from h)
    | succ n ih74 =>
      intro s15 i3_74 h H locs ls hP hS hl
      unfold lp_MD_copy_74 at h
      refine lv_iload_n hx hb d_MD_copy_74 rfl (lv_at hl 3 rfl) ?_
      refine lv_bipush (v := xw_i 120) hx hb d_MD_copy_75 (by decide) ?_
      obtain ⟨hg16, h⟩ := xw_grdI h
      refine xw_icmp_ge (tgt := 108) hx hb hg16 (by decide) d_MD_copy_77 (by decide) (fun hc17 => ?_) (fun hc17 => ?_)
      · replace h := xw_ifT hc17 h
        exact hk108 s15 h _ _ _ hP hS (lv_sub hl [0, 1, 2] rfl)
      · replace h := xw_ifF hc17 h
        refine lv_aload_n hx hb d_MD_copy_80 rfl (lv_at hl 0 rfl) ?_
        refine xw_getR (C := "AdviceWeaverModel") (T := T_MD) hx hb hts hin_MD hown hK hP (by decide) kr_MD (by decide) rfl 7 (by decide) (hts _ hw_448) (fun _ h9 => h9) rfl d_MD_copy_81 ?_
        refine lv_bipush (v := xw_i 120) hx hb d_MD_copy_84 (by decide) ?_
        refine lv_iload_n hx hb d_MD_copy_86 rfl (lv_at hl 2 rfl) ?_
        refine xw_imul hx hb d_MD_copy_87 ?_
        refine lv_iload_n hx hb d_MD_copy_88 rfl (lv_at hl 3 rfl) ?_
        refine xw_iadd hx hb d_MD_copy_89 ?_
        refine lv_aload_n hx hb d_MD_copy_90 rfl (lv_at hl 0 rfl) ?_
        refine xw_getR (C := "AdviceWeaverModel") (T := T_MD) hx hb hts hin_MD hown hK hP (by decide) kr_MD (by decide) rfl 7 (by decide) (hts _ hw_448) (fun _ h9 => h9) rfl d_MD_copy_91 ?_
        refine lv_bipush (v := xw_i 120) hx hb d_MD_copy_94 (by decide) ?_
        refine lv_iload_n hx hb d_MD_copy_96 rfl (lv_at hl 1 rfl) ?_
        refine xw_imul hx hb d_MD_copy_97 ?_
        refine lv_iload_n hx hb d_MD_copy_98 rfl (lv_at hl 3 rfl) ?_
        refine xw_iadd hx hb d_MD_copy_99 ?_
        obtain ⟨hg18, h⟩ := xw_grdI h
        refine xw_iald hx hb hK hP (by decide) kr_m_code (by decide) hg18 d_MD_copy_100 ?_
        obtain ⟨hg19, h⟩ := xw_grdI h
        refine xw_iast hx hb hK hP hD hS (by decide) kr_m_code (by decide) hg19 d_MD_copy_101 (fun s20 e21 H locs hP hS => ?_)
        replace h := xw_letI e21 h
        obtain ⟨v22, e23⟩ : ∃ z, z = i3_74 + 1 := ⟨_, rfl⟩
        replace h := xw_letI e23 h
        refine xw_iinc (lv' := [(3, .int (xw_i v22)), (0, .ref (ad 0)), (1, .int (xw_i c1_74)), (2, .int (xw_i c2_74))]) hx hb d_MD_copy_102 hl (k := 3) rfl (by decide) (by rw [e23]; rfl) (fun ls hl => ?_)
        refine lv_goto (tgt := 74) hx hb d_MD_copy_105 (by decide) ?_
        exact ih74 s20 v22 h _ _ _ hP hS (lv_sub hl [1, 2, 3, 0] rfl)
  have hlp110 : ∀ (c1_110 : Int) (c2_110 : Int) (k144 : xw_S → Option xw_S) (hk144 : ∀ (sq : xw_S), k144 sq = some sZ → ∀ (H : Heap) (locs : List Loc) (ls : Array Slot), va_P D vwCl (xw_ws kdR 29 ad cs Z sq) H → va_S A s.heap H locs → lv_has ls 4 [] → W p l e (headSpec w_MD_copy ({ frames := 0, cells := 0, slots := 0, locals := 0 })).room s m [.ref (ad 0), .int (xw_i p1), .int (xw_i p2)].toArray below meth c H locs 0 0 (MQ below (va_Qv (fun u => u = sZ) (xw_H D vwCl A kdR 29 ad cs Z tt) A) [.ref (ad 0), .int (xw_i p1), .int (xw_i p2)].toArray s 0 0 A) (F0 m 144 ls [])) (n : Nat), ∀ (sq : xw_S) (i3_110 : Int), lp_MD_copy_110 fu c1_110 c2_110 k144 n sq i3_110 = some sZ → ∀ (H : Heap) (locs : List Loc) (ls : Array Slot), va_P D vwCl (xw_ws kdR 29 ad cs Z sq) H → va_S A s.heap H locs → lv_has ls 4 [(0, .ref (ad 0)), (1, .int (xw_i c1_110)), (2, .int (xw_i c2_110)), (3, .int (xw_i i3_110))] → W p l e (headSpec w_MD_copy ({ frames := 0, cells := 0, slots := 0, locals := 0 })).room s m [.ref (ad 0), .int (xw_i p1), .int (xw_i p2)].toArray below meth c H locs 0 0 (MQ below (va_Qv (fun u => u = sZ) (xw_H D vwCl A kdR 29 ad cs Z tt) A) [.ref (ad 0), .int (xw_i p1), .int (xw_i p2)].toArray s 0 0 A) (F0 m 110 ls []) := by
    intro c1_110 c2_110 k144 hk144 n
    induction n with
    | zero =>
      intro sq i3_110 h
      cases (show (none : Option xw_S) = some sZ from h)
    | succ n ih110 =>
      intro s25 i3_110 h H locs ls hP hS hl
      unfold lp_MD_copy_110 at h
      refine lv_iload_n hx hb d_MD_copy_110 rfl (lv_at hl 3 rfl) ?_
      refine lv_bipush (v := xw_i 20) hx hb d_MD_copy_111 (by decide) ?_
      obtain ⟨hg26, h⟩ := xw_grdI h
      refine xw_icmp_ge (tgt := 144) hx hb hg26 (by decide) d_MD_copy_113 (by decide) (fun hc27 => ?_) (fun hc27 => ?_)
      · replace h := xw_ifT hc27 h
        exact hk144 s25 h _ _ _ hP hS (lv_sub hl [] rfl)
      · replace h := xw_ifF hc27 h
        refine lv_aload_n hx hb d_MD_copy_116 rfl (lv_at hl 0 rfl) ?_
        refine xw_getR (C := "AdviceWeaverModel") (T := T_MD) hx hb hts hin_MD hown hK hP (by decide) kr_MD (by decide) rfl 9 (by decide) (hts _ hw_450) (fun _ h9 => h9) rfl d_MD_copy_117 ?_
        refine lv_bipush (v := xw_i 20) hx hb d_MD_copy_120 (by decide) ?_
        refine lv_iload_n hx hb d_MD_copy_122 rfl (lv_at hl 2 rfl) ?_
        refine xw_imul hx hb d_MD_copy_123 ?_
        refine lv_iload_n hx hb d_MD_copy_124 rfl (lv_at hl 3 rfl) ?_
        refine xw_iadd hx hb d_MD_copy_125 ?_
        refine lv_aload_n hx hb d_MD_copy_126 rfl (lv_at hl 0 rfl) ?_
        refine xw_getR (C := "AdviceWeaverModel") (T := T_MD) hx hb hts hin_MD hown hK hP (by decide) kr_MD (by decide) rfl 9 (by decide) (hts _ hw_450) (fun _ h9 => h9) rfl d_MD_copy_127 ?_
        refine lv_bipush (v := xw_i 20) hx hb d_MD_copy_130 (by decide) ?_
        refine lv_iload_n hx hb d_MD_copy_132 rfl (lv_at hl 1 rfl) ?_
        refine xw_imul hx hb d_MD_copy_133 ?_
        refine lv_iload_n hx hb d_MD_copy_134 rfl (lv_at hl 3 rfl) ?_
        refine xw_iadd hx hb d_MD_copy_135 ?_
        obtain ⟨hg28, h⟩ := xw_grdI h
        refine xw_iald hx hb hK hP (by decide) kr_m_handler (by decide) hg28 d_MD_copy_136 ?_
        obtain ⟨hg29, h⟩ := xw_grdI h
        refine xw_iast hx hb hK hP hD hS (by decide) kr_m_handler (by decide) hg29 d_MD_copy_137 (fun s30 e31 H locs hP hS => ?_)
        replace h := xw_letI e31 h
        obtain ⟨v32, e33⟩ : ∃ z, z = i3_110 + 1 := ⟨_, rfl⟩
        replace h := xw_letI e33 h
        refine xw_iinc (lv' := [(3, .int (xw_i v32)), (0, .ref (ad 0)), (1, .int (xw_i c1_110)), (2, .int (xw_i c2_110))]) hx hb d_MD_copy_138 hl (k := 3) rfl (by decide) (by rw [e33]; rfl) (fun ls hl => ?_)
        refine lv_goto (tgt := 110) hx hb d_MD_copy_141 (by decide) ?_
        exact ih110 s30 v32 h _ _ _ hP hS (lv_sub hl [1, 2, 3, 0] rfl)
  unfold f_MD_copy at h
  refine lv_aload_n hx hb d_MD_copy_0 rfl (lv_at hl 0 rfl) ?_
  refine xw_getR (C := "AdviceWeaverModel") (T := T_MD) hx hb hts hin_MD hown hK hP (by decide) kr_MD (by decide) rfl 2 (by decide) (hts _ hw_439) (fun _ h9 => h9) rfl d_MD_copy_1 ?_
  refine lv_iload_n hx hb d_MD_copy_4 rfl (lv_at hl 2 rfl) ?_
  refine lv_aload_n hx hb d_MD_copy_5 rfl (lv_at hl 0 rfl) ?_
  refine xw_getR (C := "AdviceWeaverModel") (T := T_MD) hx hb hts hin_MD hown hK hP (by decide) kr_MD (by decide) rfl 2 (by decide) (hts _ hw_439) (fun _ h9 => h9) rfl d_MD_copy_6 ?_
  refine lv_iload_n hx hb d_MD_copy_9 rfl (lv_at hl 1 rfl) ?_
  obtain ⟨hg1, h⟩ := xw_grdI h
  refine xw_iald hx hb hK hP (by decide) kr_m_name (by decide) hg1 d_MD_copy_10 ?_
  obtain ⟨hg2, h⟩ := xw_grdI h
  refine xw_iast hx hb hK hP hD hS (by decide) kr_m_name (by decide) hg2 d_MD_copy_11 (fun s3 e4 H locs hP hS => ?_)
  replace h := xw_letI e4 h
  refine lv_aload_n hx hb d_MD_copy_12 rfl (lv_at hl 0 rfl) ?_
  refine xw_getR (C := "AdviceWeaverModel") (T := T_MD) hx hb hts hin_MD hown hK hP (by decide) kr_MD (by decide) rfl 3 (by decide) (hts _ hw_444) (fun _ h9 => h9) rfl d_MD_copy_13 ?_
  refine lv_iload_n hx hb d_MD_copy_16 rfl (lv_at hl 2 rfl) ?_
  refine lv_aload_n hx hb d_MD_copy_17 rfl (lv_at hl 0 rfl) ?_
  refine xw_getR (C := "AdviceWeaverModel") (T := T_MD) hx hb hts hin_MD hown hK hP (by decide) kr_MD (by decide) rfl 3 (by decide) (hts _ hw_444) (fun _ h9 => h9) rfl d_MD_copy_18 ?_
  refine lv_iload_n hx hb d_MD_copy_21 rfl (lv_at hl 1 rfl) ?_
  refine xw_iald hx hb hK hP (by decide) kr_m_args (by decide) hg1 d_MD_copy_22 ?_
  refine xw_iast hx hb hK hP hD hS (by decide) kr_m_args (by decide) hg2 d_MD_copy_23 (fun s5 e6 H locs hP hS => ?_)
  replace h := xw_letI e6 h
  refine lv_aload_n hx hb d_MD_copy_24 rfl (lv_at hl 0 rfl) ?_
  refine xw_getR (C := "AdviceWeaverModel") (T := T_MD) hx hb hts hin_MD hown hK hP (by decide) kr_MD (by decide) rfl 4 (by decide) (hts _ hw_445) (fun _ h9 => h9) rfl d_MD_copy_25 ?_
  refine lv_iload_n hx hb d_MD_copy_28 rfl (lv_at hl 2 rfl) ?_
  refine lv_aload_n hx hb d_MD_copy_29 rfl (lv_at hl 0 rfl) ?_
  refine xw_getR (C := "AdviceWeaverModel") (T := T_MD) hx hb hts hin_MD hown hK hP (by decide) kr_MD (by decide) rfl 4 (by decide) (hts _ hw_445) (fun _ h9 => h9) rfl d_MD_copy_30 ?_
  refine lv_iload_n hx hb d_MD_copy_33 rfl (lv_at hl 1 rfl) ?_
  refine xw_iald hx hb hK hP (by decide) kr_m_locals (by decide) hg1 d_MD_copy_34 ?_
  refine xw_iast hx hb hK hP hD hS (by decide) kr_m_locals (by decide) hg2 d_MD_copy_35 (fun s7 e8 H locs hP hS => ?_)
  replace h := xw_letI e8 h
  refine lv_aload_n hx hb d_MD_copy_36 rfl (lv_at hl 0 rfl) ?_
  refine xw_getR (C := "AdviceWeaverModel") (T := T_MD) hx hb hts hin_MD hown hK hP (by decide) kr_MD (by decide) rfl 5 (by decide) (hts _ hw_446) (fun _ h9 => h9) rfl d_MD_copy_37 ?_
  refine lv_iload_n hx hb d_MD_copy_40 rfl (lv_at hl 2 rfl) ?_
  refine lv_aload_n hx hb d_MD_copy_41 rfl (lv_at hl 0 rfl) ?_
  refine xw_getR (C := "AdviceWeaverModel") (T := T_MD) hx hb hts hin_MD hown hK hP (by decide) kr_MD (by decide) rfl 5 (by decide) (hts _ hw_446) (fun _ h9 => h9) rfl d_MD_copy_42 ?_
  refine lv_iload_n hx hb d_MD_copy_45 rfl (lv_at hl 1 rfl) ?_
  refine xw_iald hx hb hK hP (by decide) kr_m_room (by decide) hg1 d_MD_copy_46 ?_
  refine xw_iast hx hb hK hP hD hS (by decide) kr_m_room (by decide) hg2 d_MD_copy_47 (fun s9 e10 H locs hP hS => ?_)
  replace h := xw_letI e10 h
  refine lv_aload_n hx hb d_MD_copy_48 rfl (lv_at hl 0 rfl) ?_
  refine xw_getR (C := "AdviceWeaverModel") (T := T_MD) hx hb hts hin_MD hown hK hP (by decide) kr_MD (by decide) rfl 6 (by decide) (hts _ hw_447) (fun _ h9 => h9) rfl d_MD_copy_49 ?_
  refine lv_iload_n hx hb d_MD_copy_52 rfl (lv_at hl 2 rfl) ?_
  refine lv_aload_n hx hb d_MD_copy_53 rfl (lv_at hl 0 rfl) ?_
  refine xw_getR (C := "AdviceWeaverModel") (T := T_MD) hx hb hts hin_MD hown hK hP (by decide) kr_MD (by decide) rfl 6 (by decide) (hts _ hw_447) (fun _ h9 => h9) rfl d_MD_copy_54 ?_
  refine lv_iload_n hx hb d_MD_copy_57 rfl (lv_at hl 1 rfl) ?_
  refine xw_iald hx hb hK hP (by decide) kr_m_length (by decide) hg1 d_MD_copy_58 ?_
  refine xw_iast hx hb hK hP hD hS (by decide) kr_m_length (by decide) hg2 d_MD_copy_59 (fun s11 e12 H locs hP hS => ?_)
  replace h := xw_letI e12 h
  refine lv_aload_n hx hb d_MD_copy_60 rfl (lv_at hl 0 rfl) ?_
  refine xw_getR (C := "AdviceWeaverModel") (T := T_MD) hx hb hts hin_MD hown hK hP (by decide) kr_MD (by decide) rfl 8 (by decide) (hts _ hw_449) (fun _ h9 => h9) rfl d_MD_copy_61 ?_
  refine lv_iload_n hx hb d_MD_copy_64 rfl (lv_at hl 2 rfl) ?_
  refine lv_aload_n hx hb d_MD_copy_65 rfl (lv_at hl 0 rfl) ?_
  refine xw_getR (C := "AdviceWeaverModel") (T := T_MD) hx hb hts hin_MD hown hK hP (by decide) kr_MD (by decide) rfl 8 (by decide) (hts _ hw_449) (fun _ h9 => h9) rfl d_MD_copy_66 ?_
  refine lv_iload_n hx hb d_MD_copy_69 rfl (lv_at hl 1 rfl) ?_
  refine xw_iald hx hb hK hP (by decide) kr_m_handlers (by decide) hg1 d_MD_copy_70 ?_
  refine xw_iast hx hb hK hP hD hS (by decide) kr_m_handlers (by decide) hg2 d_MD_copy_71 (fun s13 e14 H locs hP hS => ?_)
  replace h := xw_letI e14 h
  refine lv_iconst (v := xw_i 0) hx hb d_MD_copy_72 rfl ?_
  refine lv_istore_n hx hb d_MD_copy_73 rfl hl (by decide) rfl (fun ls hl => ?_)
  refine xw_jnI (fun j => ∀ (sq : xw_S), j sq = some sZ → ∀ (H : Heap) (locs : List Loc) (ls : Array Slot), va_P D vwCl (xw_ws kdR 29 ad cs Z sq) H → va_S A s.heap H locs → lv_has ls 4 [(0, .ref (ad 0)), (1, .int (xw_i p1)), (2, .int (xw_i p2))] → W p l e (headSpec w_MD_copy ({ frames := 0, cells := 0, slots := 0, locals := 0 })).room s m [.ref (ad 0), .int (xw_i p1), .int (xw_i p2)].toArray below meth c H locs 0 0 (MQ below (va_Qv (fun u => u = sZ) (xw_H D vwCl A kdR 29 ad cs Z tt) A) [.ref (ad 0), .int (xw_i p1), .int (xw_i p2)].toArray s 0 0 A) (F0 m 108 ls [])) h ?_ ?_
  · intro s24 h H locs ls hP hS hl
    refine lv_iconst (v := xw_i 0) hx hb d_MD_copy_108 rfl ?_
    refine lv_istore_n hx hb d_MD_copy_109 rfl hl (by decide) rfl (fun ls hl => ?_)
    refine xw_jnI (fun j => ∀ (sq : xw_S), j sq = some sZ → ∀ (H : Heap) (locs : List Loc) (ls : Array Slot), va_P D vwCl (xw_ws kdR 29 ad cs Z sq) H → va_S A s.heap H locs → lv_has ls 4 [] → W p l e (headSpec w_MD_copy ({ frames := 0, cells := 0, slots := 0, locals := 0 })).room s m [.ref (ad 0), .int (xw_i p1), .int (xw_i p2)].toArray below meth c H locs 0 0 (MQ below (va_Qv (fun u => u = sZ) (xw_H D vwCl A kdR 29 ad cs Z tt) A) [.ref (ad 0), .int (xw_i p1), .int (xw_i p2)].toArray s 0 0 A) (F0 m 144 ls [])) h ?_ ?_
    · intro s34 h H locs ls hP hS hl
      exact xw_vretE hx hb hr hlk hP hK hD hX hS h d_MD_copy_144
    · intro k144 hk144 h
      exact hlp110 p1 p2 k144 hk144 fu s24 0 h _ _ _ hP hS (lv_sub hl [1, 2, 3, 0] rfl)
  · intro k108 hk108 h
    exact hlp74 p1 p2 k108 hk108 fu s13 0 h _ _ _ hP hS (lv_sub hl [1, 2, 3, 0] rfl)
def lp_MD_load_33 (fu : Nat) (k62 : xw_S → Option (xw_S × Int)) : Nat → xw_S → Int → Option (xw_S × Int)
  | 0, _, _ => none
  | n + 1, s13, i1_33 =>
    xw_grd (xw_r (s13.1 0 14)) (xw_if (0 ≤ s13.1 0 14) (k62 s13)
     (xw_grd (xw_r i1_33 ∧ xw_r (s13.1 0 11)) (xw_if (s13.1 0 11 ≤ i1_33) (k62 s13)
     (xw_bnd (f_MD_readMethod fu s13 (8 + i1_33)) (fun s18 => xw_let (i1_33 + 1) (fun v21 => lp_MD_load_33 fu k62 n s18 v21))))))
def lp_MD_load_104 (fu : Nat) (k134 : xw_S → Int → Option (xw_S × Int)) (k146 : xw_S → Option (xw_S × Int)) : Nat → xw_S → Int → Option (xw_S × Int)
  | 0, _, _ => none
  | n + 1, s33, i1_104 =>
    xw_grd (xw_r i1_104 ∧ xw_r (s33.1 0 11)) (xw_if (s33.1 0 11 ≤ i1_104) (k146 s33)
     (xw_bn2 (f_MD_formed fu s33 (8 + i1_104)) (fun s36 r38 => xw_grd (xw_r r38) (xw_if (r38 = 0) (k134 s36 i1_104)
     (xw_bn2 (f_MD_explore fu s36 (8 + i1_104)) (fun s41 r43 => xw_grd (xw_r r43) (xw_if (r43 = 0) (k134 s41 i1_104)
     (xw_let (i1_104 + 1) (fun v46 => lp_MD_load_104 fu k134 k146 n s41 v46)))))))))
def lp_MD_load_161 (fu : Nat) (k184 : xw_S → Option (xw_S × Int)) : Nat → xw_S → Int → Option (xw_S × Int)
  | 0, _, _ => none
  | n + 1, s54, i1_161 =>
    xw_grd (xw_r i1_161 ∧ xw_r (s54.1 0 10)) (xw_if (s54.1 0 10 ≤ i1_161) (k184 s54)
     (xw_bnd (f_MD_copy fu s54 (8 + i1_161) i1_161) (fun s57 => xw_let (i1_161 + 1) (fun v60 => lp_MD_load_161 fu k184 n s57 v60))))
def lp_MD_load_186 (fu : Nat) (k205 : xw_S → Option (xw_S × Int)) : Nat → xw_S → Int → Option (xw_S × Int)
  | 0, _, _ => none
  | n + 1, s63, i1_186 =>
    xw_grd (xw_r i1_186) (xw_if (12 ≤ i1_186) (k205 s63)
     (xw_grd ((0 ≤ i1_186 ∧ i1_186 < ((12 : Nat) : Int))) (xw_let (xw_st s63 13 (i1_186).toNat 0) (fun s67 => xw_let (i1_186 + 1) (fun v69 => lp_MD_load_186 fu k205 n s67 v69)))))
def f_MD_load (fu : Nat) (s0 : xw_S) : Option (xw_S × Int) :=
 xw_let (xw_st s0 0 13 0) (fun s1 => xw_let (xw_st s1 0 14 (-1)) (fun s3 => xw_bn2 (f_MD_next fu s3 202 202) (fun s5 r7 => xw_bn2 (f_MD_next fu s5 1 4) (fun s8 r10 => xw_let (xw_st s8 0 11 r10) (fun s11 => xw_jn (fun (s23 : xw_S) => xw_jn (fun (s30 : xw_S) => xw_grd (xw_r (s30.1 0 14)) (xw_if (s30.1 0 14 < 0) (xw_jn (fun (s49 : xw_S) => xw_let (xw_st s49 0 10 (s49.1 0 11)) (fun s50 => xw_let (xw_st s50 0 12 0) (fun s52 => xw_jn (fun (s62 : xw_S) => xw_jn (fun (s71 : xw_S) => some (s71, s71.1 0 10))
 (fun (k205 : xw_S → Option (xw_S × Int)) => lp_MD_load_186 fu k205 fu s62 0))
 (fun (k184 : xw_S → Option (xw_S × Int)) => lp_MD_load_161 fu k184 fu s52 0))))
 (fun (k146 : xw_S → Option (xw_S × Int)) => xw_jn (fun (s48 : xw_S) (i1_134 : Int) => some (s48, (-1000) - i1_134))
 (fun (k134 : xw_S → Int → Option (xw_S × Int)) => lp_MD_load_104 fu k134 k146 fu s30 0)))
 (some (s30, (-1) - (s30.1 0 14)))))
 (fun (j88 : xw_S → Option (xw_S × Int)) => xw_grd (xw_r (s23.1 0 14)) (xw_if (0 ≤ s23.1 0 14) (j88 s23)
 (xw_grd (xw_r (s23.1 0 13) ∧ xw_r (s23.1 0 1)) (xw_if (s23.1 0 1 ≤ s23.1 0 13) (j88 s23)
 (xw_let (xw_st s23 0 14 (s23.1 0 13)) (fun s28 => j88 s28)))))))
 (fun (k62 : xw_S → Option (xw_S × Int)) => lp_MD_load_33 fu k62 fu s11 0))))))
set_option maxRecDepth 100000 in
set_option maxHeartbeats 4000000 in
theorem c_MD_load (l : Launch) (D : va_G) (A : Nat → Prop) (ad : Nat → Nat) (cs : Nat → ClassId) (Z : va_W) (tt : Nat → Nat) (fu : Nat) (s0 sZ : xw_S) (r0 : Int) (h : f_MD_load fu s0 = some (sZ, r0)) : Met l y_MD_load w_MD_load ({ frames := 4, cells := 0, slots := 0, locals := 94 }) (va_Pc [.ref (ad 0)] (xw_H D vwCl A kdR 29 ad cs Z tt s0)) (va_Qi (fun r u => r = xw_i r0 ∧ u = sZ) (xw_H D vwCl A kdR 29 ad cs Z tt) A) 0 0 A := by
  refine Met.ofW (cc := b_MD_load) (maxL := 2) (ret := (some .int)) (by decide) rfl ?_
  intro p e s m args below meth c s₁ B hml hv
  obtain ⟨rfl, hP, hK, hD, hX⟩ := hv
  have hx := B.exec
  have hb := B.bytes
  have hr := B.returns
  have hts0 := atoms_spec (ws := w_MD_load) B.pre
  have hts := fun w (hw : w ∈ wAll) => hts0 w (List.mem_cons_of_mem _ hw)
  have hown : s.vm.findClass "AdviceWeaverModel" = some m.cls := findClass_of_methodNamed B.named
  have hlk := B.notSynchronized
  clear hts0 B
  have hS : va_S A s.heap s.heap [] := va_S.rf
  have hl := lv_entry [.ref (ad 0)] (n := 2) (Nat.le_of_ble_eq_true rfl)
  rw [lg_entry_eq]
  generalize (lg_sl [.ref (ad 0)] ++ List.replicate (2 - (lg_sl [.ref (ad 0)]).length) Slot.unset).toArray = ls at hl ⊢
  have hl : lv_has ls 2 [(0, .ref (ad 0))] := hl
  have hlp33 : ∀ (k62 : xw_S → Option (xw_S × Int)) (hk62 : ∀ (sq : xw_S), k62 sq = some (sZ, r0) → ∀ (H : Heap) (locs : List Loc) (ls : Array Slot), va_P D vwCl (xw_ws kdR 29 ad cs Z sq) H → va_S A s.heap H locs → lv_has ls 2 [(0, .ref (ad 0))] → W p l e (headSpec w_MD_load ({ frames := 4, cells := 0, slots := 0, locals := 94 })).room s m [.ref (ad 0)].toArray below meth c H locs 0 0 (MQ below (va_Qi (fun r u => r = xw_i r0 ∧ u = sZ) (xw_H D vwCl A kdR 29 ad cs Z tt) A) [.ref (ad 0)].toArray s 0 0 A) (F0 m 62 ls [])) (n : Nat), ∀ (sq : xw_S) (i1_33 : Int), lp_MD_load_33 fu k62 n sq i1_33 = some (sZ, r0) → ∀ (H : Heap) (locs : List Loc) (ls : Array Slot), va_P D vwCl (xw_ws kdR 29 ad cs Z sq) H → va_S A s.heap H locs → lv_has ls 2 [(0, .ref (ad 0)), (1, .int (xw_i i1_33))] → W p l e (headSpec w_MD_load ({ frames := 4, cells := 0, slots := 0, locals := 94 })).room s m [.ref (ad 0)].toArray below meth c H locs 0 0 (MQ below (va_Qi (fun r u => r = xw_i r0 ∧ u = sZ) (xw_H D vwCl A kdR 29 ad cs Z tt) A) [.ref (ad 0)].toArray s 0 0 A) (F0 m 33 ls []) := by
    intro k62 hk62 n
    induction n with
    | zero =>
      intro sq i1_33 h
      cases (show (none : Option (xw_S × Int)) = some (sZ, r0) from h)
    | succ n ih33 =>
      intro s13 i1_33 h H locs ls hP hS hl
      unfold lp_MD_load_33 at h
      refine lv_aload_n hx hb d_MD_load_33 rfl (lv_at hl 0 rfl) ?_
      refine xw_getI (C := "AdviceWeaverModel") (T := T_MD) hx hb hts hin_MD hown hK hP (by decide) kr_MD (by decide) rfl 14 (by decide) (hts _ hw_438) (fun _ h9 => h9) rfl d_MD_load_34 ?_
      obtain ⟨hg14, h⟩ := xw_grdI h
      refine xw_if_ge (tgt := 62) hx hb hg14 d_MD_load_37 (by decide) (fun hc15 => ?_) (fun hc15 => ?_)
      · replace h := xw_ifT hc15 h
        exact hk62 s13 h _ _ _ hP hS (lv_sub hl [0] rfl)
      · replace h := xw_ifF hc15 h
        refine lv_iload_n hx hb d_MD_load_40 rfl (lv_at hl 1 rfl) ?_
        refine lv_aload_n hx hb d_MD_load_41 rfl (lv_at hl 0 rfl) ?_
        refine xw_getI (C := "AdviceWeaverModel") (T := T_MD) hx hb hts hin_MD hown hK hP (by decide) kr_MD (by decide) rfl 11 (by decide) (hts _ hw_478) (fun _ h9 => h9) rfl d_MD_load_42 ?_
        obtain ⟨hg16, h⟩ := xw_grdI h
        refine xw_icmp_ge (tgt := 62) hx hb hg16.1 hg16.2 d_MD_load_45 (by decide) (fun hc17 => ?_) (fun hc17 => ?_)
        · replace h := xw_ifT hc17 h
          exact hk62 s13 h _ _ _ hP hS (lv_sub hl [0] rfl)
        · replace h := xw_ifF hc17 h
          refine lv_aload_n hx hb d_MD_load_48 rfl (lv_at hl 0 rfl) ?_
          refine lv_bipush (v := xw_i 8) hx hb d_MD_load_49 (by decide) ?_
          refine lv_iload_n hx hb d_MD_load_51 rfl (lv_at hl 1 rfl) ?_
          refine xw_iadd hx hb d_MD_load_52 ?_
          obtain ⟨s18, hc19, h⟩ := xw_bndI h
          refine xw_callVv (C := "AdviceWeaverModel") (T := T_MD) ⟨hx, hb, hml, hown, hts⟩ (c_MD_readMethod l D A ad cs Z tt fu s13 s18 (8 + i1_33) hc19) (cwV 1 hts (gd_V hw_505 hw_506 hw_507 hw_433 hw_508) rfl rfl rfl (by decide +kernel) ⟨Nat.le_of_ble_eq_true rfl, Nat.le_of_ble_eq_true rfl⟩) hP hK hD hX hS (by decide) kr_MD (by decide) rfl rfl hl.1 rfl (Nat.le_of_ble_eq_true rfl) d_MD_load_53 (fun H locs hP hS => ?_)
          obtain ⟨v21, e22⟩ : ∃ z, z = i1_33 + 1 := ⟨_, rfl⟩
          replace h := xw_letI e22 h
          refine xw_iinc (lv' := [(1, .int (xw_i v21)), (0, .ref (ad 0))]) hx hb d_MD_load_56 hl (k := 1) rfl (by decide) (by rw [e22]; rfl) (fun ls hl => ?_)
          refine lv_goto (tgt := 33) hx hb d_MD_load_59 (by decide) ?_
          exact ih33 s18 v21 h _ _ _ hP hS (lv_sub hl [1, 0] rfl)
  have hlp104 : ∀ (k134 : xw_S → Int → Option (xw_S × Int)) (hk134 : ∀ (sq : xw_S) (i1_134 : Int), k134 sq i1_134 = some (sZ, r0) → ∀ (H : Heap) (locs : List Loc) (ls : Array Slot), va_P D vwCl (xw_ws kdR 29 ad cs Z sq) H → va_S A s.heap H locs → lv_has ls 2 [(1, .int (xw_i i1_134))] → W p l e (headSpec w_MD_load ({ frames := 4, cells := 0, slots := 0, locals := 94 })).room s m [.ref (ad 0)].toArray below meth c H locs 0 0 (MQ below (va_Qi (fun r u => r = xw_i r0 ∧ u = sZ) (xw_H D vwCl A kdR 29 ad cs Z tt) A) [.ref (ad 0)].toArray s 0 0 A) (F0 m 134 ls [])) (k146 : xw_S → Option (xw_S × Int)) (hk146 : ∀ (sq : xw_S), k146 sq = some (sZ, r0) → ∀ (H : Heap) (locs : List Loc) (ls : Array Slot), va_P D vwCl (xw_ws kdR 29 ad cs Z sq) H → va_S A s.heap H locs → lv_has ls 2 [(0, .ref (ad 0))] → W p l e (headSpec w_MD_load ({ frames := 4, cells := 0, slots := 0, locals := 94 })).room s m [.ref (ad 0)].toArray below meth c H locs 0 0 (MQ below (va_Qi (fun r u => r = xw_i r0 ∧ u = sZ) (xw_H D vwCl A kdR 29 ad cs Z tt) A) [.ref (ad 0)].toArray s 0 0 A) (F0 m 146 ls [])) (n : Nat), ∀ (sq : xw_S) (i1_104 : Int), lp_MD_load_104 fu k134 k146 n sq i1_104 = some (sZ, r0) → ∀ (H : Heap) (locs : List Loc) (ls : Array Slot), va_P D vwCl (xw_ws kdR 29 ad cs Z sq) H → va_S A s.heap H locs → lv_has ls 2 [(0, .ref (ad 0)), (1, .int (xw_i i1_104))] → W p l e (headSpec w_MD_load ({ frames := 4, cells := 0, slots := 0, locals := 94 })).room s m [.ref (ad 0)].toArray below meth c H locs 0 0 (MQ below (va_Qi (fun r u => r = xw_i r0 ∧ u = sZ) (xw_H D vwCl A kdR 29 ad cs Z tt) A) [.ref (ad 0)].toArray s 0 0 A) (F0 m 104 ls []) := by
    intro k134 hk134 k146 hk146 n
    induction n with
    | zero =>
      intro sq i1_104 h
      cases (show (none : Option (xw_S × Int)) = some (sZ, r0) from h)
    | succ n ih104 =>
      intro s33 i1_104 h H locs ls hP hS hl
      unfold lp_MD_load_104 at h
      refine lv_iload_n hx hb d_MD_load_104 rfl (lv_at hl 1 rfl) ?_
      refine lv_aload_n hx hb d_MD_load_105 rfl (lv_at hl 0 rfl) ?_
      refine xw_getI (C := "AdviceWeaverModel") (T := T_MD) hx hb hts hin_MD hown hK hP (by decide) kr_MD (by decide) rfl 11 (by decide) (hts _ hw_478) (fun _ h9 => h9) rfl d_MD_load_106 ?_
      obtain ⟨hg34, h⟩ := xw_grdI h
      refine xw_icmp_ge (tgt := 146) hx hb hg34.1 hg34.2 d_MD_load_109 (by decide) (fun hc35 => ?_) (fun hc35 => ?_)
      · replace h := xw_ifT hc35 h
        exact hk146 s33 h _ _ _ hP hS (lv_sub hl [0] rfl)
      · replace h := xw_ifF hc35 h
        refine lv_aload_n hx hb d_MD_load_112 rfl (lv_at hl 0 rfl) ?_
        refine lv_bipush (v := xw_i 8) hx hb d_MD_load_113 (by decide) ?_
        refine lv_iload_n hx hb d_MD_load_115 rfl (lv_at hl 1 rfl) ?_
        refine xw_iadd hx hb d_MD_load_116 ?_
        obtain ⟨s36, r38, hc37, h⟩ := xw_bn2I h
        refine xw_callVi (C := "AdviceWeaverModel") (T := T_MD) ⟨hx, hb, hml, hown, hts⟩ (c_MD_formed l D A ad cs Z tt fu s33 s36 (8 + i1_104) r38 hc37) (cwV 1 hts (gd_V hw_509 hw_510 hw_511 hw_433 hw_512) rfl rfl rfl (by decide +kernel) ⟨Nat.le_of_ble_eq_true rfl, Nat.le_of_ble_eq_true rfl⟩) hP hK hD hX hS (by decide) kr_MD (by decide) rfl rfl hl.1 rfl (Nat.le_of_ble_eq_true rfl) d_MD_load_117 (fun H locs hP hS => ?_)
        obtain ⟨hg39, h⟩ := xw_grdI h
        refine xw_if_eq (tgt := 134) hx hb hg39 d_MD_load_120 (by decide) (fun hc40 => ?_) (fun hc40 => ?_)
        · replace h := xw_ifT hc40 h
          exact hk134 s36 i1_104 h _ _ _ hP hS (lv_sub hl [1] rfl)
        · replace h := xw_ifF hc40 h
          refine lv_aload_n hx hb d_MD_load_123 rfl (lv_at hl 0 rfl) ?_
          refine lv_bipush (v := xw_i 8) hx hb d_MD_load_124 (by decide) ?_
          refine lv_iload_n hx hb d_MD_load_126 rfl (lv_at hl 1 rfl) ?_
          refine xw_iadd hx hb d_MD_load_127 ?_
          obtain ⟨s41, r43, hc42, h⟩ := xw_bn2I h
          refine xw_callVi (C := "AdviceWeaverModel") (T := T_MD) ⟨hx, hb, hml, hown, hts⟩ (c_MD_explore l D A ad cs Z tt fu s36 s41 (8 + i1_104) r43 hc42) (cwV 1 hts (gd_V hw_513 hw_514 hw_515 hw_433 hw_516) rfl rfl rfl (by decide +kernel) ⟨Nat.le_of_ble_eq_true rfl, Nat.le_of_ble_eq_true rfl⟩) hP hK hD hX hS (by decide) kr_MD (by decide) rfl rfl hl.1 rfl (Nat.le_of_ble_eq_true rfl) d_MD_load_128 (fun H locs hP hS => ?_)
          obtain ⟨hg44, h⟩ := xw_grdI h
          refine xw_if_ne (tgt := 140) hx hb hg44 d_MD_load_131 (by decide) (fun hc45 => ?_) (fun hc45 => ?_)
          · replace h := xw_ifF hc45 h
            obtain ⟨v46, e47⟩ : ∃ z, z = i1_104 + 1 := ⟨_, rfl⟩
            replace h := xw_letI e47 h
            refine xw_iinc (lv' := [(1, .int (xw_i v46)), (0, .ref (ad 0))]) hx hb d_MD_load_140 hl (k := 1) rfl (by decide) (by rw [e47]; rfl) (fun ls hl => ?_)
            refine lv_goto (tgt := 104) hx hb d_MD_load_143 (by decide) ?_
            exact ih104 s41 v46 h _ _ _ hP hS (lv_sub hl [1, 0] rfl)
          · replace h := xw_ifT hc45 h
            exact hk134 s41 i1_104 h _ _ _ hP hS (lv_sub hl [1] rfl)
  have hlp161 : ∀ (k184 : xw_S → Option (xw_S × Int)) (hk184 : ∀ (sq : xw_S), k184 sq = some (sZ, r0) → ∀ (H : Heap) (locs : List Loc) (ls : Array Slot), va_P D vwCl (xw_ws kdR 29 ad cs Z sq) H → va_S A s.heap H locs → lv_has ls 2 [(0, .ref (ad 0))] → W p l e (headSpec w_MD_load ({ frames := 4, cells := 0, slots := 0, locals := 94 })).room s m [.ref (ad 0)].toArray below meth c H locs 0 0 (MQ below (va_Qi (fun r u => r = xw_i r0 ∧ u = sZ) (xw_H D vwCl A kdR 29 ad cs Z tt) A) [.ref (ad 0)].toArray s 0 0 A) (F0 m 184 ls [])) (n : Nat), ∀ (sq : xw_S) (i1_161 : Int), lp_MD_load_161 fu k184 n sq i1_161 = some (sZ, r0) → ∀ (H : Heap) (locs : List Loc) (ls : Array Slot), va_P D vwCl (xw_ws kdR 29 ad cs Z sq) H → va_S A s.heap H locs → lv_has ls 2 [(0, .ref (ad 0)), (1, .int (xw_i i1_161))] → W p l e (headSpec w_MD_load ({ frames := 4, cells := 0, slots := 0, locals := 94 })).room s m [.ref (ad 0)].toArray below meth c H locs 0 0 (MQ below (va_Qi (fun r u => r = xw_i r0 ∧ u = sZ) (xw_H D vwCl A kdR 29 ad cs Z tt) A) [.ref (ad 0)].toArray s 0 0 A) (F0 m 161 ls []) := by
    intro k184 hk184 n
    induction n with
    | zero =>
      intro sq i1_161 h
      cases (show (none : Option (xw_S × Int)) = some (sZ, r0) from h)
    | succ n ih161 =>
      intro s54 i1_161 h H locs ls hP hS hl
      unfold lp_MD_load_161 at h
      refine lv_iload_n hx hb d_MD_load_161 rfl (lv_at hl 1 rfl) ?_
      refine lv_aload_n hx hb d_MD_load_162 rfl (lv_at hl 0 rfl) ?_
      refine xw_getI (C := "AdviceWeaverModel") (T := T_MD) hx hb hts hin_MD hown hK hP (by decide) kr_MD (by decide) rfl 10 (by decide) (hts _ hw_517) (fun _ h9 => h9) rfl d_MD_load_163 ?_
      obtain ⟨hg55, h⟩ := xw_grdI h
      refine xw_icmp_ge (tgt := 184) hx hb hg55.1 hg55.2 d_MD_load_166 (by decide) (fun hc56 => ?_) (fun hc56 => ?_)
      · replace h := xw_ifT hc56 h
        exact hk184 s54 h _ _ _ hP hS (lv_sub hl [0] rfl)
      · replace h := xw_ifF hc56 h
        refine lv_aload_n hx hb d_MD_load_169 rfl (lv_at hl 0 rfl) ?_
        refine lv_bipush (v := xw_i 8) hx hb d_MD_load_170 (by decide) ?_
        refine lv_iload_n hx hb d_MD_load_172 rfl (lv_at hl 1 rfl) ?_
        refine xw_iadd hx hb d_MD_load_173 ?_
        refine lv_iload_n hx hb d_MD_load_174 rfl (lv_at hl 1 rfl) ?_
        obtain ⟨s57, hc58, h⟩ := xw_bndI h
        refine xw_callVv (C := "AdviceWeaverModel") (T := T_MD) ⟨hx, hb, hml, hown, hts⟩ (c_MD_copy l D A ad cs Z tt fu s54 s57 (8 + i1_161) i1_161 hc58) (cwV 2 hts (gd_V hw_519 hw_520 hw_521 hw_433 hw_522) rfl rfl rfl (by decide +kernel) ⟨Nat.le_of_ble_eq_true rfl, Nat.le_of_ble_eq_true rfl⟩) hP hK hD hX hS (by decide) kr_MD (by decide) rfl rfl hl.1 rfl (Nat.le_of_ble_eq_true rfl) d_MD_load_175 (fun H locs hP hS => ?_)
        obtain ⟨v60, e61⟩ : ∃ z, z = i1_161 + 1 := ⟨_, rfl⟩
        replace h := xw_letI e61 h
        refine xw_iinc (lv' := [(1, .int (xw_i v60)), (0, .ref (ad 0))]) hx hb d_MD_load_178 hl (k := 1) rfl (by decide) (by rw [e61]; rfl) (fun ls hl => ?_)
        refine lv_goto (tgt := 161) hx hb d_MD_load_181 (by decide) ?_
        exact ih161 s57 v60 h _ _ _ hP hS (lv_sub hl [1, 0] rfl)
  have hlp186 : ∀ (k205 : xw_S → Option (xw_S × Int)) (hk205 : ∀ (sq : xw_S), k205 sq = some (sZ, r0) → ∀ (H : Heap) (locs : List Loc) (ls : Array Slot), va_P D vwCl (xw_ws kdR 29 ad cs Z sq) H → va_S A s.heap H locs → lv_has ls 2 [(0, .ref (ad 0))] → W p l e (headSpec w_MD_load ({ frames := 4, cells := 0, slots := 0, locals := 94 })).room s m [.ref (ad 0)].toArray below meth c H locs 0 0 (MQ below (va_Qi (fun r u => r = xw_i r0 ∧ u = sZ) (xw_H D vwCl A kdR 29 ad cs Z tt) A) [.ref (ad 0)].toArray s 0 0 A) (F0 m 205 ls [])) (n : Nat), ∀ (sq : xw_S) (i1_186 : Int), lp_MD_load_186 fu k205 n sq i1_186 = some (sZ, r0) → ∀ (H : Heap) (locs : List Loc) (ls : Array Slot), va_P D vwCl (xw_ws kdR 29 ad cs Z sq) H → va_S A s.heap H locs → lv_has ls 2 [(0, .ref (ad 0)), (1, .int (xw_i i1_186))] → W p l e (headSpec w_MD_load ({ frames := 4, cells := 0, slots := 0, locals := 94 })).room s m [.ref (ad 0)].toArray below meth c H locs 0 0 (MQ below (va_Qi (fun r u => r = xw_i r0 ∧ u = sZ) (xw_H D vwCl A kdR 29 ad cs Z tt) A) [.ref (ad 0)].toArray s 0 0 A) (F0 m 186 ls []) := by
    intro k205 hk205 n
    induction n with
    | zero =>
      intro sq i1_186 h
      cases (show (none : Option (xw_S × Int)) = some (sZ, r0) from h)
    | succ n ih186 =>
      intro s63 i1_186 h H locs ls hP hS hl
      unfold lp_MD_load_186 at h
      refine lv_iload_n hx hb d_MD_load_186 rfl (lv_at hl 1 rfl) ?_
      refine lv_bipush (v := xw_i 12) hx hb d_MD_load_187 (by decide) ?_
      obtain ⟨hg64, h⟩ := xw_grdI h
      refine xw_icmp_ge (tgt := 205) hx hb hg64 (by decide) d_MD_load_189 (by decide) (fun hc65 => ?_) (fun hc65 => ?_)
      · replace h := xw_ifT hc65 h
        exact hk205 s63 h _ _ _ hP hS (lv_sub hl [0] rfl)
      · replace h := xw_ifF hc65 h
        refine lv_aload_n hx hb d_MD_load_192 rfl (lv_at hl 0 rfl) ?_
        refine xw_getR (C := "AdviceWeaverModel") (T := T_MD) hx hb hts hin_MD hown hK hP (by decide) kr_MD (by decide) rfl 19 (by decide) (hts _ hw_523) (fun _ h9 => h9) rfl d_MD_load_193 ?_
        refine lv_iload_n hx hb d_MD_load_196 rfl (lv_at hl 1 rfl) ?_
        refine lv_iconst (v := xw_i 0) hx hb d_MD_load_197 rfl ?_
        obtain ⟨hg66, h⟩ := xw_grdI h
        refine xw_zast hx hb hK hP hD hS (by decide) kr_m_fails (by decide) hg66 (by decide) d_MD_load_198 (fun s67 e68 H locs hP hS => ?_)
        replace h := xw_letI e68 h
        obtain ⟨v69, e70⟩ : ∃ z, z = i1_186 + 1 := ⟨_, rfl⟩
        replace h := xw_letI e70 h
        refine xw_iinc (lv' := [(1, .int (xw_i v69)), (0, .ref (ad 0))]) hx hb d_MD_load_199 hl (k := 1) rfl (by decide) (by rw [e70]; rfl) (fun ls hl => ?_)
        refine lv_goto (tgt := 186) hx hb d_MD_load_202 (by decide) ?_
        exact ih186 s67 v69 h _ _ _ hP hS (lv_sub hl [1, 0] rfl)
  unfold f_MD_load at h
  refine lv_aload_n hx hb d_MD_load_0 rfl (lv_at hl 0 rfl) ?_
  refine lv_iconst (v := xw_i 0) hx hb d_MD_load_1 rfl ?_
  refine xw_putI (C := "AdviceWeaverModel") (T := T_MD) hx hb hts hin_MD ty_MD ty_MD_ok nm_MD hown hK hP hD hS (by decide) kr_MD (by decide) rfl 13 (by decide) (hts _ hw_437) (fun _ h9 => h9) rfl (by decide +kernel) rfl d_MD_load_2 (fun s1 e2 H locs hP hS => ?_)
  replace h := xw_letI e2 h
  refine lv_aload_n hx hb d_MD_load_5 rfl (lv_at hl 0 rfl) ?_
  refine lv_iconst (v := xw_i (-1)) hx hb d_MD_load_6 rfl ?_
  refine xw_putI (C := "AdviceWeaverModel") (T := T_MD) hx hb hts hin_MD ty_MD ty_MD_ok nm_MD hown hK hP hD hS (by decide) kr_MD (by decide) rfl 14 (by decide) (hts _ hw_438) (fun _ h9 => h9) rfl (by decide +kernel) rfl d_MD_load_7 (fun s3 e4 H locs hP hS => ?_)
  replace h := xw_letI e4 h
  refine lv_aload_n hx hb d_MD_load_10 rfl (lv_at hl 0 rfl) ?_
  refine lv_sipush (v := xw_i 202) hx hb d_MD_load_11 (by decide) ?_
  refine lv_sipush (v := xw_i 202) hx hb d_MD_load_14 (by decide) ?_
  obtain ⟨s5, r7, hc6, h⟩ := xw_bn2I h
  refine xw_callVi (C := "AdviceWeaverModel") (T := T_MD) ⟨hx, hb, hml, hown, hts⟩ (c_MD_next l D A ad cs Z tt fu s3 s5 202 202 r7 hc6) (cwV 2 hts (gd_V hw_440 hw_441 hw_442 hw_433 hw_443) rfl rfl rfl (by decide +kernel) ⟨Nat.le_of_ble_eq_true rfl, Nat.le_of_ble_eq_true rfl⟩) hP hK hD hX hS (by decide) kr_MD (by decide) rfl rfl hl.1 rfl (Nat.le_of_ble_eq_true rfl) d_MD_load_17 (fun H locs hP hS => ?_)
  refine lv_pop hx hb d_MD_load_20 rfl ?_
  refine lv_aload_n hx hb d_MD_load_21 rfl (lv_at hl 0 rfl) ?_
  refine lv_aload_n hx hb d_MD_load_22 rfl (lv_at hl 0 rfl) ?_
  refine lv_iconst (v := xw_i 1) hx hb d_MD_load_23 rfl ?_
  refine lv_iconst (v := xw_i 4) hx hb d_MD_load_24 rfl ?_
  obtain ⟨s8, r10, hc9, h⟩ := xw_bn2I h
  refine xw_callVi (C := "AdviceWeaverModel") (T := T_MD) ⟨hx, hb, hml, hown, hts⟩ (c_MD_next l D A ad cs Z tt fu s5 s8 1 4 r10 hc9) (cwV 2 hts (gd_V hw_440 hw_441 hw_442 hw_433 hw_443) rfl rfl rfl (by decide +kernel) ⟨Nat.le_of_ble_eq_true rfl, Nat.le_of_ble_eq_true rfl⟩) hP hK hD hX hS (by decide) kr_MD (by decide) rfl rfl hl.1 rfl (Nat.le_of_ble_eq_true rfl) d_MD_load_25 (fun H locs hP hS => ?_)
  refine xw_putI (C := "AdviceWeaverModel") (T := T_MD) hx hb hts hin_MD ty_MD ty_MD_ok nm_MD hown hK hP hD hS (by decide) kr_MD (by decide) rfl 11 (by decide) (hts _ hw_478) (fun _ h9 => h9) rfl (by decide +kernel) rfl d_MD_load_28 (fun s11 e12 H locs hP hS => ?_)
  replace h := xw_letI e12 h
  refine lv_iconst (v := xw_i 0) hx hb d_MD_load_31 rfl ?_
  refine lv_istore_n hx hb d_MD_load_32 rfl hl (by decide) rfl (fun ls hl => ?_)
  refine xw_jnI (fun j => ∀ (sq : xw_S), j sq = some (sZ, r0) → ∀ (H : Heap) (locs : List Loc) (ls : Array Slot), va_P D vwCl (xw_ws kdR 29 ad cs Z sq) H → va_S A s.heap H locs → lv_has ls 2 [(0, .ref (ad 0))] → W p l e (headSpec w_MD_load ({ frames := 4, cells := 0, slots := 0, locals := 94 })).room s m [.ref (ad 0)].toArray below meth c H locs 0 0 (MQ below (va_Qi (fun r u => r = xw_i r0 ∧ u = sZ) (xw_H D vwCl A kdR 29 ad cs Z tt) A) [.ref (ad 0)].toArray s 0 0 A) (F0 m 62 ls [])) h ?_ ?_
  · intro s23 h H locs ls hP hS hl
    refine lv_aload_n hx hb d_MD_load_62 rfl (lv_at hl 0 rfl) ?_
    refine xw_getI (C := "AdviceWeaverModel") (T := T_MD) hx hb hts hin_MD hown hK hP (by decide) kr_MD (by decide) rfl 14 (by decide) (hts _ hw_438) (fun _ h9 => h9) rfl d_MD_load_63 ?_
    refine xw_jnI (fun j => ∀ (sq : xw_S), j sq = some (sZ, r0) → ∀ (H : Heap) (locs : List Loc) (ls : Array Slot), va_P D vwCl (xw_ws kdR 29 ad cs Z sq) H → va_S A s.heap H locs → lv_has ls 2 [(0, .ref (ad 0))] → W p l e (headSpec w_MD_load ({ frames := 4, cells := 0, slots := 0, locals := 94 })).room s m [.ref (ad 0)].toArray below meth c H locs 0 0 (MQ below (va_Qi (fun r u => r = xw_i r0 ∧ u = sZ) (xw_H D vwCl A kdR 29 ad cs Z tt) A) [.ref (ad 0)].toArray s 0 0 A) (F0 m 88 ls [])) h ?_ ?_
    · intro s30 h H locs ls hP hS hl
      refine lv_aload_n hx hb d_MD_load_88 rfl (lv_at hl 0 rfl) ?_
      refine xw_getI (C := "AdviceWeaverModel") (T := T_MD) hx hb hts hin_MD hown hK hP (by decide) kr_MD (by decide) rfl 14 (by decide) (hts _ hw_438) (fun _ h9 => h9) rfl d_MD_load_89 ?_
      obtain ⟨hg31, h⟩ := xw_grdI h
      refine xw_if_lt (tgt := 102) hx hb hg31 d_MD_load_92 (by decide) (fun hc32 => ?_) (fun hc32 => ?_)
      · replace h := xw_ifT hc32 h
        refine lv_iconst (v := xw_i 0) hx hb d_MD_load_102 rfl ?_
        refine lv_istore_n hx hb d_MD_load_103 rfl hl (by decide) rfl (fun ls hl => ?_)
        refine xw_jnI (fun j => ∀ (sq : xw_S), j sq = some (sZ, r0) → ∀ (H : Heap) (locs : List Loc) (ls : Array Slot), va_P D vwCl (xw_ws kdR 29 ad cs Z sq) H → va_S A s.heap H locs → lv_has ls 2 [(0, .ref (ad 0))] → W p l e (headSpec w_MD_load ({ frames := 4, cells := 0, slots := 0, locals := 94 })).room s m [.ref (ad 0)].toArray below meth c H locs 0 0 (MQ below (va_Qi (fun r u => r = xw_i r0 ∧ u = sZ) (xw_H D vwCl A kdR 29 ad cs Z tt) A) [.ref (ad 0)].toArray s 0 0 A) (F0 m 146 ls [])) h ?_ ?_
        · intro s49 h H locs ls hP hS hl
          refine lv_aload_n hx hb d_MD_load_146 rfl (lv_at hl 0 rfl) ?_
          refine lv_aload_n hx hb d_MD_load_147 rfl (lv_at hl 0 rfl) ?_
          refine xw_getI (C := "AdviceWeaverModel") (T := T_MD) hx hb hts hin_MD hown hK hP (by decide) kr_MD (by decide) rfl 11 (by decide) (hts _ hw_478) (fun _ h9 => h9) rfl d_MD_load_148 ?_
          refine xw_putI (C := "AdviceWeaverModel") (T := T_MD) hx hb hts hin_MD ty_MD ty_MD_ok nm_MD hown hK hP hD hS (by decide) kr_MD (by decide) rfl 10 (by decide) (hts _ hw_517) (fun _ h9 => h9) rfl (by decide +kernel) rfl d_MD_load_151 (fun s50 e51 H locs hP hS => ?_)
          replace h := xw_letI e51 h
          refine lv_aload_n hx hb d_MD_load_154 rfl (lv_at hl 0 rfl) ?_
          refine lv_iconst (v := xw_i 0) hx hb d_MD_load_155 rfl ?_
          refine xw_putB (C := "AdviceWeaverModel") (T := T_MD) hx hb hts hin_MD ty_MD ty_MD_ok nm_MD hown hK hP hD hS (by decide) kr_MD (by decide) rfl 12 (by decide) (hts _ hw_518) (fun _ h9 => h9) rfl (by decide +kernel) rfl d_MD_load_156 (by decide) (fun s52 e53 H locs hP hS => ?_)
          replace h := xw_letI e53 h
          refine lv_iconst (v := xw_i 0) hx hb d_MD_load_159 rfl ?_
          refine lv_istore_n hx hb d_MD_load_160 rfl hl (by decide) rfl (fun ls hl => ?_)
          refine xw_jnI (fun j => ∀ (sq : xw_S), j sq = some (sZ, r0) → ∀ (H : Heap) (locs : List Loc) (ls : Array Slot), va_P D vwCl (xw_ws kdR 29 ad cs Z sq) H → va_S A s.heap H locs → lv_has ls 2 [(0, .ref (ad 0))] → W p l e (headSpec w_MD_load ({ frames := 4, cells := 0, slots := 0, locals := 94 })).room s m [.ref (ad 0)].toArray below meth c H locs 0 0 (MQ below (va_Qi (fun r u => r = xw_i r0 ∧ u = sZ) (xw_H D vwCl A kdR 29 ad cs Z tt) A) [.ref (ad 0)].toArray s 0 0 A) (F0 m 184 ls [])) h ?_ ?_
          · intro s62 h H locs ls hP hS hl
            refine lv_iconst (v := xw_i 0) hx hb d_MD_load_184 rfl ?_
            refine lv_istore_n hx hb d_MD_load_185 rfl hl (by decide) rfl (fun ls hl => ?_)
            refine xw_jnI (fun j => ∀ (sq : xw_S), j sq = some (sZ, r0) → ∀ (H : Heap) (locs : List Loc) (ls : Array Slot), va_P D vwCl (xw_ws kdR 29 ad cs Z sq) H → va_S A s.heap H locs → lv_has ls 2 [(0, .ref (ad 0))] → W p l e (headSpec w_MD_load ({ frames := 4, cells := 0, slots := 0, locals := 94 })).room s m [.ref (ad 0)].toArray below meth c H locs 0 0 (MQ below (va_Qi (fun r u => r = xw_i r0 ∧ u = sZ) (xw_H D vwCl A kdR 29 ad cs Z tt) A) [.ref (ad 0)].toArray s 0 0 A) (F0 m 205 ls [])) h ?_ ?_
            · intro s71 h H locs ls hP hS hl
              refine lv_aload_n hx hb d_MD_load_205 rfl (lv_at hl 0 rfl) ?_
              refine xw_getI (C := "AdviceWeaverModel") (T := T_MD) hx hb hts hin_MD hown hK hP (by decide) kr_MD (by decide) rfl 10 (by decide) (hts _ hw_517) (fun _ h9 => h9) rfl d_MD_load_206 ?_
              exact xw_iretE hx hb hr hlk hP hK hD hX hS h d_MD_load_209
            · intro k205 hk205 h
              exact hlp186 k205 hk205 fu s62 0 h _ _ _ hP hS (lv_sub hl [1, 0] rfl)
          · intro k184 hk184 h
            exact hlp161 k184 hk184 fu s52 0 h _ _ _ hP hS (lv_sub hl [1, 0] rfl)
        · intro k146 hk146 h
          refine xw_jnI (fun j => ∀ (sq : xw_S) (i1_134 : Int), j sq i1_134 = some (sZ, r0) → ∀ (H : Heap) (locs : List Loc) (ls : Array Slot), va_P D vwCl (xw_ws kdR 29 ad cs Z sq) H → va_S A s.heap H locs → lv_has ls 2 [(1, .int (xw_i i1_134))] → W p l e (headSpec w_MD_load ({ frames := 4, cells := 0, slots := 0, locals := 94 })).room s m [.ref (ad 0)].toArray below meth c H locs 0 0 (MQ below (va_Qi (fun r u => r = xw_i r0 ∧ u = sZ) (xw_H D vwCl A kdR 29 ad cs Z tt) A) [.ref (ad 0)].toArray s 0 0 A) (F0 m 134 ls [])) h ?_ ?_
          · intro s48 i1_134 h H locs ls hP hS hl
            refine lv_sipush (v := xw_i (-1000)) hx hb d_MD_load_134 (by decide) ?_
            refine lv_iload_n hx hb d_MD_load_137 rfl (lv_at hl 0 rfl) ?_
            refine xw_isub hx hb d_MD_load_138 ?_
            exact xw_iretE hx hb hr hlk hP hK hD hX hS h d_MD_load_139
          · intro k134 hk134 h
            exact hlp104 k134 hk134 k146 hk146 fu s30 0 h _ _ _ hP hS (lv_sub hl [1, 0] rfl)
      · replace h := xw_ifF hc32 h
        refine lv_iconst (v := xw_i (-1)) hx hb d_MD_load_95 rfl ?_
        refine lv_aload_n hx hb d_MD_load_96 rfl (lv_at hl 0 rfl) ?_
        refine xw_getI (C := "AdviceWeaverModel") (T := T_MD) hx hb hts hin_MD hown hK hP (by decide) kr_MD (by decide) rfl 14 (by decide) (hts _ hw_438) (fun _ h9 => h9) rfl d_MD_load_97 ?_
        refine xw_isub hx hb d_MD_load_100 ?_
        exact xw_iretE hx hb hr hlk hP hK hD hX hS h d_MD_load_101
    · intro j88 hj88 h
      obtain ⟨hg24, h⟩ := xw_grdI h
      refine xw_if_ge (tgt := 88) hx hb hg24 d_MD_load_66 (by decide) (fun hc25 => ?_) (fun hc25 => ?_)
      · replace h := xw_ifT hc25 h
        exact hj88 s23 h _ _ _ hP hS (lv_sub hl [0] rfl)
      · replace h := xw_ifF hc25 h
        refine lv_aload_n hx hb d_MD_load_69 rfl (lv_at hl 0 rfl) ?_
        refine xw_getI (C := "AdviceWeaverModel") (T := T_MD) hx hb hts hin_MD hown hK hP (by decide) kr_MD (by decide) rfl 13 (by decide) (hts _ hw_437) (fun _ h9 => h9) rfl d_MD_load_70 ?_
        refine lv_aload_n hx hb d_MD_load_73 rfl (lv_at hl 0 rfl) ?_
        refine xw_getI (C := "AdviceWeaverModel") (T := T_MD) hx hb hts hin_MD hown hK hP (by decide) kr_MD (by decide) rfl 1 (by decide) (hts _ hw_435) (fun _ h9 => h9) rfl d_MD_load_74 ?_
        obtain ⟨hg26, h⟩ := xw_grdI h
        refine xw_icmp_ge (tgt := 88) hx hb hg26.1 hg26.2 d_MD_load_77 (by decide) (fun hc27 => ?_) (fun hc27 => ?_)
        · replace h := xw_ifT hc27 h
          exact hj88 s23 h _ _ _ hP hS (lv_sub hl [0] rfl)
        · replace h := xw_ifF hc27 h
          refine lv_aload_n hx hb d_MD_load_80 rfl (lv_at hl 0 rfl) ?_
          refine lv_aload_n hx hb d_MD_load_81 rfl (lv_at hl 0 rfl) ?_
          refine xw_getI (C := "AdviceWeaverModel") (T := T_MD) hx hb hts hin_MD hown hK hP (by decide) kr_MD (by decide) rfl 13 (by decide) (hts _ hw_437) (fun _ h9 => h9) rfl d_MD_load_82 ?_
          refine xw_putI (C := "AdviceWeaverModel") (T := T_MD) hx hb hts hin_MD ty_MD ty_MD_ok nm_MD hown hK hP hD hS (by decide) kr_MD (by decide) rfl 14 (by decide) (hts _ hw_438) (fun _ h9 => h9) rfl (by decide +kernel) rfl d_MD_load_85 (fun s28 e29 H locs hP hS => ?_)
          replace h := xw_letI e29 h
          exact hj88 s28 h _ _ _ hP hS (lv_sub hl [0] rfl)
  · intro k62 hk62 h
    exact hlp33 k62 hk62 fu s11 0 h _ _ _ hP hS (lv_sub hl [1, 0] rfl)
