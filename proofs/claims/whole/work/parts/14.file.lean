/-! 14.file -/
theorem d_CF_append_0 : decode b_CF_append 0 = .ok (.iload_n 2, 1) := by decide +kernel
theorem d_CF_append_1 : decode b_CF_append 1 = .ok (.iconst 1, 1) := by decide +kernel
theorem d_CF_append_2 : decode b_CF_append 2 = .ok (.if_icmp .lt 20, 3) := by decide +kernel
theorem d_CF_append_5 : decode b_CF_append 5 = .ok (.iload_n 2, 1) := by decide +kernel
theorem d_CF_append_6 : decode b_CF_append 6 = .ok (.iconst 4, 1) := by decide +kernel
theorem d_CF_append_7 : decode b_CF_append 7 = .ok (.if_icmp .gt 15, 3) := by decide +kernel
theorem d_CF_append_10 : decode b_CF_append 10 = .ok (.aload_n 0, 1) := by decide +kernel
theorem d_CF_append_11 : decode b_CF_append 11 = .ok (.getfield 15, 3) := by decide +kernel
theorem d_CF_append_14 : decode b_CF_append 14 = .ok (.iload_n 2, 1) := by decide +kernel
theorem d_CF_append_15 : decode b_CF_append 15 = .ok (.iadd, 1) := by decide +kernel
theorem d_CF_append_16 : decode b_CF_append 16 = .ok (.sipush 240, 3) := by decide +kernel
theorem d_CF_append_19 : decode b_CF_append 19 = .ok (.if_icmp .le 5, 3) := by decide +kernel
theorem d_CF_append_22 : decode b_CF_append 22 = .ok (.iconst 0, 1) := by decide +kernel
theorem d_CF_append_23 : decode b_CF_append 23 = .ok (.ireturn, 1) := by decide +kernel
theorem d_CF_append_24 : decode b_CF_append 24 = .ok (.iload_n 2, 1) := by decide +kernel
theorem d_CF_append_25 : decode b_CF_append 25 = .ok (.iconst 1, 1) := by decide +kernel
theorem d_CF_append_26 : decode b_CF_append 26 = .ok (.isub, 1) := by decide +kernel
theorem d_CF_append_27 : decode b_CF_append 27 = .ok (.istore_n 3, 1) := by decide +kernel
theorem d_CF_append_28 : decode b_CF_append 28 = .ok (.iload_n 3, 1) := by decide +kernel
theorem d_CF_append_29 : decode b_CF_append 29 = .ok (.ifCond .lt 38, 3) := by decide +kernel
theorem d_CF_append_32 : decode b_CF_append 32 = .ok (.aload_n 0, 1) := by decide +kernel
theorem d_CF_append_33 : decode b_CF_append 33 = .ok (.getfield 9, 3) := by decide +kernel
theorem d_CF_append_36 : decode b_CF_append 36 = .ok (.aload_n 0, 1) := by decide +kernel
theorem d_CF_append_37 : decode b_CF_append 37 = .ok (.getfield 15, 3) := by decide +kernel
theorem d_CF_append_40 : decode b_CF_append 40 = .ok (.iload_n 1, 1) := by decide +kernel
theorem d_CF_append_41 : decode b_CF_append 41 = .ok (.bipush 8, 2) := by decide +kernel
theorem d_CF_append_43 : decode b_CF_append 43 = .ok (.iload_n 3, 1) := by decide +kernel
theorem d_CF_append_44 : decode b_CF_append 44 = .ok (.imul, 1) := by decide +kernel
theorem d_CF_append_45 : decode b_CF_append 45 = .ok (.iushr, 1) := by decide +kernel
theorem d_CF_append_46 : decode b_CF_append 46 = .ok (.sipush 255, 3) := by decide +kernel
theorem d_CF_append_49 : decode b_CF_append 49 = .ok (.iand, 1) := by decide +kernel
theorem d_CF_append_50 : decode b_CF_append 50 = .ok (.iastore, 1) := by decide +kernel
theorem d_CF_append_51 : decode b_CF_append 51 = .ok (.aload_n 0, 1) := by decide +kernel
theorem d_CF_append_52 : decode b_CF_append 52 = .ok (.dup, 1) := by decide +kernel
theorem d_CF_append_53 : decode b_CF_append 53 = .ok (.getfield 15, 3) := by decide +kernel
theorem d_CF_append_56 : decode b_CF_append 56 = .ok (.iconst 1, 1) := by decide +kernel
theorem d_CF_append_57 : decode b_CF_append 57 = .ok (.iadd, 1) := by decide +kernel
theorem d_CF_append_58 : decode b_CF_append 58 = .ok (.putfield 15, 3) := by decide +kernel
theorem d_CF_append_61 : decode b_CF_append 61 = .ok (.iinc 3 (-1), 3) := by decide +kernel
theorem d_CF_append_64 : decode b_CF_append 64 = .ok (.goto (-36), 3) := by decide +kernel
theorem d_CF_append_67 : decode b_CF_append 67 = .ok (.iconst 1, 1) := by decide +kernel
theorem d_CF_append_68 : decode b_CF_append 68 = .ok (.ireturn, 1) := by decide +kernel
theorem d_CF_empty_0 : decode b_CF_empty 0 = .ok (.aload_n 0, 1) := by decide +kernel
theorem d_CF_empty_1 : decode b_CF_empty 1 = .ok (.iconst 0, 1) := by decide +kernel
theorem d_CF_empty_2 : decode b_CF_empty 2 = .ok (.putfield 15, 3) := by decide +kernel
theorem d_CF_empty_5 : decode b_CF_empty 5 = .ok (.return_, 1) := by decide +kernel
theorem d_CF_take_0 : decode b_CF_take 0 = .ok (.aload_n 0, 1) := by decide +kernel
theorem d_CF_take_1 : decode b_CF_take 1 = .ok (.getfield 22, 3) := by decide +kernel
theorem d_CF_take_4 : decode b_CF_take 4 = .ok (.ifCond .ne 40, 3) := by decide +kernel
theorem d_CF_take_7 : decode b_CF_take 7 = .ok (.aload_n 0, 1) := by decide +kernel
theorem d_CF_take_8 : decode b_CF_take 8 = .ok (.getfield 19, 3) := by decide +kernel
theorem d_CF_take_11 : decode b_CF_take 11 = .ok (.aload_n 0, 1) := by decide +kernel
theorem d_CF_take_12 : decode b_CF_take 12 = .ok (.getfield 15, 3) := by decide +kernel
theorem d_CF_take_15 : decode b_CF_take 15 = .ok (.if_icmp .ge 29, 3) := by decide +kernel
theorem d_CF_take_18 : decode b_CF_take 18 = .ok (.aload_n 0, 1) := by decide +kernel
theorem d_CF_take_19 : decode b_CF_take 19 = .ok (.getfield 9, 3) := by decide +kernel
theorem d_CF_take_22 : decode b_CF_take 22 = .ok (.aload_n 0, 1) := by decide +kernel
theorem d_CF_take_23 : decode b_CF_take 23 = .ok (.getfield 19, 3) := by decide +kernel
theorem d_CF_take_26 : decode b_CF_take 26 = .ok (.iaload, 1) := by decide +kernel
theorem d_CF_take_27 : decode b_CF_take 27 = .ok (.iload_n 1, 1) := by decide +kernel
theorem d_CF_take_28 : decode b_CF_take 28 = .ok (.if_icmp .lt 16, 3) := by decide +kernel
theorem d_CF_take_31 : decode b_CF_take 31 = .ok (.aload_n 0, 1) := by decide +kernel
theorem d_CF_take_32 : decode b_CF_take 32 = .ok (.getfield 9, 3) := by decide +kernel
theorem d_CF_take_35 : decode b_CF_take 35 = .ok (.aload_n 0, 1) := by decide +kernel
theorem d_CF_take_36 : decode b_CF_take 36 = .ok (.getfield 19, 3) := by decide +kernel
theorem d_CF_take_39 : decode b_CF_take 39 = .ok (.iaload, 1) := by decide +kernel
theorem d_CF_take_40 : decode b_CF_take 40 = .ok (.iload_n 2, 1) := by decide +kernel
theorem d_CF_take_41 : decode b_CF_take 41 = .ok (.if_icmp .le 10, 3) := by decide +kernel
theorem d_CF_take_44 : decode b_CF_take 44 = .ok (.aload_n 0, 1) := by decide +kernel
theorem d_CF_take_45 : decode b_CF_take 45 = .ok (.iconst 1, 1) := by decide +kernel
theorem d_CF_take_46 : decode b_CF_take 46 = .ok (.putfield 22, 3) := by decide +kernel
theorem d_CF_take_49 : decode b_CF_take 49 = .ok (.iload_n 1, 1) := by decide +kernel
theorem d_CF_take_50 : decode b_CF_take 50 = .ok (.ireturn, 1) := by decide +kernel
theorem d_CF_take_51 : decode b_CF_take 51 = .ok (.aload_n 0, 1) := by decide +kernel
theorem d_CF_take_52 : decode b_CF_take 52 = .ok (.dup, 1) := by decide +kernel
theorem d_CF_take_53 : decode b_CF_take 53 = .ok (.getfield 19, 3) := by decide +kernel
theorem d_CF_take_56 : decode b_CF_take 56 = .ok (.iconst 1, 1) := by decide +kernel
theorem d_CF_take_57 : decode b_CF_take 57 = .ok (.iadd, 1) := by decide +kernel
theorem d_CF_take_58 : decode b_CF_take 58 = .ok (.putfield 19, 3) := by decide +kernel
theorem d_CF_take_61 : decode b_CF_take 61 = .ok (.aload_n 0, 1) := by decide +kernel
theorem d_CF_take_62 : decode b_CF_take 62 = .ok (.getfield 9, 3) := by decide +kernel
theorem d_CF_take_65 : decode b_CF_take 65 = .ok (.aload_n 0, 1) := by decide +kernel
theorem d_CF_take_66 : decode b_CF_take 66 = .ok (.getfield 19, 3) := by decide +kernel
theorem d_CF_take_69 : decode b_CF_take 69 = .ok (.iconst 1, 1) := by decide +kernel
theorem d_CF_take_70 : decode b_CF_take 70 = .ok (.isub, 1) := by decide +kernel
theorem d_CF_take_71 : decode b_CF_take 71 = .ok (.iaload, 1) := by decide +kernel
theorem d_CF_take_72 : decode b_CF_take 72 = .ok (.ireturn, 1) := by decide +kernel
theorem d_CF_readHandlers_0 : decode b_CF_readHandlers 0 = .ok (.aload_n 0, 1) := by decide +kernel
theorem d_CF_readHandlers_1 : decode b_CF_readHandlers 1 = .ok (.iconst 0, 1) := by decide +kernel
theorem d_CF_readHandlers_2 : decode b_CF_readHandlers 2 = .ok (.iconst 3, 1) := by decide +kernel
theorem d_CF_readHandlers_3 : decode b_CF_readHandlers 3 = .ok (.invokevirtual 26, 3) := by decide +kernel
theorem d_CF_readHandlers_6 : decode b_CF_readHandlers 6 = .ok (.istore_n 2, 1) := by decide +kernel
theorem d_CF_readHandlers_7 : decode b_CF_readHandlers 7 = .ok (.aload_n 1, 1) := by decide +kernel
theorem d_CF_readHandlers_8 : decode b_CF_readHandlers 8 = .ok (.iconst 0, 1) := by decide +kernel
theorem d_CF_readHandlers_9 : decode b_CF_readHandlers 9 = .ok (.putfield 58, 3) := by decide +kernel
theorem d_CF_readHandlers_12 : decode b_CF_readHandlers 12 = .ok (.iconst 0, 1) := by decide +kernel
theorem d_CF_readHandlers_13 : decode b_CF_readHandlers 13 = .ok (.istore_n 3, 1) := by decide +kernel
theorem d_CF_readHandlers_14 : decode b_CF_readHandlers 14 = .ok (.iload_n 3, 1) := by decide +kernel
theorem d_CF_readHandlers_15 : decode b_CF_readHandlers 15 = .ok (.iload_n 2, 1) := by decide +kernel
theorem d_CF_readHandlers_16 : decode b_CF_readHandlers 16 = .ok (.if_icmp .ge 56, 3) := by decide +kernel
theorem d_CF_readHandlers_19 : decode b_CF_readHandlers 19 = .ok (.aload_n 0, 1) := by decide +kernel
theorem d_CF_readHandlers_20 : decode b_CF_readHandlers 20 = .ok (.iconst 0, 1) := by decide +kernel
theorem d_CF_readHandlers_21 : decode b_CF_readHandlers 21 = .ok (.sipush 255, 3) := by decide +kernel
theorem d_CF_readHandlers_24 : decode b_CF_readHandlers 24 = .ok (.invokevirtual 26, 3) := by decide +kernel
theorem d_CF_readHandlers_27 : decode b_CF_readHandlers 27 = .ok (.istore 4, 2) := by decide +kernel
theorem d_CF_readHandlers_29 : decode b_CF_readHandlers 29 = .ok (.aload_n 0, 1) := by decide +kernel
theorem d_CF_readHandlers_30 : decode b_CF_readHandlers 30 = .ok (.iconst 0, 1) := by decide +kernel
theorem d_CF_readHandlers_31 : decode b_CF_readHandlers 31 = .ok (.sipush 255, 3) := by decide +kernel
theorem d_CF_readHandlers_34 : decode b_CF_readHandlers 34 = .ok (.invokevirtual 26, 3) := by decide +kernel
theorem d_CF_readHandlers_37 : decode b_CF_readHandlers 37 = .ok (.istore 5, 2) := by decide +kernel
theorem d_CF_readHandlers_39 : decode b_CF_readHandlers 39 = .ok (.aload_n 0, 1) := by decide +kernel
theorem d_CF_readHandlers_40 : decode b_CF_readHandlers 40 = .ok (.iconst 0, 1) := by decide +kernel
theorem d_CF_readHandlers_41 : decode b_CF_readHandlers 41 = .ok (.sipush 255, 3) := by decide +kernel
theorem d_CF_readHandlers_44 : decode b_CF_readHandlers 44 = .ok (.invokevirtual 26, 3) := by decide +kernel
theorem d_CF_readHandlers_47 : decode b_CF_readHandlers 47 = .ok (.istore 6, 2) := by decide +kernel
theorem d_CF_readHandlers_49 : decode b_CF_readHandlers 49 = .ok (.aload_n 1, 1) := by decide +kernel
theorem d_CF_readHandlers_50 : decode b_CF_readHandlers 50 = .ok (.iload 4, 2) := by decide +kernel
theorem d_CF_readHandlers_52 : decode b_CF_readHandlers 52 = .ok (.iload 5, 2) := by decide +kernel
theorem d_CF_readHandlers_54 : decode b_CF_readHandlers 54 = .ok (.iload 6, 2) := by decide +kernel
theorem d_CF_readHandlers_56 : decode b_CF_readHandlers 56 = .ok (.aload_n 0, 1) := by decide +kernel
theorem d_CF_readHandlers_57 : decode b_CF_readHandlers 57 = .ok (.iconst 0, 1) := by decide +kernel
theorem d_CF_readHandlers_58 : decode b_CF_readHandlers 58 = .ok (.bipush 9, 2) := by decide +kernel
theorem d_CF_readHandlers_60 : decode b_CF_readHandlers 60 = .ok (.invokevirtual 26, 3) := by decide +kernel
theorem d_CF_readHandlers_63 : decode b_CF_readHandlers 63 = .ok (.invokevirtual 61, 3) := by decide +kernel
theorem d_CF_readHandlers_66 : decode b_CF_readHandlers 66 = .ok (.iinc 3 1, 3) := by decide +kernel
theorem d_CF_readHandlers_69 : decode b_CF_readHandlers 69 = .ok (.goto (-55), 3) := by decide +kernel
theorem d_CF_readHandlers_72 : decode b_CF_readHandlers 72 = .ok (.return_, 1) := by decide +kernel
theorem d_CF_readMethod_0 : decode b_CF_readMethod 0 = .ok (.aload_n 1, 1) := by decide +kernel
theorem d_CF_readMethod_1 : decode b_CF_readMethod 1 = .ok (.iload_n 2, 1) := by decide +kernel
theorem d_CF_readMethod_2 : decode b_CF_readMethod 2 = .ok (.aaload, 1) := by decide +kernel
theorem d_CF_readMethod_3 : decode b_CF_readMethod 3 = .ok (.astore_n 3, 1) := by decide +kernel
theorem d_CF_readMethod_4 : decode b_CF_readMethod 4 = .ok (.aload_n 3, 1) := by decide +kernel
theorem d_CF_readMethod_5 : decode b_CF_readMethod 5 = .ok (.aload_n 0, 1) := by decide +kernel
theorem d_CF_readMethod_6 : decode b_CF_readMethod 6 = .ok (.bipush 97, 2) := by decide +kernel
theorem d_CF_readMethod_8 : decode b_CF_readMethod 8 = .ok (.bipush 122, 2) := by decide +kernel
theorem d_CF_readMethod_10 : decode b_CF_readMethod 10 = .ok (.invokevirtual 26, 3) := by decide +kernel
theorem d_CF_readMethod_13 : decode b_CF_readMethod 13 = .ok (.putfield 34, 3) := by decide +kernel
theorem d_CF_readMethod_16 : decode b_CF_readMethod 16 = .ok (.iconst 0, 1) := by decide +kernel
theorem d_CF_readMethod_17 : decode b_CF_readMethod 17 = .ok (.istore 4, 2) := by decide +kernel
theorem d_CF_readMethod_19 : decode b_CF_readMethod 19 = .ok (.iload 4, 2) := by decide +kernel
theorem d_CF_readMethod_21 : decode b_CF_readMethod 21 = .ok (.iload_n 2, 1) := by decide +kernel
theorem d_CF_readMethod_22 : decode b_CF_readMethod 22 = .ok (.if_icmp .ge 45, 3) := by decide +kernel
theorem d_CF_readMethod_25 : decode b_CF_readMethod 25 = .ok (.aload_n 0, 1) := by decide +kernel
theorem d_CF_readMethod_26 : decode b_CF_readMethod 26 = .ok (.getfield 22, 3) := by decide +kernel
theorem d_CF_readMethod_29 : decode b_CF_readMethod 29 = .ok (.ifCond .ne 38, 3) := by decide +kernel
theorem d_CF_readMethod_32 : decode b_CF_readMethod 32 = .ok (.aload_n 1, 1) := by decide +kernel
theorem d_CF_readMethod_33 : decode b_CF_readMethod 33 = .ok (.iload 4, 2) := by decide +kernel
theorem d_CF_readMethod_35 : decode b_CF_readMethod 35 = .ok (.aaload, 1) := by decide +kernel
theorem d_CF_readMethod_36 : decode b_CF_readMethod 36 = .ok (.getfield 34, 3) := by decide +kernel
theorem d_CF_readMethod_39 : decode b_CF_readMethod 39 = .ok (.aload_n 3, 1) := by decide +kernel
theorem d_CF_readMethod_40 : decode b_CF_readMethod 40 = .ok (.getfield 34, 3) := by decide +kernel
theorem d_CF_readMethod_43 : decode b_CF_readMethod 43 = .ok (.if_icmp .ne 18, 3) := by decide +kernel
theorem d_CF_readMethod_46 : decode b_CF_readMethod 46 = .ok (.aload_n 0, 1) := by decide +kernel
theorem d_CF_readMethod_47 : decode b_CF_readMethod 47 = .ok (.dup, 1) := by decide +kernel
theorem d_CF_readMethod_48 : decode b_CF_readMethod 48 = .ok (.getfield 19, 3) := by decide +kernel
theorem d_CF_readMethod_51 : decode b_CF_readMethod 51 = .ok (.iconst 1, 1) := by decide +kernel
theorem d_CF_readMethod_52 : decode b_CF_readMethod 52 = .ok (.isub, 1) := by decide +kernel
theorem d_CF_readMethod_53 : decode b_CF_readMethod 53 = .ok (.putfield 19, 3) := by decide +kernel
theorem d_CF_readMethod_56 : decode b_CF_readMethod 56 = .ok (.aload_n 0, 1) := by decide +kernel
theorem d_CF_readMethod_57 : decode b_CF_readMethod 57 = .ok (.iconst 1, 1) := by decide +kernel
theorem d_CF_readMethod_58 : decode b_CF_readMethod 58 = .ok (.putfield 22, 3) := by decide +kernel
theorem d_CF_readMethod_61 : decode b_CF_readMethod 61 = .ok (.iinc 4 1, 3) := by decide +kernel
theorem d_CF_readMethod_64 : decode b_CF_readMethod 64 = .ok (.goto (-45), 3) := by decide +kernel
theorem d_CF_readMethod_67 : decode b_CF_readMethod 67 = .ok (.aload_n 3, 1) := by decide +kernel
theorem d_CF_readMethod_68 : decode b_CF_readMethod 68 = .ok (.aload_n 0, 1) := by decide +kernel
theorem d_CF_readMethod_69 : decode b_CF_readMethod 69 = .ok (.iconst 0, 1) := by decide +kernel
theorem d_CF_readMethod_70 : decode b_CF_readMethod 70 = .ok (.iconst 2, 1) := by decide +kernel
theorem d_CF_readMethod_71 : decode b_CF_readMethod 71 = .ok (.invokevirtual 26, 3) := by decide +kernel
theorem d_CF_readMethod_74 : decode b_CF_readMethod 74 = .ok (.putfield 39, 3) := by decide +kernel
theorem d_CF_readMethod_77 : decode b_CF_readMethod 77 = .ok (.aload_n 3, 1) := by decide +kernel
theorem d_CF_readMethod_78 : decode b_CF_readMethod 78 = .ok (.aload_n 0, 1) := by decide +kernel
theorem d_CF_readMethod_79 : decode b_CF_readMethod 79 = .ok (.aload_n 3, 1) := by decide +kernel
theorem d_CF_readMethod_80 : decode b_CF_readMethod 80 = .ok (.getfield 39, 3) := by decide +kernel
theorem d_CF_readMethod_83 : decode b_CF_readMethod 83 = .ok (.bipush 6, 2) := by decide +kernel
theorem d_CF_readMethod_85 : decode b_CF_readMethod 85 = .ok (.invokevirtual 26, 3) := by decide +kernel
theorem d_CF_readMethod_88 : decode b_CF_readMethod 88 = .ok (.putfield 42, 3) := by decide +kernel
theorem d_CF_readMethod_91 : decode b_CF_readMethod 91 = .ok (.aload_n 3, 1) := by decide +kernel
theorem d_CF_readMethod_92 : decode b_CF_readMethod 92 = .ok (.aload_n 0, 1) := by decide +kernel
theorem d_CF_readMethod_93 : decode b_CF_readMethod 93 = .ok (.iconst 1, 1) := by decide +kernel
theorem d_CF_readMethod_94 : decode b_CF_readMethod 94 = .ok (.bipush 8, 2) := by decide +kernel
theorem d_CF_readMethod_96 : decode b_CF_readMethod 96 = .ok (.invokevirtual 26, 3) := by decide +kernel
theorem d_CF_readMethod_99 : decode b_CF_readMethod 99 = .ok (.putfield 45, 3) := by decide +kernel
theorem d_CF_readMethod_102 : decode b_CF_readMethod 102 = .ok (.aload_n 3, 1) := by decide +kernel
theorem d_CF_readMethod_103 : decode b_CF_readMethod 103 = .ok (.aload_n 0, 1) := by decide +kernel
theorem d_CF_readMethod_104 : decode b_CF_readMethod 104 = .ok (.iconst 1, 1) := by decide +kernel
theorem d_CF_readMethod_105 : decode b_CF_readMethod 105 = .ok (.bipush 40, 2) := by decide +kernel
theorem d_CF_readMethod_107 : decode b_CF_readMethod 107 = .ok (.invokevirtual 26, 3) := by decide +kernel
theorem d_CF_readMethod_110 : decode b_CF_readMethod 110 = .ok (.putfield 48, 3) := by decide +kernel
theorem d_CF_readMethod_113 : decode b_CF_readMethod 113 = .ok (.iconst 0, 1) := by decide +kernel
theorem d_CF_readMethod_114 : decode b_CF_readMethod 114 = .ok (.istore 4, 2) := by decide +kernel
theorem d_CF_readMethod_116 : decode b_CF_readMethod 116 = .ok (.iload 4, 2) := by decide +kernel
theorem d_CF_readMethod_118 : decode b_CF_readMethod 118 = .ok (.aload_n 3, 1) := by decide +kernel
theorem d_CF_readMethod_119 : decode b_CF_readMethod 119 = .ok (.getfield 48, 3) := by decide +kernel
theorem d_CF_readMethod_122 : decode b_CF_readMethod 122 = .ok (.if_icmp .ge 24, 3) := by decide +kernel
theorem d_CF_readMethod_125 : decode b_CF_readMethod 125 = .ok (.aload_n 3, 1) := by decide +kernel
theorem d_CF_readMethod_126 : decode b_CF_readMethod 126 = .ok (.getfield 51, 3) := by decide +kernel
theorem d_CF_readMethod_129 : decode b_CF_readMethod 129 = .ok (.iload 4, 2) := by decide +kernel
theorem d_CF_readMethod_131 : decode b_CF_readMethod 131 = .ok (.aload_n 0, 1) := by decide +kernel
theorem d_CF_readMethod_132 : decode b_CF_readMethod 132 = .ok (.iconst 0, 1) := by decide +kernel
theorem d_CF_readMethod_133 : decode b_CF_readMethod 133 = .ok (.sipush 255, 3) := by decide +kernel
theorem d_CF_readMethod_136 : decode b_CF_readMethod 136 = .ok (.invokevirtual 26, 3) := by decide +kernel
theorem d_CF_readMethod_139 : decode b_CF_readMethod 139 = .ok (.iastore, 1) := by decide +kernel
theorem d_CF_readMethod_140 : decode b_CF_readMethod 140 = .ok (.iinc 4 1, 3) := by decide +kernel
theorem d_CF_readMethod_143 : decode b_CF_readMethod 143 = .ok (.goto (-27), 3) := by decide +kernel
theorem d_CF_readMethod_146 : decode b_CF_readMethod 146 = .ok (.aload_n 0, 1) := by decide +kernel
theorem d_CF_readMethod_147 : decode b_CF_readMethod 147 = .ok (.aload_n 3, 1) := by decide +kernel
theorem d_CF_readMethod_148 : decode b_CF_readMethod 148 = .ok (.invokevirtual 54, 3) := by decide +kernel
theorem d_CF_readMethod_151 : decode b_CF_readMethod 151 = .ok (.return_, 1) := by decide +kernel
theorem d_CF_readInto_0 : decode b_CF_readInto 0 = .ok (.aload_n 0, 1) := by decide +kernel
theorem d_CF_readInto_1 : decode b_CF_readInto 1 = .ok (.iconst 0, 1) := by decide +kernel
theorem d_CF_readInto_2 : decode b_CF_readInto 2 = .ok (.putfield 19, 3) := by decide +kernel
theorem d_CF_readInto_5 : decode b_CF_readInto 5 = .ok (.aload_n 0, 1) := by decide +kernel
theorem d_CF_readInto_6 : decode b_CF_readInto 6 = .ok (.iconst 0, 1) := by decide +kernel
theorem d_CF_readInto_7 : decode b_CF_readInto 7 = .ok (.putfield 22, 3) := by decide +kernel
theorem d_CF_readInto_10 : decode b_CF_readInto 10 = .ok (.aload_n 0, 1) := by decide +kernel
theorem d_CF_readInto_11 : decode b_CF_readInto 11 = .ok (.sipush 202, 3) := by decide +kernel
theorem d_CF_readInto_14 : decode b_CF_readInto 14 = .ok (.sipush 202, 3) := by decide +kernel
theorem d_CF_readInto_17 : decode b_CF_readInto 17 = .ok (.invokevirtual 26, 3) := by decide +kernel
theorem d_CF_readInto_20 : decode b_CF_readInto 20 = .ok (.pop, 1) := by decide +kernel
theorem d_CF_readInto_21 : decode b_CF_readInto 21 = .ok (.aload_n 0, 1) := by decide +kernel
theorem d_CF_readInto_22 : decode b_CF_readInto 22 = .ok (.iconst 1, 1) := by decide +kernel
theorem d_CF_readInto_23 : decode b_CF_readInto 23 = .ok (.iconst 4, 1) := by decide +kernel
theorem d_CF_readInto_24 : decode b_CF_readInto 24 = .ok (.invokevirtual 26, 3) := by decide +kernel
theorem d_CF_readInto_27 : decode b_CF_readInto 27 = .ok (.istore_n 2, 1) := by decide +kernel
theorem d_CF_readInto_28 : decode b_CF_readInto 28 = .ok (.iconst 0, 1) := by decide +kernel
theorem d_CF_readInto_29 : decode b_CF_readInto 29 = .ok (.istore_n 3, 1) := by decide +kernel
theorem d_CF_readInto_30 : decode b_CF_readInto 30 = .ok (.iload_n 3, 1) := by decide +kernel
theorem d_CF_readInto_31 : decode b_CF_readInto 31 = .ok (.iload_n 2, 1) := by decide +kernel
theorem d_CF_readInto_32 : decode b_CF_readInto 32 = .ok (.if_icmp .ge 22, 3) := by decide +kernel
theorem d_CF_readInto_35 : decode b_CF_readInto 35 = .ok (.aload_n 0, 1) := by decide +kernel
theorem d_CF_readInto_36 : decode b_CF_readInto 36 = .ok (.getfield 22, 3) := by decide +kernel
theorem d_CF_readInto_39 : decode b_CF_readInto 39 = .ok (.ifCond .ne 15, 3) := by decide +kernel
theorem d_CF_readInto_42 : decode b_CF_readInto 42 = .ok (.aload_n 0, 1) := by decide +kernel
theorem d_CF_readInto_43 : decode b_CF_readInto 43 = .ok (.aload_n 1, 1) := by decide +kernel
theorem d_CF_readInto_44 : decode b_CF_readInto 44 = .ok (.iload_n 3, 1) := by decide +kernel
theorem d_CF_readInto_45 : decode b_CF_readInto 45 = .ok (.invokevirtual 30, 3) := by decide +kernel
theorem d_CF_readInto_48 : decode b_CF_readInto 48 = .ok (.iinc 3 1, 3) := by decide +kernel
theorem d_CF_readInto_51 : decode b_CF_readInto 51 = .ok (.goto (-21), 3) := by decide +kernel
theorem d_CF_readInto_54 : decode b_CF_readInto 54 = .ok (.aload_n 0, 1) := by decide +kernel
theorem d_CF_readInto_55 : decode b_CF_readInto 55 = .ok (.getfield 22, 3) := by decide +kernel
theorem d_CF_readInto_58 : decode b_CF_readInto 58 = .ok (.ifCond .ne 14, 3) := by decide +kernel
theorem d_CF_readInto_61 : decode b_CF_readInto 61 = .ok (.aload_n 0, 1) := by decide +kernel
theorem d_CF_readInto_62 : decode b_CF_readInto 62 = .ok (.getfield 19, 3) := by decide +kernel
theorem d_CF_readInto_65 : decode b_CF_readInto 65 = .ok (.aload_n 0, 1) := by decide +kernel
theorem d_CF_readInto_66 : decode b_CF_readInto 66 = .ok (.getfield 15, 3) := by decide +kernel
theorem d_CF_readInto_69 : decode b_CF_readInto 69 = .ok (.if_icmp .ge 10, 3) := by decide +kernel
theorem d_CF_readInto_72 : decode b_CF_readInto 72 = .ok (.iconst (-1), 1) := by decide +kernel
theorem d_CF_readInto_73 : decode b_CF_readInto 73 = .ok (.aload_n 0, 1) := by decide +kernel
theorem d_CF_readInto_74 : decode b_CF_readInto 74 = .ok (.getfield 19, 3) := by decide +kernel
theorem d_CF_readInto_77 : decode b_CF_readInto 77 = .ok (.isub, 1) := by decide +kernel
theorem d_CF_readInto_78 : decode b_CF_readInto 78 = .ok (.ireturn, 1) := by decide +kernel
theorem d_CF_readInto_79 : decode b_CF_readInto 79 = .ok (.iload_n 2, 1) := by decide +kernel
theorem d_CF_readInto_80 : decode b_CF_readInto 80 = .ok (.ireturn, 1) := by decide +kernel
def lp_CF_append_28 (fu : Nat) (c1_28 : Int) (k67 : xw_S → Option (xw_S × Int)) : Nat → xw_S → Int → Option (xw_S × Int)
  | 0, _, _ => none
  | n + 1, s8, i3_28 =>
    xw_grd (xw_r i3_28) (xw_if (i3_28 < 0) (k67 s8)
     (xw_grd ((0 ≤ s8.1 1 1 ∧ s8.1 1 1 < ((240 : Nat) : Int))) (xw_let (xw_st s8 2 (s8.1 1 1).toNat (xw_an (xw_hu c1_28 (8 * i3_28)) 255)) (fun s12 => xw_let (xw_st s12 1 1 ((s12.1 1 1) + 1)) (fun s14 => xw_let (i3_28 + (-1)) (fun v16 => lp_CF_append_28 fu c1_28 k67 n s14 v16))))))
def f_CF_append (fu : Nat) (s0 : xw_S) (p1 : Int) (p2 : Int) : Option (xw_S × Int) :=
 xw_grd (xw_r p2) (xw_if (p2 < 1) (some (s0, 0))
 (xw_if (4 < p2) (some (s0, 0))
 (xw_grd (xw_r ((s0.1 1 1) + p2)) (xw_if ((s0.1 1 1) + p2 ≤ 240) (xw_let (p2 - 1) (fun v6 => xw_jn (fun (s18 : xw_S) => some (s18, 1))
 (fun (k67 : xw_S → Option (xw_S × Int)) => lp_CF_append_28 fu p1 k67 fu s0 v6)))
 (some (s0, 0))))))
set_option maxRecDepth 100000 in
set_option maxHeartbeats 4000000 in
theorem c_CF_append (l : Launch) (D : va_G) (A : Nat → Prop) (ad : Nat → Nat) (cs : Nat → ClassId) (Z : va_W) (tt : Nat → Nat) (fu : Nat) (s0 sZ : xw_S) (p1 : Int) (p2 : Int) (r0 : Int) (h : f_CF_append fu s0 p1 p2 = some (sZ, r0)) : Met l y_CF_append w_CF_append ({ frames := 0, cells := 0, slots := 0, locals := 0 }) (va_Pc [.ref (ad 1), .int (xw_i p1), .int (xw_i p2)] (xw_H D vwCl A kdC 100 ad cs Z tt s0)) (va_Qi (fun r u => r = xw_i r0 ∧ u = sZ) (xw_H D vwCl A kdC 100 ad cs Z tt) A) 0 0 A := by
  refine Met.ofW (cc := b_CF_append) (maxL := 4) (ret := (some .boolean)) (by decide) rfl ?_
  intro p e s m args below meth c s₁ B hml hv
  obtain ⟨rfl, hP, hK, hD, hX⟩ := hv
  have hx := B.exec
  have hb := B.bytes
  have hr := B.returns
  have hts0 := atoms_spec (ws := w_CF_append) B.pre
  have hts := fun w (hw : w ∈ wAll) => hts0 w (List.mem_cons_of_mem _ hw)
  have hown : s.vm.findClass "AdviceWeaver$ClassFile" = some m.cls := findClass_of_methodNamed B.named
  have hlk := B.notSynchronized
  clear hts0 B
  have hS : va_S A s.heap s.heap [] := va_S.rf
  have hl := lv_entry [.ref (ad 1), .int (xw_i p1), .int (xw_i p2)] (n := 4) (Nat.le_of_ble_eq_true rfl)
  rw [lg_entry_eq]
  generalize (lg_sl [.ref (ad 1), .int (xw_i p1), .int (xw_i p2)] ++ List.replicate (4 - (lg_sl [.ref (ad 1), .int (xw_i p1), .int (xw_i p2)]).length) Slot.unset).toArray = ls at hl ⊢
  have hl : lv_has ls 4 [(0, .ref (ad 1)), (1, .int (xw_i p1)), (2, .int (xw_i p2))] := hl
  have hlp28 : ∀ (c1_28 : Int) (k67 : xw_S → Option (xw_S × Int)) (hk67 : ∀ (sq : xw_S), k67 sq = some (sZ, r0) → ∀ (H : Heap) (locs : List Loc) (ls : Array Slot), va_P D vwCl (xw_ws kdC 100 ad cs Z sq) H → va_S A s.heap H locs → lv_has ls 4 [] → W p l e (headSpec w_CF_append ({ frames := 0, cells := 0, slots := 0, locals := 0 })).room s m [.ref (ad 1), .int (xw_i p1), .int (xw_i p2)].toArray below meth c H locs 0 0 (MQ below (va_Qi (fun r u => r = xw_i r0 ∧ u = sZ) (xw_H D vwCl A kdC 100 ad cs Z tt) A) [.ref (ad 1), .int (xw_i p1), .int (xw_i p2)].toArray s 0 0 A) (F0 m 67 ls [])) (n : Nat), ∀ (sq : xw_S) (i3_28 : Int), lp_CF_append_28 fu c1_28 k67 n sq i3_28 = some (sZ, r0) → ∀ (H : Heap) (locs : List Loc) (ls : Array Slot), va_P D vwCl (xw_ws kdC 100 ad cs Z sq) H → va_S A s.heap H locs → lv_has ls 4 [(0, .ref (ad 1)), (1, .int (xw_i c1_28)), (3, .int (xw_i i3_28))] → W p l e (headSpec w_CF_append ({ frames := 0, cells := 0, slots := 0, locals := 0 })).room s m [.ref (ad 1), .int (xw_i p1), .int (xw_i p2)].toArray below meth c H locs 0 0 (MQ below (va_Qi (fun r u => r = xw_i r0 ∧ u = sZ) (xw_H D vwCl A kdC 100 ad cs Z tt) A) [.ref (ad 1), .int (xw_i p1), .int (xw_i p2)].toArray s 0 0 A) (F0 m 28 ls []) := by
    intro c1_28 k67 hk67 n
    induction n with
    | zero =>
      intro sq i3_28 h
      cases (show (none : Option (xw_S × Int)) = some (sZ, r0) from h)
    | succ n ih28 =>
      intro s8 i3_28 h H locs ls hP hS hl
      unfold lp_CF_append_28 at h
      refine lv_iload_n hx hb d_CF_append_28 rfl (lv_at hl 2 rfl) ?_
      obtain ⟨hg9, h⟩ := xw_grdI h
      refine xw_if_lt (tgt := 67) hx hb hg9 d_CF_append_29 (by decide) (fun hc10 => ?_) (fun hc10 => ?_)
      · replace h := xw_ifT hc10 h
        exact hk67 s8 h _ _ _ hP hS (lv_sub hl [] rfl)
      · replace h := xw_ifF hc10 h
        refine lv_aload_n hx hb d_CF_append_32 rfl (lv_at hl 0 rfl) ?_
        refine xw_getR (C := "AdviceWeaver$ClassFile") (T := T_CF) hx hb hts hin_CF hown hK hP (by decide) kc_CF (by decide) rfl 0 (by decide) (hts _ hw_1) (fun _ h9 => h9) rfl d_CF_append_33 ?_
        refine lv_aload_n hx hb d_CF_append_36 rfl (lv_at hl 0 rfl) ?_
        refine xw_getI (C := "AdviceWeaver$ClassFile") (T := T_CF) hx hb hts hin_CF hown hK hP (by decide) kc_CF (by decide) rfl 1 (by decide) (hts _ hw_0) (fun _ h9 => h9) rfl d_CF_append_37 ?_
        refine lv_iload_n hx hb d_CF_append_40 rfl (lv_at hl 1 rfl) ?_
        refine lv_bipush (v := xw_i 8) hx hb d_CF_append_41 (by decide) ?_
        refine lv_iload_n hx hb d_CF_append_43 rfl (lv_at hl 2 rfl) ?_
        refine xw_imul hx hb d_CF_append_44 ?_
        refine xw_iushr hx hb d_CF_append_45 ?_
        refine lv_sipush (v := xw_i 255) hx hb d_CF_append_46 (by decide) ?_
        refine xw_iand hx hb d_CF_append_49 ?_
        obtain ⟨hg11, h⟩ := xw_grdI h
        refine xw_iast hx hb hK hP hD hS (by decide) kc_bytes (by decide) hg11 d_CF_append_50 (fun s12 e13 H locs hP hS => ?_)
        replace h := xw_letI e13 h
        refine lv_aload_n hx hb d_CF_append_51 rfl (lv_at hl 0 rfl) ?_
        refine lv_dup hx hb d_CF_append_52 rfl ?_
        refine xw_getI (C := "AdviceWeaver$ClassFile") (T := T_CF) hx hb hts hin_CF hown hK hP (by decide) kc_CF (by decide) rfl 1 (by decide) (hts _ hw_0) (fun _ h9 => h9) rfl d_CF_append_53 ?_
        refine lv_iconst (v := xw_i 1) hx hb d_CF_append_56 rfl ?_
        refine xw_iadd hx hb d_CF_append_57 ?_
        refine xw_putI (C := "AdviceWeaver$ClassFile") (T := T_CF) hx hb hts hin_CF ty_CF ty_CF_ok nm_CF hown hK hP hD hS (by decide) kc_CF (by decide) rfl 1 (by decide) (hts _ hw_0) (fun _ h9 => h9) rfl (by decide +kernel) rfl d_CF_append_58 (fun s14 e15 H locs hP hS => ?_)
        replace h := xw_letI e15 h
        obtain ⟨v16, e17⟩ : ∃ z, z = i3_28 + (-1) := ⟨_, rfl⟩
        replace h := xw_letI e17 h
        refine xw_iinc (lv' := [(3, .int (xw_i v16)), (0, .ref (ad 1)), (1, .int (xw_i c1_28))]) hx hb d_CF_append_61 hl (k := 2) rfl (by decide) (by rw [e17]; rfl) (fun ls hl => ?_)
        refine lv_goto (tgt := 28) hx hb d_CF_append_64 (by decide) ?_
        exact ih28 s14 v16 h _ _ _ hP hS (lv_sub hl [1, 2, 0] rfl)
  unfold f_CF_append at h
  refine lv_iload_n hx hb d_CF_append_0 rfl (lv_at hl 2 rfl) ?_
  refine lv_iconst (v := xw_i 1) hx hb d_CF_append_1 rfl ?_
  obtain ⟨hg1, h⟩ := xw_grdI h
  refine xw_icmp_lt (tgt := 22) hx hb hg1 (by decide) d_CF_append_2 (by decide) (fun hc2 => ?_) (fun hc2 => ?_)
  · replace h := xw_ifT hc2 h
    refine lv_iconst (v := xw_i 0) hx hb d_CF_append_22 rfl ?_
    exact xw_zretE hx hb hr hlk hP hK hD hX hS h (by decide) d_CF_append_23
  · replace h := xw_ifF hc2 h
    refine lv_iload_n hx hb d_CF_append_5 rfl (lv_at hl 2 rfl) ?_
    refine lv_iconst (v := xw_i 4) hx hb d_CF_append_6 rfl ?_
    refine xw_icmp_gt (tgt := 22) hx hb hg1 (by decide) d_CF_append_7 (by decide) (fun hc3 => ?_) (fun hc3 => ?_)
    · replace h := xw_ifT hc3 h
      refine lv_iconst (v := xw_i 0) hx hb d_CF_append_22 rfl ?_
      exact xw_zretE hx hb hr hlk hP hK hD hX hS h (by decide) d_CF_append_23
    · replace h := xw_ifF hc3 h
      refine lv_aload_n hx hb d_CF_append_10 rfl (lv_at hl 0 rfl) ?_
      refine xw_getI (C := "AdviceWeaver$ClassFile") (T := T_CF) hx hb hts hin_CF hown hK hP (by decide) kc_CF (by decide) rfl 1 (by decide) (hts _ hw_0) (fun _ h9 => h9) rfl d_CF_append_11 ?_
      refine lv_iload_n hx hb d_CF_append_14 rfl (lv_at hl 2 rfl) ?_
      refine xw_iadd hx hb d_CF_append_15 ?_
      refine lv_sipush (v := xw_i 240) hx hb d_CF_append_16 (by decide) ?_
      obtain ⟨hg4, h⟩ := xw_grdI h
      refine xw_icmp_le (tgt := 24) hx hb hg4 (by decide) d_CF_append_19 (by decide) (fun hc5 => ?_) (fun hc5 => ?_)
      · replace h := xw_ifT hc5 h
        refine lv_iload_n hx hb d_CF_append_24 rfl (lv_at hl 2 rfl) ?_
        refine lv_iconst (v := xw_i 1) hx hb d_CF_append_25 rfl ?_
        refine xw_isub hx hb d_CF_append_26 ?_
        refine xw_topi (fun v6 e7 => ?_)
        replace h := xw_letI e7 h
        refine lv_istore_n hx hb d_CF_append_27 rfl hl (by decide) rfl (fun ls hl => ?_)
        refine xw_jnI (fun j => ∀ (sq : xw_S), j sq = some (sZ, r0) → ∀ (H : Heap) (locs : List Loc) (ls : Array Slot), va_P D vwCl (xw_ws kdC 100 ad cs Z sq) H → va_S A s.heap H locs → lv_has ls 4 [] → W p l e (headSpec w_CF_append ({ frames := 0, cells := 0, slots := 0, locals := 0 })).room s m [.ref (ad 1), .int (xw_i p1), .int (xw_i p2)].toArray below meth c H locs 0 0 (MQ below (va_Qi (fun r u => r = xw_i r0 ∧ u = sZ) (xw_H D vwCl A kdC 100 ad cs Z tt) A) [.ref (ad 1), .int (xw_i p1), .int (xw_i p2)].toArray s 0 0 A) (F0 m 67 ls [])) h ?_ ?_
        · intro s18 h H locs ls hP hS hl
          refine lv_iconst (v := xw_i 1) hx hb d_CF_append_67 rfl ?_
          exact xw_zretE hx hb hr hlk hP hK hD hX hS h (by decide) d_CF_append_68
        · intro k67 hk67 h
          exact hlp28 p1 k67 hk67 fu s0 v6 h _ _ _ hP hS (lv_sub hl [1, 2, 0] rfl)
      · replace h := xw_ifF hc5 h
        refine lv_iconst (v := xw_i 0) hx hb d_CF_append_22 rfl ?_
        exact xw_zretE hx hb hr hlk hP hK hD hX hS h (by decide) d_CF_append_23
def f_CF_empty (fu : Nat) (s0 : xw_S) : Option xw_S :=
 xw_let (xw_st s0 1 1 0) (fun s1 => some s1)
set_option maxRecDepth 100000 in
set_option maxHeartbeats 4000000 in
theorem c_CF_empty (l : Launch) (D : va_G) (A : Nat → Prop) (ad : Nat → Nat) (cs : Nat → ClassId) (Z : va_W) (tt : Nat → Nat) (fu : Nat) (s0 sZ : xw_S) (h : f_CF_empty fu s0 = some sZ) : Met l y_CF_empty w_CF_empty ({ frames := 0, cells := 0, slots := 0, locals := 0 }) (va_Pc [.ref (ad 1)] (xw_H D vwCl A kdC 100 ad cs Z tt s0)) (va_Qv (fun u => u = sZ) (xw_H D vwCl A kdC 100 ad cs Z tt) A) 0 0 A := by
  refine Met.ofW (cc := b_CF_empty) (maxL := 1) (ret := none) (by decide) rfl ?_
  intro p e s m args below meth c s₁ B hml hv
  obtain ⟨rfl, hP, hK, hD, hX⟩ := hv
  have hx := B.exec
  have hb := B.bytes
  have hr := B.returns
  have hts0 := atoms_spec (ws := w_CF_empty) B.pre
  have hts := fun w (hw : w ∈ wAll) => hts0 w (List.mem_cons_of_mem _ hw)
  have hown : s.vm.findClass "AdviceWeaver$ClassFile" = some m.cls := findClass_of_methodNamed B.named
  have hlk := B.notSynchronized
  clear hts0 B
  have hS : va_S A s.heap s.heap [] := va_S.rf
  have hl := lv_entry [.ref (ad 1)] (n := 1) (Nat.le_of_ble_eq_true rfl)
  rw [lg_entry_eq]
  generalize (lg_sl [.ref (ad 1)] ++ List.replicate (1 - (lg_sl [.ref (ad 1)]).length) Slot.unset).toArray = ls at hl ⊢
  have hl : lv_has ls 1 [(0, .ref (ad 1))] := hl
  unfold f_CF_empty at h
  refine lv_aload_n hx hb d_CF_empty_0 rfl (lv_at hl 0 rfl) ?_
  refine lv_iconst (v := xw_i 0) hx hb d_CF_empty_1 rfl ?_
  refine xw_putI (C := "AdviceWeaver$ClassFile") (T := T_CF) hx hb hts hin_CF ty_CF ty_CF_ok nm_CF hown hK hP hD hS (by decide) kc_CF (by decide) rfl 1 (by decide) (hts _ hw_0) (fun _ h9 => h9) rfl (by decide +kernel) rfl d_CF_empty_2 (fun s1 e2 H locs hP hS => ?_)
  replace h := xw_letI e2 h
  exact xw_vretE hx hb hr hlk hP hK hD hX hS h d_CF_empty_5
def f_CF_take (fu : Nat) (s0 : xw_S) (p1 : Int) (p2 : Int) : Option (xw_S × Int) :=
 xw_jn (fun (s13 : xw_S) => xw_let (xw_st s13 1 3 1) (fun s14 => some (s14, p1)))
 (fun (j44 : xw_S → Option (xw_S × Int)) => xw_grd (xw_r (s0.1 1 3)) (xw_if (s0.1 1 3 = 0) (xw_grd (xw_r (s0.1 1 2) ∧ xw_r (s0.1 1 1)) (xw_if (s0.1 1 1 ≤ s0.1 1 2) (j44 s0)
 (xw_grd ((0 ≤ s0.1 1 2 ∧ s0.1 1 2 < ((240 : Nat) : Int))) (xw_grd (xw_r (s0.1 2 (s0.1 1 2).toNat) ∧ xw_r p1) (xw_if (s0.1 2 (s0.1 1 2).toNat < p1) (j44 s0)
 (xw_grd (xw_r p2) (xw_if (s0.1 2 (s0.1 1 2).toNat ≤ p2) (xw_let (xw_st s0 1 2 ((s0.1 1 2) + 1)) (fun s10 => xw_grd ((0 ≤ (s10.1 1 2) - 1 ∧ (s10.1 1 2) - 1 < ((240 : Nat) : Int))) (some (s10, s10.1 2 ((s10.1 1 2) - 1).toNat))))
 (j44 s0))))))))
 (j44 s0)))
set_option maxRecDepth 100000 in
set_option maxHeartbeats 4000000 in
theorem c_CF_take (l : Launch) (D : va_G) (A : Nat → Prop) (ad : Nat → Nat) (cs : Nat → ClassId) (Z : va_W) (tt : Nat → Nat) (fu : Nat) (s0 sZ : xw_S) (p1 : Int) (p2 : Int) (r0 : Int) (h : f_CF_take fu s0 p1 p2 = some (sZ, r0)) : Met l y_CF_take w_CF_take ({ frames := 0, cells := 0, slots := 0, locals := 0 }) (va_Pc [.ref (ad 1), .int (xw_i p1), .int (xw_i p2)] (xw_H D vwCl A kdC 100 ad cs Z tt s0)) (va_Qi (fun r u => r = xw_i r0 ∧ u = sZ) (xw_H D vwCl A kdC 100 ad cs Z tt) A) 0 0 A := by
  refine Met.ofW (cc := b_CF_take) (maxL := 3) (ret := (some .int)) (by decide) rfl ?_
  intro p e s m args below meth c s₁ B hml hv
  obtain ⟨rfl, hP, hK, hD, hX⟩ := hv
  have hx := B.exec
  have hb := B.bytes
  have hr := B.returns
  have hts0 := atoms_spec (ws := w_CF_take) B.pre
  have hts := fun w (hw : w ∈ wAll) => hts0 w (List.mem_cons_of_mem _ hw)
  have hown : s.vm.findClass "AdviceWeaver$ClassFile" = some m.cls := findClass_of_methodNamed B.named
  have hlk := B.notSynchronized
  clear hts0 B
  have hS : va_S A s.heap s.heap [] := va_S.rf
  have hl := lv_entry [.ref (ad 1), .int (xw_i p1), .int (xw_i p2)] (n := 3) (Nat.le_of_ble_eq_true rfl)
  rw [lg_entry_eq]
  generalize (lg_sl [.ref (ad 1), .int (xw_i p1), .int (xw_i p2)] ++ List.replicate (3 - (lg_sl [.ref (ad 1), .int (xw_i p1), .int (xw_i p2)]).length) Slot.unset).toArray = ls at hl ⊢
  have hl : lv_has ls 3 [(0, .ref (ad 1)), (1, .int (xw_i p1)), (2, .int (xw_i p2))] := hl
  unfold f_CF_take at h
  refine lv_aload_n hx hb d_CF_take_0 rfl (lv_at hl 0 rfl) ?_
  refine xw_getI (C := "AdviceWeaver$ClassFile") (T := T_CF) hx hb hts hin_CF hown hK hP (by decide) kc_CF (by decide) rfl 3 (by decide) (hts _ hw_12) (fun _ h9 => h9) rfl d_CF_take_1 ?_
  refine xw_jnI (fun j => ∀ (sq : xw_S), j sq = some (sZ, r0) → ∀ (H : Heap) (locs : List Loc) (ls : Array Slot), va_P D vwCl (xw_ws kdC 100 ad cs Z sq) H → va_S A s.heap H locs → lv_has ls 3 [(0, .ref (ad 1)), (1, .int (xw_i p1))] → W p l e (headSpec w_CF_take ({ frames := 0, cells := 0, slots := 0, locals := 0 })).room s m [.ref (ad 1), .int (xw_i p1), .int (xw_i p2)].toArray below meth c H locs 0 0 (MQ below (va_Qi (fun r u => r = xw_i r0 ∧ u = sZ) (xw_H D vwCl A kdC 100 ad cs Z tt) A) [.ref (ad 1), .int (xw_i p1), .int (xw_i p2)].toArray s 0 0 A) (F0 m 44 ls [])) h ?_ ?_
  · intro s13 h H locs ls hP hS hl
    refine lv_aload_n hx hb d_CF_take_44 rfl (lv_at hl 0 rfl) ?_
    refine lv_iconst (v := xw_i 1) hx hb d_CF_take_45 rfl ?_
    refine xw_putB (C := "AdviceWeaver$ClassFile") (T := T_CF) hx hb hts hin_CF ty_CF ty_CF_ok nm_CF hown hK hP hD hS (by decide) kc_CF (by decide) rfl 3 (by decide) (hts _ hw_12) (fun _ h9 => h9) rfl (by decide +kernel) rfl d_CF_take_46 (by decide) (fun s14 e15 H locs hP hS => ?_)
    replace h := xw_letI e15 h
    refine lv_iload_n hx hb d_CF_take_49 rfl (lv_at hl 1 rfl) ?_
    exact xw_iretE hx hb hr hlk hP hK hD hX hS h d_CF_take_50
  · intro j44 hj44 h
    obtain ⟨hg1, h⟩ := xw_grdI h
    refine xw_if_ne (tgt := 44) hx hb hg1 d_CF_take_4 (by decide) (fun hc2 => ?_) (fun hc2 => ?_)
    · replace h := xw_ifF hc2 h
      exact hj44 s0 h _ _ _ hP hS (lv_sub hl [0, 1] rfl)
    · replace h := xw_ifT hc2 h
      refine lv_aload_n hx hb d_CF_take_7 rfl (lv_at hl 0 rfl) ?_
      refine xw_getI (C := "AdviceWeaver$ClassFile") (T := T_CF) hx hb hts hin_CF hown hK hP (by decide) kc_CF (by decide) rfl 2 (by decide) (hts _ hw_13) (fun _ h9 => h9) rfl d_CF_take_8 ?_
      refine lv_aload_n hx hb d_CF_take_11 rfl (lv_at hl 0 rfl) ?_
      refine xw_getI (C := "AdviceWeaver$ClassFile") (T := T_CF) hx hb hts hin_CF hown hK hP (by decide) kc_CF (by decide) rfl 1 (by decide) (hts _ hw_0) (fun _ h9 => h9) rfl d_CF_take_12 ?_
      obtain ⟨hg3, h⟩ := xw_grdI h
      refine xw_icmp_ge (tgt := 44) hx hb hg3.1 hg3.2 d_CF_take_15 (by decide) (fun hc4 => ?_) (fun hc4 => ?_)
      · replace h := xw_ifT hc4 h
        exact hj44 s0 h _ _ _ hP hS (lv_sub hl [0, 1] rfl)
      · replace h := xw_ifF hc4 h
        refine lv_aload_n hx hb d_CF_take_18 rfl (lv_at hl 0 rfl) ?_
        refine xw_getR (C := "AdviceWeaver$ClassFile") (T := T_CF) hx hb hts hin_CF hown hK hP (by decide) kc_CF (by decide) rfl 0 (by decide) (hts _ hw_1) (fun _ h9 => h9) rfl d_CF_take_19 ?_
        refine lv_aload_n hx hb d_CF_take_22 rfl (lv_at hl 0 rfl) ?_
        refine xw_getI (C := "AdviceWeaver$ClassFile") (T := T_CF) hx hb hts hin_CF hown hK hP (by decide) kc_CF (by decide) rfl 2 (by decide) (hts _ hw_13) (fun _ h9 => h9) rfl d_CF_take_23 ?_
        obtain ⟨hg5, h⟩ := xw_grdI h
        refine xw_iald hx hb hK hP (by decide) kc_bytes (by decide) hg5 d_CF_take_26 ?_
        refine lv_iload_n hx hb d_CF_take_27 rfl (lv_at hl 1 rfl) ?_
        obtain ⟨hg6, h⟩ := xw_grdI h
        refine xw_icmp_lt (tgt := 44) hx hb hg6.1 hg6.2 d_CF_take_28 (by decide) (fun hc7 => ?_) (fun hc7 => ?_)
        · replace h := xw_ifT hc7 h
          exact hj44 s0 h _ _ _ hP hS (lv_sub hl [0, 1] rfl)
        · replace h := xw_ifF hc7 h
          refine lv_aload_n hx hb d_CF_take_31 rfl (lv_at hl 0 rfl) ?_
          refine xw_getR (C := "AdviceWeaver$ClassFile") (T := T_CF) hx hb hts hin_CF hown hK hP (by decide) kc_CF (by decide) rfl 0 (by decide) (hts _ hw_1) (fun _ h9 => h9) rfl d_CF_take_32 ?_
          refine lv_aload_n hx hb d_CF_take_35 rfl (lv_at hl 0 rfl) ?_
          refine xw_getI (C := "AdviceWeaver$ClassFile") (T := T_CF) hx hb hts hin_CF hown hK hP (by decide) kc_CF (by decide) rfl 2 (by decide) (hts _ hw_13) (fun _ h9 => h9) rfl d_CF_take_36 ?_
          refine xw_iald hx hb hK hP (by decide) kc_bytes (by decide) hg5 d_CF_take_39 ?_
          refine lv_iload_n hx hb d_CF_take_40 rfl (lv_at hl 2 rfl) ?_
          obtain ⟨hg8, h⟩ := xw_grdI h
          refine xw_icmp_le (tgt := 51) hx hb hg6.1 hg8 d_CF_take_41 (by decide) (fun hc9 => ?_) (fun hc9 => ?_)
          · replace h := xw_ifT hc9 h
            refine lv_aload_n hx hb d_CF_take_51 rfl (lv_at hl 0 rfl) ?_
            refine lv_dup hx hb d_CF_take_52 rfl ?_
            refine xw_getI (C := "AdviceWeaver$ClassFile") (T := T_CF) hx hb hts hin_CF hown hK hP (by decide) kc_CF (by decide) rfl 2 (by decide) (hts _ hw_13) (fun _ h9 => h9) rfl d_CF_take_53 ?_
            refine lv_iconst (v := xw_i 1) hx hb d_CF_take_56 rfl ?_
            refine xw_iadd hx hb d_CF_take_57 ?_
            refine xw_putI (C := "AdviceWeaver$ClassFile") (T := T_CF) hx hb hts hin_CF ty_CF ty_CF_ok nm_CF hown hK hP hD hS (by decide) kc_CF (by decide) rfl 2 (by decide) (hts _ hw_13) (fun _ h9 => h9) rfl (by decide +kernel) rfl d_CF_take_58 (fun s10 e11 H locs hP hS => ?_)
            replace h := xw_letI e11 h
            refine lv_aload_n hx hb d_CF_take_61 rfl (lv_at hl 0 rfl) ?_
            refine xw_getR (C := "AdviceWeaver$ClassFile") (T := T_CF) hx hb hts hin_CF hown hK hP (by decide) kc_CF (by decide) rfl 0 (by decide) (hts _ hw_1) (fun _ h9 => h9) rfl d_CF_take_62 ?_
            refine lv_aload_n hx hb d_CF_take_65 rfl (lv_at hl 0 rfl) ?_
            refine xw_getI (C := "AdviceWeaver$ClassFile") (T := T_CF) hx hb hts hin_CF hown hK hP (by decide) kc_CF (by decide) rfl 2 (by decide) (hts _ hw_13) (fun _ h9 => h9) rfl d_CF_take_66 ?_
            refine lv_iconst (v := xw_i 1) hx hb d_CF_take_69 rfl ?_
            refine xw_isub hx hb d_CF_take_70 ?_
            obtain ⟨hg12, h⟩ := xw_grdI h
            refine xw_iald hx hb hK hP (by decide) kc_bytes (by decide) hg12 d_CF_take_71 ?_
            exact xw_iretE hx hb hr hlk hP hK hD hX hS h d_CF_take_72
          · replace h := xw_ifF hc9 h
            exact hj44 s0 h _ _ _ hP hS (lv_sub hl [0, 1] rfl)
def lp_CF_readHandlers_14 (fu : Nat) (b1 : Nat) (c2_14 : Int) (k72 : xw_S → Option xw_S) : Nat → xw_S → Int → Option xw_S
  | 0, _, _ => none
  | n + 1, s6, i3_14 =>
    xw_grd (xw_r i3_14 ∧ xw_r c2_14) (xw_if (c2_14 ≤ i3_14) (k72 s6)
     (xw_bn2 (f_CF_take fu s6 0 255) (fun s9 r11 => xw_bn2 (f_CF_take fu s9 0 255) (fun s12 r14 => xw_bn2 (f_CF_take fu s12 0 255) (fun s15 r17 => xw_bn2 (f_CF_take fu s15 0 9) (fun s18 r20 => xw_bnd (f_B_addHandler fu s18 b1 r11 r14 r17 r20) (fun s21 => xw_let (i3_14 + 1) (fun v24 => lp_CF_readHandlers_14 fu b1 c2_14 k72 n s21 v24))))))))
def f_CF_readHandlers (fu : Nat) (s0 : xw_S) (b1 : Nat) : Option xw_S :=
 xw_bn2 (f_CF_take fu s0 0 3) (fun s1 r3 => xw_let (xw_st s1 (48 + 4 * b1) 9 0) (fun s4 => xw_jn (fun (s26 : xw_S) => some s26)
 (fun (k72 : xw_S → Option xw_S) => lp_CF_readHandlers_14 fu b1 r3 k72 fu s4 0)))
set_option maxRecDepth 100000 in
set_option maxHeartbeats 4000000 in
theorem c_CF_readHandlers (l : Launch) (D : va_G) (A : Nat → Prop) (ad : Nat → Nat) (cs : Nat → ClassId) (Z : va_W) (tt : Nat → Nat) (fu : Nat) (s0 sZ : xw_S) (b1 : Nat) (hb_b1 : b1 < 13) (h : f_CF_readHandlers fu s0 b1 = some sZ) : Met l y_CF_readHandlers w_CF_readHandlers ({ frames := 1, cells := 0, slots := 0, locals := 25 }) (va_Pc [.ref (ad 1), .ref (ad (48 + 4 * b1))] (xw_H D vwCl A kdC 100 ad cs Z tt s0)) (va_Qv (fun u => u = sZ) (xw_H D vwCl A kdC 100 ad cs Z tt) A) 0 0 A := by
  refine Met.ofW (cc := b_CF_readHandlers) (maxL := 7) (ret := none) (by decide) rfl ?_
  intro p e s m args below meth c s₁ B hml hv
  obtain ⟨rfl, hP, hK, hD, hX⟩ := hv
  have hx := B.exec
  have hb := B.bytes
  have hr := B.returns
  have hts0 := atoms_spec (ws := w_CF_readHandlers) B.pre
  have hts := fun w (hw : w ∈ wAll) => hts0 w (List.mem_cons_of_mem _ hw)
  have hown : s.vm.findClass "AdviceWeaver$ClassFile" = some m.cls := findClass_of_methodNamed B.named
  have hlk := B.notSynchronized
  clear hts0 B
  have hS : va_S A s.heap s.heap [] := va_S.rf
  have hl := lv_entry [.ref (ad 1), .ref (ad (48 + 4 * b1))] (n := 7) (Nat.le_of_ble_eq_true rfl)
  rw [lg_entry_eq]
  generalize (lg_sl [.ref (ad 1), .ref (ad (48 + 4 * b1))] ++ List.replicate (7 - (lg_sl [.ref (ad 1), .ref (ad (48 + 4 * b1))]).length) Slot.unset).toArray = ls at hl ⊢
  have hl : lv_has ls 7 [(0, .ref (ad 1)), (1, .ref (ad (48 + 4 * b1)))] := hl
  have hlp14 : ∀ (c2_14 : Int) (k72 : xw_S → Option xw_S) (hk72 : ∀ (sq : xw_S), k72 sq = some sZ → ∀ (H : Heap) (locs : List Loc) (ls : Array Slot), va_P D vwCl (xw_ws kdC 100 ad cs Z sq) H → va_S A s.heap H locs → lv_has ls 7 [] → W p l e (headSpec w_CF_readHandlers ({ frames := 1, cells := 0, slots := 0, locals := 25 })).room s m [.ref (ad 1), .ref (ad (48 + 4 * b1))].toArray below meth c H locs 0 0 (MQ below (va_Qv (fun u => u = sZ) (xw_H D vwCl A kdC 100 ad cs Z tt) A) [.ref (ad 1), .ref (ad (48 + 4 * b1))].toArray s 0 0 A) (F0 m 72 ls [])) (n : Nat), ∀ (sq : xw_S) (i3_14 : Int), lp_CF_readHandlers_14 fu b1 c2_14 k72 n sq i3_14 = some sZ → ∀ (H : Heap) (locs : List Loc) (ls : Array Slot), va_P D vwCl (xw_ws kdC 100 ad cs Z sq) H → va_S A s.heap H locs → lv_has ls 7 [(0, .ref (ad 1)), (1, .ref (ad (48 + 4 * b1))), (2, .int (xw_i c2_14)), (3, .int (xw_i i3_14))] → W p l e (headSpec w_CF_readHandlers ({ frames := 1, cells := 0, slots := 0, locals := 25 })).room s m [.ref (ad 1), .ref (ad (48 + 4 * b1))].toArray below meth c H locs 0 0 (MQ below (va_Qv (fun u => u = sZ) (xw_H D vwCl A kdC 100 ad cs Z tt) A) [.ref (ad 1), .ref (ad (48 + 4 * b1))].toArray s 0 0 A) (F0 m 14 ls []) := by
    intro c2_14 k72 hk72 n
    induction n with
    | zero =>
      intro sq i3_14 h
      cases (show (none : Option xw_S) = some sZ from h)
    | succ n ih14 =>
      intro s6 i3_14 h H locs ls hP hS hl
      unfold lp_CF_readHandlers_14 at h
      refine lv_iload_n hx hb d_CF_readHandlers_14 rfl (lv_at hl 3 rfl) ?_
      refine lv_iload_n hx hb d_CF_readHandlers_15 rfl (lv_at hl 2 rfl) ?_
      obtain ⟨hg7, h⟩ := xw_grdI h
      refine xw_icmp_ge (tgt := 72) hx hb hg7.1 hg7.2 d_CF_readHandlers_16 (by decide) (fun hc8 => ?_) (fun hc8 => ?_)
      · replace h := xw_ifT hc8 h
        exact hk72 s6 h _ _ _ hP hS (lv_sub hl [] rfl)
      · replace h := xw_ifF hc8 h
        refine lv_aload_n hx hb d_CF_readHandlers_19 rfl (lv_at hl 0 rfl) ?_
        refine lv_iconst (v := xw_i 0) hx hb d_CF_readHandlers_20 rfl ?_
        refine lv_sipush (v := xw_i 255) hx hb d_CF_readHandlers_21 (by decide) ?_
        obtain ⟨s9, r11, hc10, h⟩ := xw_bn2I h
        refine xw_callVi (C := "AdviceWeaver$ClassFile") (T := T_CF) ⟨hx, hb, hml, hown, hts⟩ (c_CF_take l D A ad cs Z tt fu s6 s9 0 255 r11 hc10) (cwV 2 hts (gd_V hw_17 hw_18 hw_19 hw_6 hw_20) rfl rfl rfl (by decide +kernel) ⟨Nat.le_of_ble_eq_true rfl, Nat.le_of_ble_eq_true rfl⟩) hP hK hD hX hS (by decide) kc_CF (by decide) rfl rfl hl.1 rfl (Nat.le_of_ble_eq_true rfl) d_CF_readHandlers_24 (fun H locs hP hS => ?_)
        refine lv_istore hx hb d_CF_readHandlers_27 hl (by decide) rfl (fun ls hl => ?_)
        refine lv_aload_n hx hb d_CF_readHandlers_29 rfl (lv_at hl 1 rfl) ?_
        refine lv_iconst (v := xw_i 0) hx hb d_CF_readHandlers_30 rfl ?_
        refine lv_sipush (v := xw_i 255) hx hb d_CF_readHandlers_31 (by decide) ?_
        obtain ⟨s12, r14, hc13, h⟩ := xw_bn2I h
        refine xw_callVi (C := "AdviceWeaver$ClassFile") (T := T_CF) ⟨hx, hb, hml, hown, hts⟩ (c_CF_take l D A ad cs Z tt fu s9 s12 0 255 r14 hc13) (cwV 2 hts (gd_V hw_17 hw_18 hw_19 hw_6 hw_20) rfl rfl rfl (by decide +kernel) ⟨Nat.le_of_ble_eq_true rfl, Nat.le_of_ble_eq_true rfl⟩) hP hK hD hX hS (by decide) kc_CF (by decide) rfl rfl hl.1 rfl (Nat.le_of_ble_eq_true rfl) d_CF_readHandlers_34 (fun H locs hP hS => ?_)
        refine lv_istore hx hb d_CF_readHandlers_37 hl (by decide) rfl (fun ls hl => ?_)
        refine lv_aload_n hx hb d_CF_readHandlers_39 rfl (lv_at hl 2 rfl) ?_
        refine lv_iconst (v := xw_i 0) hx hb d_CF_readHandlers_40 rfl ?_
        refine lv_sipush (v := xw_i 255) hx hb d_CF_readHandlers_41 (by decide) ?_
        obtain ⟨s15, r17, hc16, h⟩ := xw_bn2I h
        refine xw_callVi (C := "AdviceWeaver$ClassFile") (T := T_CF) ⟨hx, hb, hml, hown, hts⟩ (c_CF_take l D A ad cs Z tt fu s12 s15 0 255 r17 hc16) (cwV 2 hts (gd_V hw_17 hw_18 hw_19 hw_6 hw_20) rfl rfl rfl (by decide +kernel) ⟨Nat.le_of_ble_eq_true rfl, Nat.le_of_ble_eq_true rfl⟩) hP hK hD hX hS (by decide) kc_CF (by decide) rfl rfl hl.1 rfl (Nat.le_of_ble_eq_true rfl) d_CF_readHandlers_44 (fun H locs hP hS => ?_)
        refine lv_istore hx hb d_CF_readHandlers_47 hl (by decide) rfl (fun ls hl => ?_)
        refine lv_aload_n hx hb d_CF_readHandlers_49 rfl (lv_at hl 4 rfl) ?_
        refine lv_iload hx hb d_CF_readHandlers_50 (lv_at hl 2 rfl) ?_
        refine lv_iload hx hb d_CF_readHandlers_52 (lv_at hl 1 rfl) ?_
        refine lv_iload hx hb d_CF_readHandlers_54 (lv_at hl 0 rfl) ?_
        refine lv_aload_n hx hb d_CF_readHandlers_56 rfl (lv_at hl 3 rfl) ?_
        refine lv_iconst (v := xw_i 0) hx hb d_CF_readHandlers_57 rfl ?_
        refine lv_bipush (v := xw_i 9) hx hb d_CF_readHandlers_58 (by decide) ?_
        obtain ⟨s18, r20, hc19, h⟩ := xw_bn2I h
        refine xw_callVi (C := "AdviceWeaver$ClassFile") (T := T_CF) ⟨hx, hb, hml, hown, hts⟩ (c_CF_take l D A ad cs Z tt fu s15 s18 0 9 r20 hc19) (cwV 2 hts (gd_V hw_17 hw_18 hw_19 hw_6 hw_20) rfl rfl rfl (by decide +kernel) ⟨Nat.le_of_ble_eq_true rfl, Nat.le_of_ble_eq_true rfl⟩) hP hK hD hX hS (by decide) kc_CF (by decide) rfl rfl hl.1 rfl (Nat.le_of_ble_eq_true rfl) d_CF_readHandlers_60 (fun H locs hP hS => ?_)
        obtain ⟨s21, hc22, h⟩ := xw_bndI h
        refine xw_callVv (C := "AdviceWeaver$Body") (T := T_B) ⟨hx, hb, hml, hown, hts⟩ (c_B_addHandler l D A ad cs Z tt fu s18 s21 b1 (by omega) r11 r14 r17 r20 hc22) (cwV 4 hts (gd_V hw_22 hw_23 hw_24 hw_25 hw_26) rfl rfl rfl (by decide +kernel) ⟨Nat.le_of_ble_eq_true rfl, Nat.le_of_ble_eq_true rfl⟩) hP hK hD hX hS (by omega) (kc_Body b1 (by omega)) (by decide) rfl rfl hl.1 rfl (Nat.le_of_ble_eq_true rfl) d_CF_readHandlers_63 (fun H locs hP hS => ?_)
        obtain ⟨v24, e25⟩ : ∃ z, z = i3_14 + 1 := ⟨_, rfl⟩
        replace h := xw_letI e25 h
        refine xw_iinc (lv' := [(3, .int (xw_i v24)), (6, .int (xw_i r17)), (5, .int (xw_i r14)), (4, .int (xw_i r11)), (0, .ref (ad 1)), (1, .ref (ad (48 + 4 * b1))), (2, .int (xw_i c2_14))]) hx hb d_CF_readHandlers_66 hl (k := 6) rfl (by decide) (by rw [e25]; rfl) (fun ls hl => ?_)
        refine lv_goto (tgt := 14) hx hb d_CF_readHandlers_69 (by decide) ?_
        exact ih14 s21 v24 h _ _ _ hP hS (lv_sub hl [4, 5, 6, 0] rfl)
  unfold f_CF_readHandlers at h
  refine lv_aload_n hx hb d_CF_readHandlers_0 rfl (lv_at hl 0 rfl) ?_
  refine lv_iconst (v := xw_i 0) hx hb d_CF_readHandlers_1 rfl ?_
  refine lv_iconst (v := xw_i 3) hx hb d_CF_readHandlers_2 rfl ?_
  obtain ⟨s1, r3, hc2, h⟩ := xw_bn2I h
  refine xw_callVi (C := "AdviceWeaver$ClassFile") (T := T_CF) ⟨hx, hb, hml, hown, hts⟩ (c_CF_take l D A ad cs Z tt fu s0 s1 0 3 r3 hc2) (cwV 2 hts (gd_V hw_17 hw_18 hw_19 hw_6 hw_20) rfl rfl rfl (by decide +kernel) ⟨Nat.le_of_ble_eq_true rfl, Nat.le_of_ble_eq_true rfl⟩) hP hK hD hX hS (by decide) kc_CF (by decide) rfl rfl hl.1 rfl (Nat.le_of_ble_eq_true rfl) d_CF_readHandlers_3 (fun H locs hP hS => ?_)
  refine lv_istore_n hx hb d_CF_readHandlers_6 rfl hl (by decide) rfl (fun ls hl => ?_)
  refine lv_aload_n hx hb d_CF_readHandlers_7 rfl (lv_at hl 2 rfl) ?_
  refine lv_iconst (v := xw_i 0) hx hb d_CF_readHandlers_8 rfl ?_
  refine xw_putI (C := "AdviceWeaver$Body") (T := T_B) hx hb hts hin_B ty_B ty_B_ok nm_B hown hK hP hD hS (by omega) (kc_Body b1 (by omega)) (by decide) rfl 9 (by decide) (hts _ hw_21) (fun _ h9 => h9) rfl (by decide +kernel) rfl d_CF_readHandlers_9 (fun s4 e5 H locs hP hS => ?_)
  replace h := xw_letI e5 h
  refine lv_iconst (v := xw_i 0) hx hb d_CF_readHandlers_12 rfl ?_
  refine lv_istore_n hx hb d_CF_readHandlers_13 rfl hl (by decide) rfl (fun ls hl => ?_)
  refine xw_jnI (fun j => ∀ (sq : xw_S), j sq = some sZ → ∀ (H : Heap) (locs : List Loc) (ls : Array Slot), va_P D vwCl (xw_ws kdC 100 ad cs Z sq) H → va_S A s.heap H locs → lv_has ls 7 [] → W p l e (headSpec w_CF_readHandlers ({ frames := 1, cells := 0, slots := 0, locals := 25 })).room s m [.ref (ad 1), .ref (ad (48 + 4 * b1))].toArray below meth c H locs 0 0 (MQ below (va_Qv (fun u => u = sZ) (xw_H D vwCl A kdC 100 ad cs Z tt) A) [.ref (ad 1), .ref (ad (48 + 4 * b1))].toArray s 0 0 A) (F0 m 72 ls [])) h ?_ ?_
  · intro s26 h H locs ls hP hS hl
    exact xw_vretE hx hb hr hlk hP hK hD hX hS h d_CF_readHandlers_72
  · intro k72 hk72 h
    exact hlp14 r3 k72 hk72 fu s4 0 h _ _ _ hP hS (lv_sub hl [2, 3, 1, 0] rfl)
def lp_CF_readMethod_19 (fu : Nat) (a1 : Nat) (c2_19 : Int) (e3_19 : Nat) (k67 : xw_S → Nat → Option xw_S) : Nat → xw_S → Int → Option xw_S
  | 0, _, _ => none
  | n + 1, s7, i4_19 =>
    xw_grd (xw_r i4_19 ∧ xw_r c2_19) (xw_if (c2_19 ≤ i4_19) (k67 s7 e3_19)
     (xw_grd (xw_r (s7.1 1 3)) (xw_if (s7.1 1 3 = 0) (xw_grd ((0 ≤ i4_19 ∧ i4_19 < ((4 : Nat) : Int))) (xw_jn (fun (s19 : xw_S) (i4_61 : Int) => xw_let (i4_61 + 1) (fun v20 => lp_CF_readMethod_19 fu a1 c2_19 e3_19 k67 n s19 v20))
     (fun (j61 : xw_S → Int → Option xw_S) => xw_grd (xw_r (s7.1 (48 + 4 * (4 * a1 + (i4_19).toNat)) 4) ∧ xw_r (s7.1 (48 + 4 * e3_19) 4)) (xw_if (s7.1 (48 + 4 * (4 * a1 + (i4_19).toNat)) 4 = s7.1 (48 + 4 * e3_19) 4) (xw_let (xw_st s7 1 2 ((s7.1 1 2) - 1)) (fun s15 => xw_let (xw_st s15 1 3 1) (fun s17 => j61 s17 i4_19)))
     (j61 s7 i4_19)))))
     (k67 s7 e3_19))))
def lp_CF_readMethod_116 (fu : Nat) (a1 : Nat) (e3_116 : Nat) (k146 : xw_S → Nat → Option xw_S) : Nat → xw_S → Int → Option xw_S
  | 0, _, _ => none
  | n + 1, s43, i4_116 =>
    xw_grd (xw_r i4_116 ∧ xw_r (s43.1 (48 + 4 * e3_116) 8)) (xw_if (s43.1 (48 + 4 * e3_116) 8 ≤ i4_116) (k146 s43 e3_116)
     (xw_bn2 (f_CF_take fu s43 0 255) (fun s46 r48 => xw_grd ((0 ≤ i4_116 ∧ i4_116 < ((xb_cap e3_116 : Nat) : Int))) (xw_let (xw_st s46 (49 + 4 * e3_116) (i4_116).toNat r48) (fun s50 => xw_let (i4_116 + 1) (fun v52 => lp_CF_readMethod_116 fu a1 e3_116 k146 n s50 v52))))))
def f_CF_readMethod (fu : Nat) (s0 : xw_S) (a1 : Nat) (p2 : Int) : Option xw_S :=
 xw_grd ((0 ≤ p2 ∧ p2 < ((4 : Nat) : Int))) (xw_bn2 (f_CF_take fu s0 97 122) (fun s2 r4 => xw_let (xw_st s2 (48 + 4 * (4 * a1 + (p2).toNat)) 4 r4) (fun s5 => xw_jn (fun (s22 : xw_S) (f3_67 : Nat) => xw_bn2 (f_CF_take fu s22 0 2) (fun s23 r25 => xw_let (xw_st s23 (48 + 4 * f3_67) 5 r25) (fun s26 => xw_bn2 (f_CF_take fu s26 (s26.1 (48 + 4 * f3_67) 5) 6) (fun s28 r30 => xw_let (xw_st s28 (48 + 4 * f3_67) 6 r30) (fun s31 => xw_bn2 (f_CF_take fu s31 1 8) (fun s33 r35 => xw_let (xw_st s33 (48 + 4 * f3_67) 7 r35) (fun s36 => xw_bn2 (f_CF_take fu s36 1 40) (fun s38 r40 => xw_let (xw_st s38 (48 + 4 * f3_67) 8 r40) (fun s41 => xw_jn (fun (s54 : xw_S) (f3_146 : Nat) => xw_bnd (f_CF_readHandlers fu s54 f3_146) (fun s55 => some s55))
 (fun (k146 : xw_S → Nat → Option xw_S) => lp_CF_readMethod_116 fu a1 f3_67 k146 fu s41 0))))))))))
 (fun (k67 : xw_S → Nat → Option xw_S) => lp_CF_readMethod_19 fu a1 p2 (4 * a1 + (p2).toNat) k67 fu s5 0))))
set_option maxRecDepth 100000 in
set_option maxHeartbeats 4000000 in
theorem c_CF_readMethod (l : Launch) (D : va_G) (A : Nat → Prop) (ad : Nat → Nat) (cs : Nat → ClassId) (Z : va_W) (tt : Nat → Nat) (fu : Nat) (s0 sZ : xw_S) (a1 : Nat) (hb_a1 : a1 < 3) (p2 : Int) (h : f_CF_readMethod fu s0 a1 p2 = some sZ) : Met l y_CF_readMethod w_CF_readMethod ({ frames := 2, cells := 0, slots := 0, locals := 51 }) (va_Pc [.ref (ad 1), .ref (ad (3 + a1)), .int (xw_i p2)] (xw_H D vwCl A kdC 100 ad cs Z tt s0)) (va_Qv (fun u => u = sZ) (xw_H D vwCl A kdC 100 ad cs Z tt) A) 0 0 A := by
  refine Met.ofW (cc := b_CF_readMethod) (maxL := 5) (ret := none) (by decide) rfl ?_
  intro p e s m args below meth c s₁ B hml hv
  obtain ⟨rfl, hP, hK, hD, hX⟩ := hv
  have hx := B.exec
  have hb := B.bytes
  have hr := B.returns
  have hts0 := atoms_spec (ws := w_CF_readMethod) B.pre
  have hts := fun w (hw : w ∈ wAll) => hts0 w (List.mem_cons_of_mem _ hw)
  have hown : s.vm.findClass "AdviceWeaver$ClassFile" = some m.cls := findClass_of_methodNamed B.named
  have hlk := B.notSynchronized
  clear hts0 B
  have hS : va_S A s.heap s.heap [] := va_S.rf
  have hl := lv_entry [.ref (ad 1), .ref (ad (3 + a1)), .int (xw_i p2)] (n := 5) (Nat.le_of_ble_eq_true rfl)
  rw [lg_entry_eq]
  generalize (lg_sl [.ref (ad 1), .ref (ad (3 + a1)), .int (xw_i p2)] ++ List.replicate (5 - (lg_sl [.ref (ad 1), .ref (ad (3 + a1)), .int (xw_i p2)]).length) Slot.unset).toArray = ls at hl ⊢
  have hl : lv_has ls 5 [(0, .ref (ad 1)), (1, .ref (ad (3 + a1))), (2, .int (xw_i p2))] := hl
  have hlp19 : ∀ (c2_19 : Int) (e3_19 : Nat) (hi3_19 : e3_19 < 13) (k67 : xw_S → Nat → Option xw_S) (hk67 : ∀ (sq : xw_S) (f3_67 : Nat), f3_67 < 13 → k67 sq f3_67 = some sZ → ∀ (H : Heap) (locs : List Loc) (ls : Array Slot), va_P D vwCl (xw_ws kdC 100 ad cs Z sq) H → va_S A s.heap H locs → lv_has ls 5 [(0, .ref (ad 1)), (3, .ref (ad (48 + 4 * f3_67)))] → W p l e (headSpec w_CF_readMethod ({ frames := 2, cells := 0, slots := 0, locals := 51 })).room s m [.ref (ad 1), .ref (ad (3 + a1)), .int (xw_i p2)].toArray below meth c H locs 0 0 (MQ below (va_Qv (fun u => u = sZ) (xw_H D vwCl A kdC 100 ad cs Z tt) A) [.ref (ad 1), .ref (ad (3 + a1)), .int (xw_i p2)].toArray s 0 0 A) (F0 m 67 ls [])) (n : Nat), ∀ (sq : xw_S) (i4_19 : Int), lp_CF_readMethod_19 fu a1 c2_19 e3_19 k67 n sq i4_19 = some sZ → ∀ (H : Heap) (locs : List Loc) (ls : Array Slot), va_P D vwCl (xw_ws kdC 100 ad cs Z sq) H → va_S A s.heap H locs → lv_has ls 5 [(0, .ref (ad 1)), (1, .ref (ad (3 + a1))), (2, .int (xw_i c2_19)), (3, .ref (ad (48 + 4 * e3_19))), (4, .int (xw_i i4_19))] → W p l e (headSpec w_CF_readMethod ({ frames := 2, cells := 0, slots := 0, locals := 51 })).room s m [.ref (ad 1), .ref (ad (3 + a1)), .int (xw_i p2)].toArray below meth c H locs 0 0 (MQ below (va_Qv (fun u => u = sZ) (xw_H D vwCl A kdC 100 ad cs Z tt) A) [.ref (ad 1), .ref (ad (3 + a1)), .int (xw_i p2)].toArray s 0 0 A) (F0 m 19 ls []) := by
    intro c2_19 e3_19 hi3_19 k67 hk67 n
    induction n with
    | zero =>
      intro sq i4_19 h
      cases (show (none : Option xw_S) = some sZ from h)
    | succ n ih19 =>
      intro s7 i4_19 h H locs ls hP hS hl
      unfold lp_CF_readMethod_19 at h
      refine lv_iload hx hb d_CF_readMethod_19 (lv_at hl 4 rfl) ?_
      refine lv_iload_n hx hb d_CF_readMethod_21 rfl (lv_at hl 2 rfl) ?_
      obtain ⟨hg8, h⟩ := xw_grdI h
      refine xw_icmp_ge (tgt := 67) hx hb hg8.1 hg8.2 d_CF_readMethod_22 (by decide) (fun hc9 => ?_) (fun hc9 => ?_)
      · replace h := xw_ifT hc9 h
        exact hk67 s7 e3_19 (by omega) h _ _ _ hP hS (lv_sub hl [0, 3] rfl)
      · replace h := xw_ifF hc9 h
        refine lv_aload_n hx hb d_CF_readMethod_25 rfl (lv_at hl 0 rfl) ?_
        refine xw_getI (C := "AdviceWeaver$ClassFile") (T := T_CF) hx hb hts hin_CF hown hK hP (by decide) kc_CF (by decide) rfl 3 (by decide) (hts _ hw_12) (fun _ h9 => h9) rfl d_CF_readMethod_26 ?_
        obtain ⟨hg10, h⟩ := xw_grdI h
        refine xw_if_ne (tgt := 67) hx hb hg10 d_CF_readMethod_29 (by decide) (fun hc11 => ?_) (fun hc11 => ?_)
        · replace h := xw_ifF hc11 h
          exact hk67 s7 e3_19 (by omega) h _ _ _ hP hS (lv_sub hl [0, 3] rfl)
        · replace h := xw_ifT hc11 h
          refine lv_aload_n hx hb d_CF_readMethod_32 rfl (lv_at hl 1 rfl) ?_
          refine lv_iload hx hb d_CF_readMethod_33 (lv_at hl 4 rfl) ?_
          obtain ⟨hg12, h⟩ := xw_grdI h
          refine xw_aald23 (r := 48 + 4 * (4 * a1 + (i4_19).toNat)) hx hb hK hP (by omega) (kc_BodyArr a1 (by omega)) (by decide) hg12 (kc_BodyArrE a1 _ (by omega) (by omega)) d_CF_readMethod_35 ?_
          refine xw_getI (C := "AdviceWeaver$Body") (T := T_B) hx hb hts hin_B hown hK hP (by omega) (kc_Body (4 * a1 + (i4_19).toNat) (by omega)) (by decide) rfl 4 (by decide) (hts _ hw_27) (fun _ h9 => h9) rfl d_CF_readMethod_36 ?_
          refine lv_aload_n hx hb d_CF_readMethod_39 rfl (lv_at hl 3 rfl) ?_
          refine xw_getI (C := "AdviceWeaver$Body") (T := T_B) hx hb hts hin_B hown hK hP (by omega) (kc_Body e3_19 (by omega)) (by decide) rfl 4 (by decide) (hts _ hw_27) (fun _ h9 => h9) rfl d_CF_readMethod_40 ?_
          refine xw_jnI (fun j => ∀ (sq : xw_S) (i4_61 : Int), j sq i4_61 = some sZ → ∀ (H : Heap) (locs : List Loc) (ls : Array Slot), va_P D vwCl (xw_ws kdC 100 ad cs Z sq) H → va_S A s.heap H locs → lv_has ls 5 [(0, .ref (ad 1)), (1, .ref (ad (3 + a1))), (2, .int (xw_i c2_19)), (3, .ref (ad (48 + 4 * e3_19))), (4, .int (xw_i i4_61))] → W p l e (headSpec w_CF_readMethod ({ frames := 2, cells := 0, slots := 0, locals := 51 })).room s m [.ref (ad 1), .ref (ad (3 + a1)), .int (xw_i p2)].toArray below meth c H locs 0 0 (MQ below (va_Qv (fun u => u = sZ) (xw_H D vwCl A kdC 100 ad cs Z tt) A) [.ref (ad 1), .ref (ad (3 + a1)), .int (xw_i p2)].toArray s 0 0 A) (F0 m 61 ls [])) h ?_ ?_
          · intro s19 i4_61 h H locs ls hP hS hl
            obtain ⟨v20, e21⟩ : ∃ z, z = i4_61 + 1 := ⟨_, rfl⟩
            replace h := xw_letI e21 h
            refine xw_iinc (lv' := [(4, .int (xw_i v20)), (0, .ref (ad 1)), (1, .ref (ad (3 + a1))), (2, .int (xw_i c2_19)), (3, .ref (ad (48 + 4 * e3_19)))]) hx hb d_CF_readMethod_61 hl (k := 4) rfl (by decide) (by rw [e21]; rfl) (fun ls hl => ?_)
            refine lv_goto (tgt := 19) hx hb d_CF_readMethod_64 (by decide) ?_
            exact ih19 s19 v20 h _ _ _ hP hS (lv_sub hl [1, 2, 3, 4, 0] rfl)
          · intro j61 hj61 h
            obtain ⟨hg13, h⟩ := xw_grdI h
            refine xw_icmp_ne (tgt := 61) hx hb hg13.1 hg13.2 d_CF_readMethod_43 (by decide) (fun hc14 => ?_) (fun hc14 => ?_)
            · replace h := xw_ifF hc14 h
              exact hj61 s7 i4_19 h _ _ _ hP hS (lv_sub hl [0, 1, 2, 3, 4] rfl)
            · replace h := xw_ifT hc14 h
              refine lv_aload_n hx hb d_CF_readMethod_46 rfl (lv_at hl 0 rfl) ?_
              refine lv_dup hx hb d_CF_readMethod_47 rfl ?_
              refine xw_getI (C := "AdviceWeaver$ClassFile") (T := T_CF) hx hb hts hin_CF hown hK hP (by decide) kc_CF (by decide) rfl 2 (by decide) (hts _ hw_13) (fun _ h9 => h9) rfl d_CF_readMethod_48 ?_
              refine lv_iconst (v := xw_i 1) hx hb d_CF_readMethod_51 rfl ?_
              refine xw_isub hx hb d_CF_readMethod_52 ?_
              refine xw_putI (C := "AdviceWeaver$ClassFile") (T := T_CF) hx hb hts hin_CF ty_CF ty_CF_ok nm_CF hown hK hP hD hS (by decide) kc_CF (by decide) rfl 2 (by decide) (hts _ hw_13) (fun _ h9 => h9) rfl (by decide +kernel) rfl d_CF_readMethod_53 (fun s15 e16 H locs hP hS => ?_)
              replace h := xw_letI e16 h
              refine lv_aload_n hx hb d_CF_readMethod_56 rfl (lv_at hl 0 rfl) ?_
              refine lv_iconst (v := xw_i 1) hx hb d_CF_readMethod_57 rfl ?_
              refine xw_putB (C := "AdviceWeaver$ClassFile") (T := T_CF) hx hb hts hin_CF ty_CF ty_CF_ok nm_CF hown hK hP hD hS (by decide) kc_CF (by decide) rfl 3 (by decide) (hts _ hw_12) (fun _ h9 => h9) rfl (by decide +kernel) rfl d_CF_readMethod_58 (by decide) (fun s17 e18 H locs hP hS => ?_)
              replace h := xw_letI e18 h
              exact hj61 s17 i4_19 h _ _ _ hP hS (lv_sub hl [0, 1, 2, 3, 4] rfl)
  have hlp116 : ∀ (e3_116 : Nat) (hi3_116 : e3_116 < 13) (k146 : xw_S → Nat → Option xw_S) (hk146 : ∀ (sq : xw_S) (f3_146 : Nat), f3_146 < 13 → k146 sq f3_146 = some sZ → ∀ (H : Heap) (locs : List Loc) (ls : Array Slot), va_P D vwCl (xw_ws kdC 100 ad cs Z sq) H → va_S A s.heap H locs → lv_has ls 5 [(0, .ref (ad 1)), (3, .ref (ad (48 + 4 * f3_146)))] → W p l e (headSpec w_CF_readMethod ({ frames := 2, cells := 0, slots := 0, locals := 51 })).room s m [.ref (ad 1), .ref (ad (3 + a1)), .int (xw_i p2)].toArray below meth c H locs 0 0 (MQ below (va_Qv (fun u => u = sZ) (xw_H D vwCl A kdC 100 ad cs Z tt) A) [.ref (ad 1), .ref (ad (3 + a1)), .int (xw_i p2)].toArray s 0 0 A) (F0 m 146 ls [])) (n : Nat), ∀ (sq : xw_S) (i4_116 : Int), lp_CF_readMethod_116 fu a1 e3_116 k146 n sq i4_116 = some sZ → ∀ (H : Heap) (locs : List Loc) (ls : Array Slot), va_P D vwCl (xw_ws kdC 100 ad cs Z sq) H → va_S A s.heap H locs → lv_has ls 5 [(0, .ref (ad 1)), (3, .ref (ad (48 + 4 * e3_116))), (4, .int (xw_i i4_116))] → W p l e (headSpec w_CF_readMethod ({ frames := 2, cells := 0, slots := 0, locals := 51 })).room s m [.ref (ad 1), .ref (ad (3 + a1)), .int (xw_i p2)].toArray below meth c H locs 0 0 (MQ below (va_Qv (fun u => u = sZ) (xw_H D vwCl A kdC 100 ad cs Z tt) A) [.ref (ad 1), .ref (ad (3 + a1)), .int (xw_i p2)].toArray s 0 0 A) (F0 m 116 ls []) := by
    intro e3_116 hi3_116 k146 hk146 n
    induction n with
    | zero =>
      intro sq i4_116 h
      cases (show (none : Option xw_S) = some sZ from h)
    | succ n ih116 =>
      intro s43 i4_116 h H locs ls hP hS hl
      unfold lp_CF_readMethod_116 at h
      refine lv_iload hx hb d_CF_readMethod_116 (lv_at hl 2 rfl) ?_
      refine lv_aload_n hx hb d_CF_readMethod_118 rfl (lv_at hl 1 rfl) ?_
      refine xw_getI (C := "AdviceWeaver$Body") (T := T_B) hx hb hts hin_B hown hK hP (by omega) (kc_Body e3_116 (by omega)) (by decide) rfl 8 (by decide) (hts _ hw_31) (fun _ h9 => h9) rfl d_CF_readMethod_119 ?_
      obtain ⟨hg44, h⟩ := xw_grdI h
      refine xw_icmp_ge (tgt := 146) hx hb hg44.1 hg44.2 d_CF_readMethod_122 (by decide) (fun hc45 => ?_) (fun hc45 => ?_)
      · replace h := xw_ifT hc45 h
        exact hk146 s43 e3_116 (by omega) h _ _ _ hP hS (lv_sub hl [0, 1] rfl)
      · replace h := xw_ifF hc45 h
        refine lv_aload_n hx hb d_CF_readMethod_125 rfl (lv_at hl 1 rfl) ?_
        refine xw_getR (C := "AdviceWeaver$Body") (T := T_B) hx hb hts hin_B hown hK hP (by omega) (kc_Body e3_116 (by omega)) (by decide) rfl 0 (by decide) (hts _ hw_32) (fun _ h9 => h9) rfl d_CF_readMethod_126 ?_
        refine lv_iload hx hb d_CF_readMethod_129 (lv_at hl 2 rfl) ?_
        refine lv_aload_n hx hb d_CF_readMethod_131 rfl (lv_at hl 0 rfl) ?_
        refine lv_iconst (v := xw_i 0) hx hb d_CF_readMethod_132 rfl ?_
        refine lv_sipush (v := xw_i 255) hx hb d_CF_readMethod_133 (by decide) ?_
        obtain ⟨s46, r48, hc47, h⟩ := xw_bn2I h
        refine xw_callVi (C := "AdviceWeaver$ClassFile") (T := T_CF) ⟨hx, hb, hml, hown, hts⟩ (c_CF_take l D A ad cs Z tt fu s43 s46 0 255 r48 hc47) (cwV 2 hts (gd_V hw_17 hw_18 hw_19 hw_6 hw_20) rfl rfl rfl (by decide +kernel) ⟨Nat.le_of_ble_eq_true rfl, Nat.le_of_ble_eq_true rfl⟩) hP hK hD hX hS (by decide) kc_CF (by decide) rfl rfl hl.1 rfl (Nat.le_of_ble_eq_true rfl) d_CF_readMethod_136 (fun H locs hP hS => ?_)
        obtain ⟨hg49, h⟩ := xw_grdI h
        refine xw_iast hx hb hK hP hD hS (by omega) (kc_bcode e3_116 (by omega)) (xb_capL _) hg49 d_CF_readMethod_139 (fun s50 e51 H locs hP hS => ?_)
        replace h := xw_letI e51 h
        obtain ⟨v52, e53⟩ : ∃ z, z = i4_116 + 1 := ⟨_, rfl⟩
        replace h := xw_letI e53 h
        refine xw_iinc (lv' := [(4, .int (xw_i v52)), (0, .ref (ad 1)), (3, .ref (ad (48 + 4 * e3_116)))]) hx hb d_CF_readMethod_140 hl (k := 2) rfl (by decide) (by rw [e53]; rfl) (fun ls hl => ?_)
        refine lv_goto (tgt := 116) hx hb d_CF_readMethod_143 (by decide) ?_
        exact ih116 s50 v52 h _ _ _ hP hS (lv_sub hl [1, 2, 0] rfl)
  unfold f_CF_readMethod at h
  refine lv_aload_n hx hb d_CF_readMethod_0 rfl (lv_at hl 1 rfl) ?_
  refine lv_iload_n hx hb d_CF_readMethod_1 rfl (lv_at hl 2 rfl) ?_
  obtain ⟨hg1, h⟩ := xw_grdI h
  refine xw_aald23 (r := 48 + 4 * (4 * a1 + (p2).toNat)) hx hb hK hP (by omega) (kc_BodyArr a1 (by omega)) (by decide) hg1 (kc_BodyArrE a1 _ (by omega) (by omega)) d_CF_readMethod_2 ?_
  refine lv_astore_n hx hb d_CF_readMethod_3 rfl hl (by decide) rfl (fun ls hl => ?_)
  refine lv_aload_n hx hb d_CF_readMethod_4 rfl (lv_at hl 0 rfl) ?_
  refine lv_aload_n hx hb d_CF_readMethod_5 rfl (lv_at hl 1 rfl) ?_
  refine lv_bipush (v := xw_i 97) hx hb d_CF_readMethod_6 (by decide) ?_
  refine lv_bipush (v := xw_i 122) hx hb d_CF_readMethod_8 (by decide) ?_
  obtain ⟨s2, r4, hc3, h⟩ := xw_bn2I h
  refine xw_callVi (C := "AdviceWeaver$ClassFile") (T := T_CF) ⟨hx, hb, hml, hown, hts⟩ (c_CF_take l D A ad cs Z tt fu s0 s2 97 122 r4 hc3) (cwV 2 hts (gd_V hw_17 hw_18 hw_19 hw_6 hw_20) rfl rfl rfl (by decide +kernel) ⟨Nat.le_of_ble_eq_true rfl, Nat.le_of_ble_eq_true rfl⟩) hP hK hD hX hS (by decide) kc_CF (by decide) rfl rfl hl.1 rfl (Nat.le_of_ble_eq_true rfl) d_CF_readMethod_10 (fun H locs hP hS => ?_)
  refine xw_putI (C := "AdviceWeaver$Body") (T := T_B) hx hb hts hin_B ty_B ty_B_ok nm_B hown hK hP hD hS (by omega) (kc_Body (4 * a1 + (p2).toNat) (by omega)) (by decide) rfl 4 (by decide) (hts _ hw_27) (fun _ h9 => h9) rfl (by decide +kernel) rfl d_CF_readMethod_13 (fun s5 e6 H locs hP hS => ?_)
  replace h := xw_letI e6 h
  refine lv_iconst (v := xw_i 0) hx hb d_CF_readMethod_16 rfl ?_
  refine lv_istore hx hb d_CF_readMethod_17 hl (by decide) rfl (fun ls hl => ?_)
  refine xw_jnI (fun j => ∀ (sq : xw_S) (f3_67 : Nat), f3_67 < 13 → j sq f3_67 = some sZ → ∀ (H : Heap) (locs : List Loc) (ls : Array Slot), va_P D vwCl (xw_ws kdC 100 ad cs Z sq) H → va_S A s.heap H locs → lv_has ls 5 [(0, .ref (ad 1)), (3, .ref (ad (48 + 4 * f3_67)))] → W p l e (headSpec w_CF_readMethod ({ frames := 2, cells := 0, slots := 0, locals := 51 })).room s m [.ref (ad 1), .ref (ad (3 + a1)), .int (xw_i p2)].toArray below meth c H locs 0 0 (MQ below (va_Qv (fun u => u = sZ) (xw_H D vwCl A kdC 100 ad cs Z tt) A) [.ref (ad 1), .ref (ad (3 + a1)), .int (xw_i p2)].toArray s 0 0 A) (F0 m 67 ls [])) h ?_ ?_
  · intro s22 f3_67 hb67_0 h H locs ls hP hS hl
    refine lv_aload_n hx hb d_CF_readMethod_67 rfl (lv_at hl 1 rfl) ?_
    refine lv_aload_n hx hb d_CF_readMethod_68 rfl (lv_at hl 0 rfl) ?_
    refine lv_iconst (v := xw_i 0) hx hb d_CF_readMethod_69 rfl ?_
    refine lv_iconst (v := xw_i 2) hx hb d_CF_readMethod_70 rfl ?_
    obtain ⟨s23, r25, hc24, h⟩ := xw_bn2I h
    refine xw_callVi (C := "AdviceWeaver$ClassFile") (T := T_CF) ⟨hx, hb, hml, hown, hts⟩ (c_CF_take l D A ad cs Z tt fu s22 s23 0 2 r25 hc24) (cwV 2 hts (gd_V hw_17 hw_18 hw_19 hw_6 hw_20) rfl rfl rfl (by decide +kernel) ⟨Nat.le_of_ble_eq_true rfl, Nat.le_of_ble_eq_true rfl⟩) hP hK hD hX hS (by decide) kc_CF (by decide) rfl rfl hl.1 rfl (Nat.le_of_ble_eq_true rfl) d_CF_readMethod_71 (fun H locs hP hS => ?_)
    refine xw_putI (C := "AdviceWeaver$Body") (T := T_B) hx hb hts hin_B ty_B ty_B_ok nm_B hown hK hP hD hS (by omega) (kc_Body f3_67 (by omega)) (by decide) rfl 5 (by decide) (hts _ hw_28) (fun _ h9 => h9) rfl (by decide +kernel) rfl d_CF_readMethod_74 (fun s26 e27 H locs hP hS => ?_)
    replace h := xw_letI e27 h
    refine lv_aload_n hx hb d_CF_readMethod_77 rfl (lv_at hl 1 rfl) ?_
    refine lv_aload_n hx hb d_CF_readMethod_78 rfl (lv_at hl 0 rfl) ?_
    refine lv_aload_n hx hb d_CF_readMethod_79 rfl (lv_at hl 1 rfl) ?_
    refine xw_getI (C := "AdviceWeaver$Body") (T := T_B) hx hb hts hin_B hown hK hP (by omega) (kc_Body f3_67 (by omega)) (by decide) rfl 5 (by decide) (hts _ hw_28) (fun _ h9 => h9) rfl d_CF_readMethod_80 ?_
    refine lv_bipush (v := xw_i 6) hx hb d_CF_readMethod_83 (by decide) ?_
    obtain ⟨s28, r30, hc29, h⟩ := xw_bn2I h
    refine xw_callVi (C := "AdviceWeaver$ClassFile") (T := T_CF) ⟨hx, hb, hml, hown, hts⟩ (c_CF_take l D A ad cs Z tt fu s26 s28 (s26.1 (48 + 4 * f3_67) 5) 6 r30 hc29) (cwV 2 hts (gd_V hw_17 hw_18 hw_19 hw_6 hw_20) rfl rfl rfl (by decide +kernel) ⟨Nat.le_of_ble_eq_true rfl, Nat.le_of_ble_eq_true rfl⟩) hP hK hD hX hS (by decide) kc_CF (by decide) rfl rfl hl.1 rfl (Nat.le_of_ble_eq_true rfl) d_CF_readMethod_85 (fun H locs hP hS => ?_)
    refine xw_putI (C := "AdviceWeaver$Body") (T := T_B) hx hb hts hin_B ty_B ty_B_ok nm_B hown hK hP hD hS (by omega) (kc_Body f3_67 (by omega)) (by decide) rfl 6 (by decide) (hts _ hw_29) (fun _ h9 => h9) rfl (by decide +kernel) rfl d_CF_readMethod_88 (fun s31 e32 H locs hP hS => ?_)
    replace h := xw_letI e32 h
    refine lv_aload_n hx hb d_CF_readMethod_91 rfl (lv_at hl 1 rfl) ?_
    refine lv_aload_n hx hb d_CF_readMethod_92 rfl (lv_at hl 0 rfl) ?_
    refine lv_iconst (v := xw_i 1) hx hb d_CF_readMethod_93 rfl ?_
    refine lv_bipush (v := xw_i 8) hx hb d_CF_readMethod_94 (by decide) ?_
    obtain ⟨s33, r35, hc34, h⟩ := xw_bn2I h
    refine xw_callVi (C := "AdviceWeaver$ClassFile") (T := T_CF) ⟨hx, hb, hml, hown, hts⟩ (c_CF_take l D A ad cs Z tt fu s31 s33 1 8 r35 hc34) (cwV 2 hts (gd_V hw_17 hw_18 hw_19 hw_6 hw_20) rfl rfl rfl (by decide +kernel) ⟨Nat.le_of_ble_eq_true rfl, Nat.le_of_ble_eq_true rfl⟩) hP hK hD hX hS (by decide) kc_CF (by decide) rfl rfl hl.1 rfl (Nat.le_of_ble_eq_true rfl) d_CF_readMethod_96 (fun H locs hP hS => ?_)
    refine xw_putI (C := "AdviceWeaver$Body") (T := T_B) hx hb hts hin_B ty_B ty_B_ok nm_B hown hK hP hD hS (by omega) (kc_Body f3_67 (by omega)) (by decide) rfl 7 (by decide) (hts _ hw_30) (fun _ h9 => h9) rfl (by decide +kernel) rfl d_CF_readMethod_99 (fun s36 e37 H locs hP hS => ?_)
    replace h := xw_letI e37 h
    refine lv_aload_n hx hb d_CF_readMethod_102 rfl (lv_at hl 1 rfl) ?_
    refine lv_aload_n hx hb d_CF_readMethod_103 rfl (lv_at hl 0 rfl) ?_
    refine lv_iconst (v := xw_i 1) hx hb d_CF_readMethod_104 rfl ?_
    refine lv_bipush (v := xw_i 40) hx hb d_CF_readMethod_105 (by decide) ?_
    obtain ⟨s38, r40, hc39, h⟩ := xw_bn2I h
    refine xw_callVi (C := "AdviceWeaver$ClassFile") (T := T_CF) ⟨hx, hb, hml, hown, hts⟩ (c_CF_take l D A ad cs Z tt fu s36 s38 1 40 r40 hc39) (cwV 2 hts (gd_V hw_17 hw_18 hw_19 hw_6 hw_20) rfl rfl rfl (by decide +kernel) ⟨Nat.le_of_ble_eq_true rfl, Nat.le_of_ble_eq_true rfl⟩) hP hK hD hX hS (by decide) kc_CF (by decide) rfl rfl hl.1 rfl (Nat.le_of_ble_eq_true rfl) d_CF_readMethod_107 (fun H locs hP hS => ?_)
    refine xw_putI (C := "AdviceWeaver$Body") (T := T_B) hx hb hts hin_B ty_B ty_B_ok nm_B hown hK hP hD hS (by omega) (kc_Body f3_67 (by omega)) (by decide) rfl 8 (by decide) (hts _ hw_31) (fun _ h9 => h9) rfl (by decide +kernel) rfl d_CF_readMethod_110 (fun s41 e42 H locs hP hS => ?_)
    replace h := xw_letI e42 h
    refine lv_iconst (v := xw_i 0) hx hb d_CF_readMethod_113 rfl ?_
    refine lv_istore hx hb d_CF_readMethod_114 hl (by decide) rfl (fun ls hl => ?_)
    refine xw_jnI (fun j => ∀ (sq : xw_S) (f3_146 : Nat), f3_146 < 13 → j sq f3_146 = some sZ → ∀ (H : Heap) (locs : List Loc) (ls : Array Slot), va_P D vwCl (xw_ws kdC 100 ad cs Z sq) H → va_S A s.heap H locs → lv_has ls 5 [(0, .ref (ad 1)), (3, .ref (ad (48 + 4 * f3_146)))] → W p l e (headSpec w_CF_readMethod ({ frames := 2, cells := 0, slots := 0, locals := 51 })).room s m [.ref (ad 1), .ref (ad (3 + a1)), .int (xw_i p2)].toArray below meth c H locs 0 0 (MQ below (va_Qv (fun u => u = sZ) (xw_H D vwCl A kdC 100 ad cs Z tt) A) [.ref (ad 1), .ref (ad (3 + a1)), .int (xw_i p2)].toArray s 0 0 A) (F0 m 146 ls [])) h ?_ ?_
    · intro s54 f3_146 hb146_0 h H locs ls hP hS hl
      refine lv_aload_n hx hb d_CF_readMethod_146 rfl (lv_at hl 0 rfl) ?_
      refine lv_aload_n hx hb d_CF_readMethod_147 rfl (lv_at hl 1 rfl) ?_
      obtain ⟨s55, hc56, h⟩ := xw_bndI h
      refine xw_callVv (C := "AdviceWeaver$ClassFile") (T := T_CF) ⟨hx, hb, hml, hown, hts⟩ (c_CF_readHandlers l D A ad cs Z tt fu s54 s55 f3_146 (by omega) hc56) (cwV 1 hts (gd_V hw_33 hw_34 hw_35 hw_6 hw_36) rfl rfl rfl (by decide +kernel) ⟨Nat.le_of_ble_eq_true rfl, Nat.le_of_ble_eq_true rfl⟩) hP hK hD hX hS (by decide) kc_CF (by decide) rfl rfl hl.1 rfl (Nat.le_of_ble_eq_true rfl) d_CF_readMethod_148 (fun H locs hP hS => ?_)
      exact xw_vretE hx hb hr hlk hP hK hD hX hS h d_CF_readMethod_151
    · intro k146 hk146 h
      exact hlp116 f3_67 (by omega) k146 hk146 fu s41 0 h _ _ _ hP hS (lv_sub hl [1, 2, 0] rfl)
  · intro k67 hk67 h
    exact hlp19 p2 (4 * a1 + (p2).toNat) (by omega) k67 hk67 fu s5 0 h _ _ _ hP hS (lv_sub hl [2, 3, 4, 1, 0] rfl)
def lp_CF_readInto_30 (fu : Nat) (a1 : Nat) (c2_30 : Int) (k54 : xw_S → Int → Option (xw_S × Int)) : Nat → xw_S → Int → Option (xw_S × Int)
  | 0, _, _ => none
  | n + 1, s11, i3_30 =>
    xw_grd (xw_r i3_30 ∧ xw_r c2_30) (xw_if (c2_30 ≤ i3_30) (k54 s11 c2_30)
     (xw_grd (xw_r (s11.1 1 3)) (xw_if (s11.1 1 3 = 0) (xw_bnd (f_CF_readMethod fu s11 a1 i3_30) (fun s16 => xw_let (i3_30 + 1) (fun v19 => lp_CF_readInto_30 fu a1 c2_30 k54 n s16 v19)))
     (k54 s11 c2_30))))
def f_CF_readInto (fu : Nat) (s0 : xw_S) (a1 : Nat) : Option (xw_S × Int) :=
 xw_let (xw_st s0 1 2 0) (fun s1 => xw_let (xw_st s1 1 3 0) (fun s3 => xw_bn2 (f_CF_take fu s3 202 202) (fun s5 r7 => xw_bn2 (f_CF_take fu s5 1 4) (fun s8 r10 => xw_jn (fun (s21 : xw_S) (i2_54 : Int) => xw_jn (fun (s26 : xw_S) => some (s26, (-1) - (s26.1 1 2)))
 (fun (j72 : xw_S → Option (xw_S × Int)) => xw_grd (xw_r (s21.1 1 3)) (xw_if (s21.1 1 3 = 0) (xw_grd (xw_r (s21.1 1 2) ∧ xw_r (s21.1 1 1)) (xw_if (s21.1 1 1 ≤ s21.1 1 2) (some (s21, i2_54))
 (j72 s21)))
 (j72 s21))))
 (fun (k54 : xw_S → Int → Option (xw_S × Int)) => lp_CF_readInto_30 fu a1 r10 k54 fu s8 0)))))
set_option maxRecDepth 100000 in
set_option maxHeartbeats 4000000 in
theorem c_CF_readInto (l : Launch) (D : va_G) (A : Nat → Prop) (ad : Nat → Nat) (cs : Nat → ClassId) (Z : va_W) (tt : Nat → Nat) (fu : Nat) (s0 sZ : xw_S) (a1 : Nat) (hb_a1 : a1 < 3) (r0 : Int) (h : f_CF_readInto fu s0 a1 = some (sZ, r0)) : Met l y_CF_readInto w_CF_readInto ({ frames := 3, cells := 0, slots := 0, locals := 75 }) (va_Pc [.ref (ad 1), .ref (ad (3 + a1))] (xw_H D vwCl A kdC 100 ad cs Z tt s0)) (va_Qi (fun r u => r = xw_i r0 ∧ u = sZ) (xw_H D vwCl A kdC 100 ad cs Z tt) A) 0 0 A := by
  refine Met.ofW (cc := b_CF_readInto) (maxL := 4) (ret := (some .int)) (by decide) rfl ?_
  intro p e s m args below meth c s₁ B hml hv
  obtain ⟨rfl, hP, hK, hD, hX⟩ := hv
  have hx := B.exec
  have hb := B.bytes
  have hr := B.returns
  have hts0 := atoms_spec (ws := w_CF_readInto) B.pre
  have hts := fun w (hw : w ∈ wAll) => hts0 w (List.mem_cons_of_mem _ hw)
  have hown : s.vm.findClass "AdviceWeaver$ClassFile" = some m.cls := findClass_of_methodNamed B.named
  have hlk := B.notSynchronized
  clear hts0 B
  have hS : va_S A s.heap s.heap [] := va_S.rf
  have hl := lv_entry [.ref (ad 1), .ref (ad (3 + a1))] (n := 4) (Nat.le_of_ble_eq_true rfl)
  rw [lg_entry_eq]
  generalize (lg_sl [.ref (ad 1), .ref (ad (3 + a1))] ++ List.replicate (4 - (lg_sl [.ref (ad 1), .ref (ad (3 + a1))]).length) Slot.unset).toArray = ls at hl ⊢
  have hl : lv_has ls 4 [(0, .ref (ad 1)), (1, .ref (ad (3 + a1)))] := hl
  have hlp30 : ∀ (c2_30 : Int) (k54 : xw_S → Int → Option (xw_S × Int)) (hk54 : ∀ (sq : xw_S) (i2_54 : Int), k54 sq i2_54 = some (sZ, r0) → ∀ (H : Heap) (locs : List Loc) (ls : Array Slot), va_P D vwCl (xw_ws kdC 100 ad cs Z sq) H → va_S A s.heap H locs → lv_has ls 4 [(0, .ref (ad 1)), (2, .int (xw_i i2_54))] → W p l e (headSpec w_CF_readInto ({ frames := 3, cells := 0, slots := 0, locals := 75 })).room s m [.ref (ad 1), .ref (ad (3 + a1))].toArray below meth c H locs 0 0 (MQ below (va_Qi (fun r u => r = xw_i r0 ∧ u = sZ) (xw_H D vwCl A kdC 100 ad cs Z tt) A) [.ref (ad 1), .ref (ad (3 + a1))].toArray s 0 0 A) (F0 m 54 ls [])) (n : Nat), ∀ (sq : xw_S) (i3_30 : Int), lp_CF_readInto_30 fu a1 c2_30 k54 n sq i3_30 = some (sZ, r0) → ∀ (H : Heap) (locs : List Loc) (ls : Array Slot), va_P D vwCl (xw_ws kdC 100 ad cs Z sq) H → va_S A s.heap H locs → lv_has ls 4 [(0, .ref (ad 1)), (1, .ref (ad (3 + a1))), (2, .int (xw_i c2_30)), (3, .int (xw_i i3_30))] → W p l e (headSpec w_CF_readInto ({ frames := 3, cells := 0, slots := 0, locals := 75 })).room s m [.ref (ad 1), .ref (ad (3 + a1))].toArray below meth c H locs 0 0 (MQ below (va_Qi (fun r u => r = xw_i r0 ∧ u = sZ) (xw_H D vwCl A kdC 100 ad cs Z tt) A) [.ref (ad 1), .ref (ad (3 + a1))].toArray s 0 0 A) (F0 m 30 ls []) := by
    intro c2_30 k54 hk54 n
    induction n with
    | zero =>
      intro sq i3_30 h
      cases (show (none : Option (xw_S × Int)) = some (sZ, r0) from h)
    | succ n ih30 =>
      intro s11 i3_30 h H locs ls hP hS hl
      unfold lp_CF_readInto_30 at h
      refine lv_iload_n hx hb d_CF_readInto_30 rfl (lv_at hl 3 rfl) ?_
      refine lv_iload_n hx hb d_CF_readInto_31 rfl (lv_at hl 2 rfl) ?_
      obtain ⟨hg12, h⟩ := xw_grdI h
      refine xw_icmp_ge (tgt := 54) hx hb hg12.1 hg12.2 d_CF_readInto_32 (by decide) (fun hc13 => ?_) (fun hc13 => ?_)
      · replace h := xw_ifT hc13 h
        exact hk54 s11 c2_30 h _ _ _ hP hS (lv_sub hl [0, 2] rfl)
      · replace h := xw_ifF hc13 h
        refine lv_aload_n hx hb d_CF_readInto_35 rfl (lv_at hl 0 rfl) ?_
        refine xw_getI (C := "AdviceWeaver$ClassFile") (T := T_CF) hx hb hts hin_CF hown hK hP (by decide) kc_CF (by decide) rfl 3 (by decide) (hts _ hw_12) (fun _ h9 => h9) rfl d_CF_readInto_36 ?_
        obtain ⟨hg14, h⟩ := xw_grdI h
        refine xw_if_ne (tgt := 54) hx hb hg14 d_CF_readInto_39 (by decide) (fun hc15 => ?_) (fun hc15 => ?_)
        · replace h := xw_ifF hc15 h
          exact hk54 s11 c2_30 h _ _ _ hP hS (lv_sub hl [0, 2] rfl)
        · replace h := xw_ifT hc15 h
          refine lv_aload_n hx hb d_CF_readInto_42 rfl (lv_at hl 0 rfl) ?_
          refine lv_aload_n hx hb d_CF_readInto_43 rfl (lv_at hl 1 rfl) ?_
          refine lv_iload_n hx hb d_CF_readInto_44 rfl (lv_at hl 3 rfl) ?_
          obtain ⟨s16, hc17, h⟩ := xw_bndI h
          refine xw_callVv (C := "AdviceWeaver$ClassFile") (T := T_CF) ⟨hx, hb, hml, hown, hts⟩ (c_CF_readMethod l D A ad cs Z tt fu s11 s16 a1 (by omega) i3_30 hc17) (cwV 2 hts (gd_V hw_37 hw_38 hw_39 hw_6 hw_40) rfl rfl rfl (by decide +kernel) ⟨Nat.le_of_ble_eq_true rfl, Nat.le_of_ble_eq_true rfl⟩) hP hK hD hX hS (by decide) kc_CF (by decide) rfl rfl hl.1 rfl (Nat.le_of_ble_eq_true rfl) d_CF_readInto_45 (fun H locs hP hS => ?_)
          obtain ⟨v19, e20⟩ : ∃ z, z = i3_30 + 1 := ⟨_, rfl⟩
          replace h := xw_letI e20 h
          refine xw_iinc (lv' := [(3, .int (xw_i v19)), (0, .ref (ad 1)), (1, .ref (ad (3 + a1))), (2, .int (xw_i c2_30))]) hx hb d_CF_readInto_48 hl (k := 3) rfl (by decide) (by rw [e20]; rfl) (fun ls hl => ?_)
          refine lv_goto (tgt := 30) hx hb d_CF_readInto_51 (by decide) ?_
          exact ih30 s16 v19 h _ _ _ hP hS (lv_sub hl [1, 2, 3, 0] rfl)
  unfold f_CF_readInto at h
  refine lv_aload_n hx hb d_CF_readInto_0 rfl (lv_at hl 0 rfl) ?_
  refine lv_iconst (v := xw_i 0) hx hb d_CF_readInto_1 rfl ?_
  refine xw_putI (C := "AdviceWeaver$ClassFile") (T := T_CF) hx hb hts hin_CF ty_CF ty_CF_ok nm_CF hown hK hP hD hS (by decide) kc_CF (by decide) rfl 2 (by decide) (hts _ hw_13) (fun _ h9 => h9) rfl (by decide +kernel) rfl d_CF_readInto_2 (fun s1 e2 H locs hP hS => ?_)
  replace h := xw_letI e2 h
  refine lv_aload_n hx hb d_CF_readInto_5 rfl (lv_at hl 0 rfl) ?_
  refine lv_iconst (v := xw_i 0) hx hb d_CF_readInto_6 rfl ?_
  refine xw_putB (C := "AdviceWeaver$ClassFile") (T := T_CF) hx hb hts hin_CF ty_CF ty_CF_ok nm_CF hown hK hP hD hS (by decide) kc_CF (by decide) rfl 3 (by decide) (hts _ hw_12) (fun _ h9 => h9) rfl (by decide +kernel) rfl d_CF_readInto_7 (by decide) (fun s3 e4 H locs hP hS => ?_)
  replace h := xw_letI e4 h
  refine lv_aload_n hx hb d_CF_readInto_10 rfl (lv_at hl 0 rfl) ?_
  refine lv_sipush (v := xw_i 202) hx hb d_CF_readInto_11 (by decide) ?_
  refine lv_sipush (v := xw_i 202) hx hb d_CF_readInto_14 (by decide) ?_
  obtain ⟨s5, r7, hc6, h⟩ := xw_bn2I h
  refine xw_callVi (C := "AdviceWeaver$ClassFile") (T := T_CF) ⟨hx, hb, hml, hown, hts⟩ (c_CF_take l D A ad cs Z tt fu s3 s5 202 202 r7 hc6) (cwV 2 hts (gd_V hw_17 hw_18 hw_19 hw_6 hw_20) rfl rfl rfl (by decide +kernel) ⟨Nat.le_of_ble_eq_true rfl, Nat.le_of_ble_eq_true rfl⟩) hP hK hD hX hS (by decide) kc_CF (by decide) rfl rfl hl.1 rfl (Nat.le_of_ble_eq_true rfl) d_CF_readInto_17 (fun H locs hP hS => ?_)
  refine lv_pop hx hb d_CF_readInto_20 rfl ?_
  refine lv_aload_n hx hb d_CF_readInto_21 rfl (lv_at hl 0 rfl) ?_
  refine lv_iconst (v := xw_i 1) hx hb d_CF_readInto_22 rfl ?_
  refine lv_iconst (v := xw_i 4) hx hb d_CF_readInto_23 rfl ?_
  obtain ⟨s8, r10, hc9, h⟩ := xw_bn2I h
  refine xw_callVi (C := "AdviceWeaver$ClassFile") (T := T_CF) ⟨hx, hb, hml, hown, hts⟩ (c_CF_take l D A ad cs Z tt fu s5 s8 1 4 r10 hc9) (cwV 2 hts (gd_V hw_17 hw_18 hw_19 hw_6 hw_20) rfl rfl rfl (by decide +kernel) ⟨Nat.le_of_ble_eq_true rfl, Nat.le_of_ble_eq_true rfl⟩) hP hK hD hX hS (by decide) kc_CF (by decide) rfl rfl hl.1 rfl (Nat.le_of_ble_eq_true rfl) d_CF_readInto_24 (fun H locs hP hS => ?_)
  refine lv_istore_n hx hb d_CF_readInto_27 rfl hl (by decide) rfl (fun ls hl => ?_)
  refine lv_iconst (v := xw_i 0) hx hb d_CF_readInto_28 rfl ?_
  refine lv_istore_n hx hb d_CF_readInto_29 rfl hl (by decide) rfl (fun ls hl => ?_)
  refine xw_jnI (fun j => ∀ (sq : xw_S) (i2_54 : Int), j sq i2_54 = some (sZ, r0) → ∀ (H : Heap) (locs : List Loc) (ls : Array Slot), va_P D vwCl (xw_ws kdC 100 ad cs Z sq) H → va_S A s.heap H locs → lv_has ls 4 [(0, .ref (ad 1)), (2, .int (xw_i i2_54))] → W p l e (headSpec w_CF_readInto ({ frames := 3, cells := 0, slots := 0, locals := 75 })).room s m [.ref (ad 1), .ref (ad (3 + a1))].toArray below meth c H locs 0 0 (MQ below (va_Qi (fun r u => r = xw_i r0 ∧ u = sZ) (xw_H D vwCl A kdC 100 ad cs Z tt) A) [.ref (ad 1), .ref (ad (3 + a1))].toArray s 0 0 A) (F0 m 54 ls [])) h ?_ ?_
  · intro s21 i2_54 h H locs ls hP hS hl
    refine lv_aload_n hx hb d_CF_readInto_54 rfl (lv_at hl 0 rfl) ?_
    refine xw_getI (C := "AdviceWeaver$ClassFile") (T := T_CF) hx hb hts hin_CF hown hK hP (by decide) kc_CF (by decide) rfl 3 (by decide) (hts _ hw_12) (fun _ h9 => h9) rfl d_CF_readInto_55 ?_
    refine xw_jnI (fun j => ∀ (sq : xw_S), j sq = some (sZ, r0) → ∀ (H : Heap) (locs : List Loc) (ls : Array Slot), va_P D vwCl (xw_ws kdC 100 ad cs Z sq) H → va_S A s.heap H locs → lv_has ls 4 [(0, .ref (ad 1))] → W p l e (headSpec w_CF_readInto ({ frames := 3, cells := 0, slots := 0, locals := 75 })).room s m [.ref (ad 1), .ref (ad (3 + a1))].toArray below meth c H locs 0 0 (MQ below (va_Qi (fun r u => r = xw_i r0 ∧ u = sZ) (xw_H D vwCl A kdC 100 ad cs Z tt) A) [.ref (ad 1), .ref (ad (3 + a1))].toArray s 0 0 A) (F0 m 72 ls [])) h ?_ ?_
    · intro s26 h H locs ls hP hS hl
      refine lv_iconst (v := xw_i (-1)) hx hb d_CF_readInto_72 rfl ?_
      refine lv_aload_n hx hb d_CF_readInto_73 rfl (lv_at hl 0 rfl) ?_
      refine xw_getI (C := "AdviceWeaver$ClassFile") (T := T_CF) hx hb hts hin_CF hown hK hP (by decide) kc_CF (by decide) rfl 2 (by decide) (hts _ hw_13) (fun _ h9 => h9) rfl d_CF_readInto_74 ?_
      refine xw_isub hx hb d_CF_readInto_77 ?_
      exact xw_iretE hx hb hr hlk hP hK hD hX hS h d_CF_readInto_78
    · intro j72 hj72 h
      obtain ⟨hg22, h⟩ := xw_grdI h
      refine xw_if_ne (tgt := 72) hx hb hg22 d_CF_readInto_58 (by decide) (fun hc23 => ?_) (fun hc23 => ?_)
      · replace h := xw_ifF hc23 h
        exact hj72 s21 h _ _ _ hP hS (lv_sub hl [0] rfl)
      · replace h := xw_ifT hc23 h
        refine lv_aload_n hx hb d_CF_readInto_61 rfl (lv_at hl 0 rfl) ?_
        refine xw_getI (C := "AdviceWeaver$ClassFile") (T := T_CF) hx hb hts hin_CF hown hK hP (by decide) kc_CF (by decide) rfl 2 (by decide) (hts _ hw_13) (fun _ h9 => h9) rfl d_CF_readInto_62 ?_
        refine lv_aload_n hx hb d_CF_readInto_65 rfl (lv_at hl 0 rfl) ?_
        refine xw_getI (C := "AdviceWeaver$ClassFile") (T := T_CF) hx hb hts hin_CF hown hK hP (by decide) kc_CF (by decide) rfl 1 (by decide) (hts _ hw_0) (fun _ h9 => h9) rfl d_CF_readInto_66 ?_
        obtain ⟨hg24, h⟩ := xw_grdI h
        refine xw_icmp_ge (tgt := 79) hx hb hg24.1 hg24.2 d_CF_readInto_69 (by decide) (fun hc25 => ?_) (fun hc25 => ?_)
        · replace h := xw_ifT hc25 h
          refine lv_iload_n hx hb d_CF_readInto_79 rfl (lv_at hl 1 rfl) ?_
          exact xw_iretE hx hb hr hlk hP hK hD hX hS h d_CF_readInto_80
        · replace h := xw_ifF hc25 h
          exact hj72 s21 h _ _ _ hP hS (lv_sub hl [0] rfl)
  · intro k54 hk54 h
    exact hlp30 r10 k54 hk54 fu s8 0 h _ _ _ hP hS (lv_sub hl [2, 3, 1, 0] rfl)
