/-! the reference, piece 5 -/
theorem d_MD_weave_0 : decode b_MD_weave 0 = .ok (.aload_n 0, 1) := by decide +kernel
theorem d_MD_weave_1 : decode b_MD_weave 1 = .ok (.getfield 179, 3) := by decide +kernel
theorem d_MD_weave_4 : decode b_MD_weave 4 = .ok (.ifCond .ne 5, 3) := by decide +kernel
theorem d_MD_weave_7 : decode b_MD_weave 7 = .ok (.iconst (-1), 1) := by decide +kernel
theorem d_MD_weave_8 : decode b_MD_weave 8 = .ok (.ireturn, 1) := by decide +kernel
theorem d_MD_weave_9 : decode b_MD_weave 9 = .ok (.iconst 0, 1) := by decide +kernel
theorem d_MD_weave_10 : decode b_MD_weave 10 = .ok (.istore_n 1, 1) := by decide +kernel
theorem d_MD_weave_11 : decode b_MD_weave 11 = .ok (.aload_n 0, 1) := by decide +kernel
theorem d_MD_weave_12 : decode b_MD_weave 12 = .ok (.iconst 1, 1) := by decide +kernel
theorem d_MD_weave_13 : decode b_MD_weave 13 = .ok (.putfield 182, 3) := by decide +kernel
theorem d_MD_weave_16 : decode b_MD_weave 16 = .ok (.iconst 0, 1) := by decide +kernel
theorem d_MD_weave_17 : decode b_MD_weave 17 = .ok (.istore_n 2, 1) := by decide +kernel
theorem d_MD_weave_18 : decode b_MD_weave 18 = .ok (.iload_n 2, 1) := by decide +kernel
theorem d_MD_weave_19 : decode b_MD_weave 19 = .ok (.aload_n 0, 1) := by decide +kernel
theorem d_MD_weave_20 : decode b_MD_weave 20 = .ok (.getfield 179, 3) := by decide +kernel
theorem d_MD_weave_23 : decode b_MD_weave 23 = .ok (.if_icmp .ge 154, 3) := by decide +kernel
theorem d_MD_weave_26 : decode b_MD_weave 26 = .ok (.aload_n 0, 1) := by decide +kernel
theorem d_MD_weave_27 : decode b_MD_weave 27 = .ok (.iload_n 2, 1) := by decide +kernel
theorem d_MD_weave_28 : decode b_MD_weave 28 = .ok (.iconst 4, 1) := by decide +kernel
theorem d_MD_weave_29 : decode b_MD_weave 29 = .ok (.iload_n 2, 1) := by decide +kernel
theorem d_MD_weave_30 : decode b_MD_weave 30 = .ok (.iadd, 1) := by decide +kernel
theorem d_MD_weave_31 : decode b_MD_weave 31 = .ok (.invokevirtual 185, 3) := by decide +kernel
theorem d_MD_weave_34 : decode b_MD_weave 34 = .ok (.iconst 0, 1) := by decide +kernel
theorem d_MD_weave_35 : decode b_MD_weave 35 = .ok (.istore_n 3, 1) := by decide +kernel
theorem d_MD_weave_36 : decode b_MD_weave 36 = .ok (.iload_n 3, 1) := by decide +kernel
theorem d_MD_weave_37 : decode b_MD_weave 37 = .ok (.iconst 3, 1) := by decide +kernel
theorem d_MD_weave_38 : decode b_MD_weave 38 = .ok (.if_icmp .ge 133, 3) := by decide +kernel
theorem d_MD_weave_41 : decode b_MD_weave 41 = .ok (.iload_n 3, 1) := by decide +kernel
theorem d_MD_weave_42 : decode b_MD_weave 42 = .ok (.aload_n 0, 1) := by decide +kernel
theorem d_MD_weave_43 : decode b_MD_weave 43 = .ok (.getfield 188, 3) := by decide +kernel
theorem d_MD_weave_46 : decode b_MD_weave 46 = .ok (.if_icmp .ge 55, 3) := by decide +kernel
theorem d_MD_weave_49 : decode b_MD_weave 49 = .ok (.aload_n 0, 1) := by decide +kernel
theorem d_MD_weave_50 : decode b_MD_weave 50 = .ok (.getfield 41, 3) := by decide +kernel
theorem d_MD_weave_53 : decode b_MD_weave 53 = .ok (.iload_n 3, 1) := by decide +kernel
theorem d_MD_weave_54 : decode b_MD_weave 54 = .ok (.iaload, 1) := by decide +kernel
theorem d_MD_weave_55 : decode b_MD_weave 55 = .ok (.ifCond .eq 18, 3) := by decide +kernel
theorem d_MD_weave_58 : decode b_MD_weave 58 = .ok (.aload_n 0, 1) := by decide +kernel
theorem d_MD_weave_59 : decode b_MD_weave 59 = .ok (.getfield 41, 3) := by decide +kernel
theorem d_MD_weave_62 : decode b_MD_weave 62 = .ok (.iload_n 3, 1) := by decide +kernel
theorem d_MD_weave_63 : decode b_MD_weave 63 = .ok (.iaload, 1) := by decide +kernel
theorem d_MD_weave_64 : decode b_MD_weave 64 = .ok (.aload_n 0, 1) := by decide +kernel
theorem d_MD_weave_65 : decode b_MD_weave 65 = .ok (.getfield 13, 3) := by decide +kernel
theorem d_MD_weave_68 : decode b_MD_weave 68 = .ok (.iload_n 2, 1) := by decide +kernel
theorem d_MD_weave_69 : decode b_MD_weave 69 = .ok (.iaload, 1) := by decide +kernel
theorem d_MD_weave_70 : decode b_MD_weave 70 = .ok (.if_icmp .ne 31, 3) := by decide +kernel
theorem d_MD_weave_73 : decode b_MD_weave 73 = .ok (.aload_n 0, 1) := by decide +kernel
theorem d_MD_weave_74 : decode b_MD_weave 74 = .ok (.getfield 44, 3) := by decide +kernel
theorem d_MD_weave_77 : decode b_MD_weave 77 = .ok (.iload_n 3, 1) := by decide +kernel
theorem d_MD_weave_78 : decode b_MD_weave 78 = .ok (.iaload, 1) := by decide +kernel
theorem d_MD_weave_79 : decode b_MD_weave 79 = .ok (.ifCond .lt 18, 3) := by decide +kernel
theorem d_MD_weave_82 : decode b_MD_weave 82 = .ok (.aload_n 0, 1) := by decide +kernel
theorem d_MD_weave_83 : decode b_MD_weave 83 = .ok (.getfield 44, 3) := by decide +kernel
theorem d_MD_weave_86 : decode b_MD_weave 86 = .ok (.iload_n 3, 1) := by decide +kernel
theorem d_MD_weave_87 : decode b_MD_weave 87 = .ok (.iaload, 1) := by decide +kernel
theorem d_MD_weave_88 : decode b_MD_weave 88 = .ok (.aload_n 0, 1) := by decide +kernel
theorem d_MD_weave_89 : decode b_MD_weave 89 = .ok (.getfield 16, 3) := by decide +kernel
theorem d_MD_weave_92 : decode b_MD_weave 92 = .ok (.iload_n 2, 1) := by decide +kernel
theorem d_MD_weave_93 : decode b_MD_weave 93 = .ok (.iaload, 1) := by decide +kernel
theorem d_MD_weave_94 : decode b_MD_weave 94 = .ok (.if_icmp .ne 7, 3) := by decide +kernel
theorem d_MD_weave_97 : decode b_MD_weave 97 = .ok (.iconst 1, 1) := by decide +kernel
theorem d_MD_weave_98 : decode b_MD_weave 98 = .ok (.goto 4, 3) := by decide +kernel
theorem d_MD_weave_101 : decode b_MD_weave 101 = .ok (.iconst 0, 1) := by decide +kernel
theorem d_MD_weave_102 : decode b_MD_weave 102 = .ok (.istore 4, 2) := by decide +kernel
theorem d_MD_weave_104 : decode b_MD_weave 104 = .ok (.iload 4, 2) := by decide +kernel
theorem d_MD_weave_106 : decode b_MD_weave 106 = .ok (.ifCond .eq 18, 3) := by decide +kernel
theorem d_MD_weave_109 : decode b_MD_weave 109 = .ok (.aload_n 0, 1) := by decide +kernel
theorem d_MD_weave_110 : decode b_MD_weave 110 = .ok (.iconst 4, 1) := by decide +kernel
theorem d_MD_weave_111 : decode b_MD_weave 111 = .ok (.iload_n 2, 1) := by decide +kernel
theorem d_MD_weave_112 : decode b_MD_weave 112 = .ok (.iadd, 1) := by decide +kernel
theorem d_MD_weave_113 : decode b_MD_weave 113 = .ok (.iload_n 3, 1) := by decide +kernel
theorem d_MD_weave_114 : decode b_MD_weave 114 = .ok (.invokevirtual 207, 3) := by decide +kernel
theorem d_MD_weave_117 : decode b_MD_weave 117 = .ok (.ifCond .eq 7, 3) := by decide +kernel
theorem d_MD_weave_120 : decode b_MD_weave 120 = .ok (.iconst 1, 1) := by decide +kernel
theorem d_MD_weave_121 : decode b_MD_weave 121 = .ok (.goto 4, 3) := by decide +kernel
theorem d_MD_weave_124 : decode b_MD_weave 124 = .ok (.iconst 0, 1) := by decide +kernel
theorem d_MD_weave_125 : decode b_MD_weave 125 = .ok (.istore 5, 2) := by decide +kernel
theorem d_MD_weave_127 : decode b_MD_weave 127 = .ok (.aload_n 0, 1) := by decide +kernel
theorem d_MD_weave_128 : decode b_MD_weave 128 = .ok (.getfield 47, 3) := by decide +kernel
theorem d_MD_weave_131 : decode b_MD_weave 131 = .ok (.iconst 3, 1) := by decide +kernel
theorem d_MD_weave_132 : decode b_MD_weave 132 = .ok (.iload_n 2, 1) := by decide +kernel
theorem d_MD_weave_133 : decode b_MD_weave 133 = .ok (.imul, 1) := by decide +kernel
theorem d_MD_weave_134 : decode b_MD_weave 134 = .ok (.iload_n 3, 1) := by decide +kernel
theorem d_MD_weave_135 : decode b_MD_weave 135 = .ok (.iadd, 1) := by decide +kernel
theorem d_MD_weave_136 : decode b_MD_weave 136 = .ok (.iload 4, 2) := by decide +kernel
theorem d_MD_weave_138 : decode b_MD_weave 138 = .ok (.ifCond .eq 12, 3) := by decide +kernel
theorem d_MD_weave_141 : decode b_MD_weave 141 = .ok (.iload 5, 2) := by decide +kernel
theorem d_MD_weave_143 : decode b_MD_weave 143 = .ok (.ifCond .ne 7, 3) := by decide +kernel
theorem d_MD_weave_146 : decode b_MD_weave 146 = .ok (.iconst 1, 1) := by decide +kernel
theorem d_MD_weave_147 : decode b_MD_weave 147 = .ok (.goto 4, 3) := by decide +kernel
theorem d_MD_weave_150 : decode b_MD_weave 150 = .ok (.iconst 0, 1) := by decide +kernel
theorem d_MD_weave_151 : decode b_MD_weave 151 = .ok (.bastore, 1) := by decide +kernel
theorem d_MD_weave_152 : decode b_MD_weave 152 = .ok (.iload 5, 2) := by decide +kernel
theorem d_MD_weave_154 : decode b_MD_weave 154 = .ok (.ifCond .eq 9, 3) := by decide +kernel
theorem d_MD_weave_157 : decode b_MD_weave 157 = .ok (.iload_n 1, 1) := by decide +kernel
theorem d_MD_weave_158 : decode b_MD_weave 158 = .ok (.iconst 1, 1) := by decide +kernel
theorem d_MD_weave_159 : decode b_MD_weave 159 = .ok (.iadd, 1) := by decide +kernel
theorem d_MD_weave_160 : decode b_MD_weave 160 = .ok (.goto 4, 3) := by decide +kernel
theorem d_MD_weave_163 : decode b_MD_weave 163 = .ok (.iload_n 1, 1) := by decide +kernel
theorem d_MD_weave_164 : decode b_MD_weave 164 = .ok (.istore_n 1, 1) := by decide +kernel
theorem d_MD_weave_165 : decode b_MD_weave 165 = .ok (.iinc 3 1, 3) := by decide +kernel
theorem d_MD_weave_168 : decode b_MD_weave 168 = .ok (.goto (-132), 3) := by decide +kernel
theorem d_MD_weave_171 : decode b_MD_weave 171 = .ok (.iinc 2 1, 3) := by decide +kernel
theorem d_MD_weave_174 : decode b_MD_weave 174 = .ok (.goto (-156), 3) := by decide +kernel
theorem d_MD_weave_177 : decode b_MD_weave 177 = .ok (.iload_n 1, 1) := by decide +kernel
theorem d_MD_weave_178 : decode b_MD_weave 178 = .ok (.ireturn, 1) := by decide +kernel
theorem d_MD_failed_0 : decode b_MD_failed 0 = .ok (.iload_n 1, 1) := by decide +kernel
theorem d_MD_failed_1 : decode b_MD_failed 1 = .ok (.iconst 0, 1) := by decide +kernel
theorem d_MD_failed_2 : decode b_MD_failed 2 = .ok (.iconst 3, 1) := by decide +kernel
theorem d_MD_failed_3 : decode b_MD_failed 3 = .ok (.invokestatic 96, 3) := by decide +kernel
theorem d_MD_failed_6 : decode b_MD_failed 6 = .ok (.ifCond .ne 29, 3) := by decide +kernel
theorem d_MD_failed_9 : decode b_MD_failed 9 = .ok (.iload_n 2, 1) := by decide +kernel
theorem d_MD_failed_10 : decode b_MD_failed 10 = .ok (.iconst 0, 1) := by decide +kernel
theorem d_MD_failed_11 : decode b_MD_failed 11 = .ok (.iconst 2, 1) := by decide +kernel
theorem d_MD_failed_12 : decode b_MD_failed 12 = .ok (.invokestatic 96, 3) := by decide +kernel
theorem d_MD_failed_15 : decode b_MD_failed 15 = .ok (.ifCond .ne 20, 3) := by decide +kernel
theorem d_MD_failed_18 : decode b_MD_failed 18 = .ok (.aload_n 0, 1) := by decide +kernel
theorem d_MD_failed_19 : decode b_MD_failed 19 = .ok (.getfield 47, 3) := by decide +kernel
theorem d_MD_failed_22 : decode b_MD_failed 22 = .ok (.iconst 3, 1) := by decide +kernel
theorem d_MD_failed_23 : decode b_MD_failed 23 = .ok (.iload_n 1, 1) := by decide +kernel
theorem d_MD_failed_24 : decode b_MD_failed 24 = .ok (.imul, 1) := by decide +kernel
theorem d_MD_failed_25 : decode b_MD_failed 25 = .ok (.iload_n 2, 1) := by decide +kernel
theorem d_MD_failed_26 : decode b_MD_failed 26 = .ok (.iadd, 1) := by decide +kernel
theorem d_MD_failed_27 : decode b_MD_failed 27 = .ok (.baload, 1) := by decide +kernel
theorem d_MD_failed_28 : decode b_MD_failed 28 = .ok (.ifCond .eq 7, 3) := by decide +kernel
theorem d_MD_failed_31 : decode b_MD_failed 31 = .ok (.iconst 1, 1) := by decide +kernel
theorem d_MD_failed_32 : decode b_MD_failed 32 = .ok (.goto 4, 3) := by decide +kernel
theorem d_MD_failed_35 : decode b_MD_failed 35 = .ok (.iconst 0, 1) := by decide +kernel
theorem d_MD_failed_36 : decode b_MD_failed 36 = .ok (.ireturn, 1) := by decide +kernel
theorem d_MD_enter_0 : decode b_MD_enter 0 = .ok (.aload_n 0, 1) := by decide +kernel
theorem d_MD_enter_1 : decode b_MD_enter 1 = .ok (.getfield 75, 3) := by decide +kernel
theorem d_MD_enter_4 : decode b_MD_enter 4 = .ok (.aload_n 0, 1) := by decide +kernel
theorem d_MD_enter_5 : decode b_MD_enter 5 = .ok (.getfield 210, 3) := by decide +kernel
theorem d_MD_enter_8 : decode b_MD_enter 8 = .ok (.iload_n 1, 1) := by decide +kernel
theorem d_MD_enter_9 : decode b_MD_enter 9 = .ok (.iastore, 1) := by decide +kernel
theorem d_MD_enter_10 : decode b_MD_enter 10 = .ok (.aload_n 0, 1) := by decide +kernel
theorem d_MD_enter_11 : decode b_MD_enter 11 = .ok (.getfield 78, 3) := by decide +kernel
theorem d_MD_enter_14 : decode b_MD_enter 14 = .ok (.aload_n 0, 1) := by decide +kernel
theorem d_MD_enter_15 : decode b_MD_enter 15 = .ok (.getfield 210, 3) := by decide +kernel
theorem d_MD_enter_18 : decode b_MD_enter 18 = .ok (.iconst 0, 1) := by decide +kernel
theorem d_MD_enter_19 : decode b_MD_enter 19 = .ok (.iastore, 1) := by decide +kernel
theorem d_MD_enter_20 : decode b_MD_enter 20 = .ok (.aload_n 0, 1) := by decide +kernel
theorem d_MD_enter_21 : decode b_MD_enter 21 = .ok (.getfield 81, 3) := by decide +kernel
theorem d_MD_enter_24 : decode b_MD_enter 24 = .ok (.aload_n 0, 1) := by decide +kernel
theorem d_MD_enter_25 : decode b_MD_enter 25 = .ok (.getfield 210, 3) := by decide +kernel
theorem d_MD_enter_28 : decode b_MD_enter 28 = .ok (.iconst 0, 1) := by decide +kernel
theorem d_MD_enter_29 : decode b_MD_enter 29 = .ok (.iastore, 1) := by decide +kernel
theorem d_MD_enter_30 : decode b_MD_enter 30 = .ok (.iconst 0, 1) := by decide +kernel
theorem d_MD_enter_31 : decode b_MD_enter 31 = .ok (.istore_n 2, 1) := by decide +kernel
theorem d_MD_enter_32 : decode b_MD_enter 32 = .ok (.iload_n 2, 1) := by decide +kernel
theorem d_MD_enter_33 : decode b_MD_enter 33 = .ok (.bipush 6, 2) := by decide +kernel
theorem d_MD_enter_35 : decode b_MD_enter 35 = .ok (.if_icmp .ge 24, 3) := by decide +kernel
theorem d_MD_enter_38 : decode b_MD_enter 38 = .ok (.aload_n 0, 1) := by decide +kernel
theorem d_MD_enter_39 : decode b_MD_enter 39 = .ok (.getfield 84, 3) := by decide +kernel
theorem d_MD_enter_42 : decode b_MD_enter 42 = .ok (.bipush 6, 2) := by decide +kernel
theorem d_MD_enter_44 : decode b_MD_enter 44 = .ok (.aload_n 0, 1) := by decide +kernel
theorem d_MD_enter_45 : decode b_MD_enter 45 = .ok (.getfield 210, 3) := by decide +kernel
theorem d_MD_enter_48 : decode b_MD_enter 48 = .ok (.imul, 1) := by decide +kernel
theorem d_MD_enter_49 : decode b_MD_enter 49 = .ok (.iload_n 2, 1) := by decide +kernel
theorem d_MD_enter_50 : decode b_MD_enter 50 = .ok (.iadd, 1) := by decide +kernel
theorem d_MD_enter_51 : decode b_MD_enter 51 = .ok (.iconst 0, 1) := by decide +kernel
theorem d_MD_enter_52 : decode b_MD_enter 52 = .ok (.iastore, 1) := by decide +kernel
theorem d_MD_enter_53 : decode b_MD_enter 53 = .ok (.iinc 2 1, 3) := by decide +kernel
theorem d_MD_enter_56 : decode b_MD_enter 56 = .ok (.goto (-24), 3) := by decide +kernel
theorem d_MD_enter_59 : decode b_MD_enter 59 = .ok (.aload_n 0, 1) := by decide +kernel
theorem d_MD_enter_60 : decode b_MD_enter 60 = .ok (.dup, 1) := by decide +kernel
theorem d_MD_enter_61 : decode b_MD_enter 61 = .ok (.getfield 210, 3) := by decide +kernel
theorem d_MD_enter_64 : decode b_MD_enter 64 = .ok (.iconst 1, 1) := by decide +kernel
theorem d_MD_enter_65 : decode b_MD_enter 65 = .ok (.iadd, 1) := by decide +kernel
theorem d_MD_enter_66 : decode b_MD_enter 66 = .ok (.putfield 210, 3) := by decide +kernel
theorem d_MD_enter_69 : decode b_MD_enter 69 = .ok (.return_, 1) := by decide +kernel
theorem d_MD_pop_0 : decode b_MD_pop 0 = .ok (.aload_n 0, 1) := by decide +kernel
theorem d_MD_pop_1 : decode b_MD_pop 1 = .ok (.getfield 210, 3) := by decide +kernel
theorem d_MD_pop_4 : decode b_MD_pop 4 = .ok (.iconst 1, 1) := by decide +kernel
theorem d_MD_pop_5 : decode b_MD_pop 5 = .ok (.isub, 1) := by decide +kernel
theorem d_MD_pop_6 : decode b_MD_pop 6 = .ok (.istore_n 1, 1) := by decide +kernel
theorem d_MD_pop_7 : decode b_MD_pop 7 = .ok (.aload_n 0, 1) := by decide +kernel
theorem d_MD_pop_8 : decode b_MD_pop 8 = .ok (.getfield 81, 3) := by decide +kernel
theorem d_MD_pop_11 : decode b_MD_pop 11 = .ok (.iload_n 1, 1) := by decide +kernel
theorem d_MD_pop_12 : decode b_MD_pop 12 = .ok (.dup2, 1) := by decide +kernel
theorem d_MD_pop_13 : decode b_MD_pop 13 = .ok (.iaload, 1) := by decide +kernel
theorem d_MD_pop_14 : decode b_MD_pop 14 = .ok (.iconst 1, 1) := by decide +kernel
theorem d_MD_pop_15 : decode b_MD_pop 15 = .ok (.isub, 1) := by decide +kernel
theorem d_MD_pop_16 : decode b_MD_pop 16 = .ok (.iastore, 1) := by decide +kernel
theorem d_MD_pop_17 : decode b_MD_pop 17 = .ok (.aload_n 0, 1) := by decide +kernel
theorem d_MD_pop_18 : decode b_MD_pop 18 = .ok (.getfield 87, 3) := by decide +kernel
theorem d_MD_pop_21 : decode b_MD_pop 21 = .ok (.bipush 9, 2) := by decide +kernel
theorem d_MD_pop_23 : decode b_MD_pop 23 = .ok (.iload_n 1, 1) := by decide +kernel
theorem d_MD_pop_24 : decode b_MD_pop 24 = .ok (.imul, 1) := by decide +kernel
theorem d_MD_pop_25 : decode b_MD_pop 25 = .ok (.aload_n 0, 1) := by decide +kernel
theorem d_MD_pop_26 : decode b_MD_pop 26 = .ok (.getfield 81, 3) := by decide +kernel
theorem d_MD_pop_29 : decode b_MD_pop 29 = .ok (.iload_n 1, 1) := by decide +kernel
theorem d_MD_pop_30 : decode b_MD_pop 30 = .ok (.iaload, 1) := by decide +kernel
theorem d_MD_pop_31 : decode b_MD_pop 31 = .ok (.iadd, 1) := by decide +kernel
theorem d_MD_pop_32 : decode b_MD_pop 32 = .ok (.iaload, 1) := by decide +kernel
theorem d_MD_pop_33 : decode b_MD_pop 33 = .ok (.ireturn, 1) := by decide +kernel
theorem d_MD_branch_0 : decode b_MD_branch 0 = .ok (.iload_n 3, 1) := by decide +kernel
theorem d_MD_branch_1 : decode b_MD_branch 1 = .ok (.bipush 10, 2) := by decide +kernel
theorem d_MD_branch_3 : decode b_MD_branch 3 = .ok (.irem, 1) := by decide +kernel
theorem d_MD_branch_4 : decode b_MD_branch 4 = .ok (.istore 4, 2) := by decide +kernel
theorem d_MD_branch_6 : decode b_MD_branch 6 = .ok (.iload 4, 2) := by decide +kernel
theorem d_MD_branch_8 : decode b_MD_branch 8 = .ok (.ifCond .ne 7, 3) := by decide +kernel
theorem d_MD_branch_11 : decode b_MD_branch 11 = .ok (.iconst 0, 1) := by decide +kernel
theorem d_MD_branch_12 : decode b_MD_branch 12 = .ok (.goto 7, 3) := by decide +kernel
theorem d_MD_branch_15 : decode b_MD_branch 15 = .ok (.aload_n 0, 1) := by decide +kernel
theorem d_MD_branch_16 : decode b_MD_branch 16 = .ok (.invokevirtual 222, 3) := by decide +kernel
theorem d_MD_branch_19 : decode b_MD_branch 19 = .ok (.istore 5, 2) := by decide +kernel
theorem d_MD_branch_21 : decode b_MD_branch 21 = .ok (.aload_n 0, 1) := by decide +kernel
theorem d_MD_branch_22 : decode b_MD_branch 22 = .ok (.getfield 78, 3) := by decide +kernel
theorem d_MD_branch_25 : decode b_MD_branch 25 = .ok (.iload_n 2, 1) := by decide +kernel
theorem d_MD_branch_26 : decode b_MD_branch 26 = .ok (.iload 4, 2) := by decide +kernel
theorem d_MD_branch_28 : decode b_MD_branch 28 = .ok (.ifCond .eq 25, 3) := by decide +kernel
theorem d_MD_branch_31 : decode b_MD_branch 31 = .ok (.iload 4, 2) := by decide +kernel
theorem d_MD_branch_33 : decode b_MD_branch 33 = .ok (.iconst 1, 1) := by decide +kernel
theorem d_MD_branch_34 : decode b_MD_branch 34 = .ok (.if_icmp .ne 8, 3) := by decide +kernel
theorem d_MD_branch_37 : decode b_MD_branch 37 = .ok (.iload 5, 2) := by decide +kernel
theorem d_MD_branch_39 : decode b_MD_branch 39 = .ok (.ifCond .eq 14, 3) := by decide +kernel
theorem d_MD_branch_42 : decode b_MD_branch 42 = .ok (.iload 4, 2) := by decide +kernel
theorem d_MD_branch_44 : decode b_MD_branch 44 = .ok (.iconst 2, 1) := by decide +kernel
theorem d_MD_branch_45 : decode b_MD_branch 45 = .ok (.if_icmp .ne 22, 3) := by decide +kernel
theorem d_MD_branch_48 : decode b_MD_branch 48 = .ok (.iload 5, 2) := by decide +kernel
theorem d_MD_branch_50 : decode b_MD_branch 50 = .ok (.ifCond .ge 17, 3) := by decide +kernel
theorem d_MD_branch_53 : decode b_MD_branch 53 = .ok (.aload_n 0, 1) := by decide +kernel
theorem d_MD_branch_54 : decode b_MD_branch 54 = .ok (.iload_n 1, 1) := by decide +kernel
theorem d_MD_branch_55 : decode b_MD_branch 55 = .ok (.aload_n 0, 1) := by decide +kernel
theorem d_MD_branch_56 : decode b_MD_branch 56 = .ok (.getfield 78, 3) := by decide +kernel
theorem d_MD_branch_59 : decode b_MD_branch 59 = .ok (.iload_n 2, 1) := by decide +kernel
theorem d_MD_branch_60 : decode b_MD_branch 60 = .ok (.iaload, 1) := by decide +kernel
theorem d_MD_branch_61 : decode b_MD_branch 61 = .ok (.invokevirtual 122, 3) := by decide +kernel
theorem d_MD_branch_64 : decode b_MD_branch 64 = .ok (.goto 14, 3) := by decide +kernel
theorem d_MD_branch_67 : decode b_MD_branch 67 = .ok (.aload_n 0, 1) := by decide +kernel
theorem d_MD_branch_68 : decode b_MD_branch 68 = .ok (.getfield 78, 3) := by decide +kernel
theorem d_MD_branch_71 : decode b_MD_branch 71 = .ok (.iload_n 2, 1) := by decide +kernel
theorem d_MD_branch_72 : decode b_MD_branch 72 = .ok (.iaload, 1) := by decide +kernel
theorem d_MD_branch_73 : decode b_MD_branch 73 = .ok (.iload_n 3, 1) := by decide +kernel
theorem d_MD_branch_74 : decode b_MD_branch 74 = .ok (.invokestatic 111, 3) := by decide +kernel
theorem d_MD_branch_77 : decode b_MD_branch 77 = .ok (.iadd, 1) := by decide +kernel
theorem d_MD_branch_78 : decode b_MD_branch 78 = .ok (.iastore, 1) := by decide +kernel
theorem d_MD_branch_79 : decode b_MD_branch 79 = .ok (.return_, 1) := by decide +kernel
theorem d_MD_push_0 : decode b_MD_push 0 = .ok (.aload_n 0, 1) := by decide +kernel
theorem d_MD_push_1 : decode b_MD_push 1 = .ok (.getfield 210, 3) := by decide +kernel
theorem d_MD_push_4 : decode b_MD_push 4 = .ok (.iconst 1, 1) := by decide +kernel
theorem d_MD_push_5 : decode b_MD_push 5 = .ok (.isub, 1) := by decide +kernel
theorem d_MD_push_6 : decode b_MD_push 6 = .ok (.istore_n 2, 1) := by decide +kernel
theorem d_MD_push_7 : decode b_MD_push 7 = .ok (.aload_n 0, 1) := by decide +kernel
theorem d_MD_push_8 : decode b_MD_push 8 = .ok (.getfield 87, 3) := by decide +kernel
theorem d_MD_push_11 : decode b_MD_push 11 = .ok (.bipush 9, 2) := by decide +kernel
theorem d_MD_push_13 : decode b_MD_push 13 = .ok (.iload_n 2, 1) := by decide +kernel
theorem d_MD_push_14 : decode b_MD_push 14 = .ok (.imul, 1) := by decide +kernel
theorem d_MD_push_15 : decode b_MD_push 15 = .ok (.aload_n 0, 1) := by decide +kernel
theorem d_MD_push_16 : decode b_MD_push 16 = .ok (.getfield 81, 3) := by decide +kernel
theorem d_MD_push_19 : decode b_MD_push 19 = .ok (.iload_n 2, 1) := by decide +kernel
theorem d_MD_push_20 : decode b_MD_push 20 = .ok (.iaload, 1) := by decide +kernel
theorem d_MD_push_21 : decode b_MD_push 21 = .ok (.iadd, 1) := by decide +kernel
theorem d_MD_push_22 : decode b_MD_push 22 = .ok (.iload_n 1, 1) := by decide +kernel
theorem d_MD_push_23 : decode b_MD_push 23 = .ok (.iastore, 1) := by decide +kernel
theorem d_MD_push_24 : decode b_MD_push 24 = .ok (.aload_n 0, 1) := by decide +kernel
theorem d_MD_push_25 : decode b_MD_push 25 = .ok (.getfield 81, 3) := by decide +kernel
theorem d_MD_push_28 : decode b_MD_push 28 = .ok (.iload_n 2, 1) := by decide +kernel
theorem d_MD_push_29 : decode b_MD_push 29 = .ok (.dup2, 1) := by decide +kernel
theorem d_MD_push_30 : decode b_MD_push 30 = .ok (.iaload, 1) := by decide +kernel
theorem d_MD_push_31 : decode b_MD_push 31 = .ok (.iconst 1, 1) := by decide +kernel
theorem d_MD_push_32 : decode b_MD_push 32 = .ok (.iadd, 1) := by decide +kernel
theorem d_MD_push_33 : decode b_MD_push 33 = .ok (.iastore, 1) := by decide +kernel
theorem d_MD_push_34 : decode b_MD_push 34 = .ok (.return_, 1) := by decide +kernel
theorem d_MD_raise_0 : decode b_MD_raise 0 = .ok (.aload_n 0, 1) := by decide +kernel
theorem d_MD_raise_1 : decode b_MD_raise 1 = .ok (.getfield 210, 3) := by decide +kernel
theorem d_MD_raise_4 : decode b_MD_raise 4 = .ok (.ifCond .le 147, 3) := by decide +kernel
theorem d_MD_raise_7 : decode b_MD_raise 7 = .ok (.aload_n 0, 1) := by decide +kernel
theorem d_MD_raise_8 : decode b_MD_raise 8 = .ok (.getfield 210, 3) := by decide +kernel
theorem d_MD_raise_11 : decode b_MD_raise 11 = .ok (.iconst 1, 1) := by decide +kernel
theorem d_MD_raise_12 : decode b_MD_raise 12 = .ok (.isub, 1) := by decide +kernel
theorem d_MD_raise_13 : decode b_MD_raise 13 = .ok (.istore_n 2, 1) := by decide +kernel
theorem d_MD_raise_14 : decode b_MD_raise 14 = .ok (.aload_n 0, 1) := by decide +kernel
theorem d_MD_raise_15 : decode b_MD_raise 15 = .ok (.getfield 75, 3) := by decide +kernel
theorem d_MD_raise_18 : decode b_MD_raise 18 = .ok (.iload_n 2, 1) := by decide +kernel
theorem d_MD_raise_19 : decode b_MD_raise 19 = .ok (.iaload, 1) := by decide +kernel
theorem d_MD_raise_20 : decode b_MD_raise 20 = .ok (.istore_n 3, 1) := by decide +kernel
theorem d_MD_raise_21 : decode b_MD_raise 21 = .ok (.bipush 20, 2) := by decide +kernel
theorem d_MD_raise_23 : decode b_MD_raise 23 = .ok (.iload_n 3, 1) := by decide +kernel
theorem d_MD_raise_24 : decode b_MD_raise 24 = .ok (.imul, 1) := by decide +kernel
theorem d_MD_raise_25 : decode b_MD_raise 25 = .ok (.istore 4, 2) := by decide +kernel
theorem d_MD_raise_27 : decode b_MD_raise 27 = .ok (.iload 4, 2) := by decide +kernel
theorem d_MD_raise_29 : decode b_MD_raise 29 = .ok (.bipush 20, 2) := by decide +kernel
theorem d_MD_raise_31 : decode b_MD_raise 31 = .ok (.iload_n 3, 1) := by decide +kernel
theorem d_MD_raise_32 : decode b_MD_raise 32 = .ok (.imul, 1) := by decide +kernel
theorem d_MD_raise_33 : decode b_MD_raise 33 = .ok (.iconst 4, 1) := by decide +kernel
theorem d_MD_raise_34 : decode b_MD_raise 34 = .ok (.aload_n 0, 1) := by decide +kernel
theorem d_MD_raise_35 : decode b_MD_raise 35 = .ok (.getfield 31, 3) := by decide +kernel
theorem d_MD_raise_38 : decode b_MD_raise 38 = .ok (.iload_n 3, 1) := by decide +kernel
theorem d_MD_raise_39 : decode b_MD_raise 39 = .ok (.iaload, 1) := by decide +kernel
theorem d_MD_raise_40 : decode b_MD_raise 40 = .ok (.imul, 1) := by decide +kernel
theorem d_MD_raise_41 : decode b_MD_raise 41 = .ok (.iadd, 1) := by decide +kernel
theorem d_MD_raise_42 : decode b_MD_raise 42 = .ok (.if_icmp .ge 96, 3) := by decide +kernel
theorem d_MD_raise_45 : decode b_MD_raise 45 = .ok (.aload_n 0, 1) := by decide +kernel
theorem d_MD_raise_46 : decode b_MD_raise 46 = .ok (.getfield 34, 3) := by decide +kernel
theorem d_MD_raise_49 : decode b_MD_raise 49 = .ok (.iload 4, 2) := by decide +kernel
theorem d_MD_raise_51 : decode b_MD_raise 51 = .ok (.iaload, 1) := by decide +kernel
theorem d_MD_raise_52 : decode b_MD_raise 52 = .ok (.aload_n 0, 1) := by decide +kernel
theorem d_MD_raise_53 : decode b_MD_raise 53 = .ok (.getfield 78, 3) := by decide +kernel
theorem d_MD_raise_56 : decode b_MD_raise 56 = .ok (.iload_n 2, 1) := by decide +kernel
theorem d_MD_raise_57 : decode b_MD_raise 57 = .ok (.iaload, 1) := by decide +kernel
theorem d_MD_raise_58 : decode b_MD_raise 58 = .ok (.if_icmp .gt 74, 3) := by decide +kernel
theorem d_MD_raise_61 : decode b_MD_raise 61 = .ok (.aload_n 0, 1) := by decide +kernel
theorem d_MD_raise_62 : decode b_MD_raise 62 = .ok (.getfield 78, 3) := by decide +kernel
theorem d_MD_raise_65 : decode b_MD_raise 65 = .ok (.iload_n 2, 1) := by decide +kernel
theorem d_MD_raise_66 : decode b_MD_raise 66 = .ok (.iaload, 1) := by decide +kernel
theorem d_MD_raise_67 : decode b_MD_raise 67 = .ok (.aload_n 0, 1) := by decide +kernel
theorem d_MD_raise_68 : decode b_MD_raise 68 = .ok (.getfield 34, 3) := by decide +kernel
theorem d_MD_raise_71 : decode b_MD_raise 71 = .ok (.iload 4, 2) := by decide +kernel
theorem d_MD_raise_73 : decode b_MD_raise 73 = .ok (.iconst 1, 1) := by decide +kernel
theorem d_MD_raise_74 : decode b_MD_raise 74 = .ok (.iadd, 1) := by decide +kernel
theorem d_MD_raise_75 : decode b_MD_raise 75 = .ok (.iaload, 1) := by decide +kernel
theorem d_MD_raise_76 : decode b_MD_raise 76 = .ok (.if_icmp .ge 56, 3) := by decide +kernel
theorem d_MD_raise_79 : decode b_MD_raise 79 = .ok (.aload_n 0, 1) := by decide +kernel
theorem d_MD_raise_80 : decode b_MD_raise 80 = .ok (.getfield 34, 3) := by decide +kernel
theorem d_MD_raise_83 : decode b_MD_raise 83 = .ok (.iload 4, 2) := by decide +kernel
theorem d_MD_raise_85 : decode b_MD_raise 85 = .ok (.iconst 3, 1) := by decide +kernel
theorem d_MD_raise_86 : decode b_MD_raise 86 = .ok (.iadd, 1) := by decide +kernel
theorem d_MD_raise_87 : decode b_MD_raise 87 = .ok (.iaload, 1) := by decide +kernel
theorem d_MD_raise_88 : decode b_MD_raise 88 = .ok (.ifCond .eq 16, 3) := by decide +kernel
theorem d_MD_raise_91 : decode b_MD_raise 91 = .ok (.aload_n 0, 1) := by decide +kernel
theorem d_MD_raise_92 : decode b_MD_raise 92 = .ok (.getfield 34, 3) := by decide +kernel
theorem d_MD_raise_95 : decode b_MD_raise 95 = .ok (.iload 4, 2) := by decide +kernel
theorem d_MD_raise_97 : decode b_MD_raise 97 = .ok (.iconst 3, 1) := by decide +kernel
theorem d_MD_raise_98 : decode b_MD_raise 98 = .ok (.iadd, 1) := by decide +kernel
theorem d_MD_raise_99 : decode b_MD_raise 99 = .ok (.iaload, 1) := by decide +kernel
theorem d_MD_raise_100 : decode b_MD_raise 100 = .ok (.iload_n 1, 1) := by decide +kernel
theorem d_MD_raise_101 : decode b_MD_raise 101 = .ok (.if_icmp .ne 31, 3) := by decide +kernel
theorem d_MD_raise_104 : decode b_MD_raise 104 = .ok (.aload_n 0, 1) := by decide +kernel
theorem d_MD_raise_105 : decode b_MD_raise 105 = .ok (.getfield 81, 3) := by decide +kernel
theorem d_MD_raise_108 : decode b_MD_raise 108 = .ok (.iload_n 2, 1) := by decide +kernel
theorem d_MD_raise_109 : decode b_MD_raise 109 = .ok (.iconst 0, 1) := by decide +kernel
theorem d_MD_raise_110 : decode b_MD_raise 110 = .ok (.iastore, 1) := by decide +kernel
theorem d_MD_raise_111 : decode b_MD_raise 111 = .ok (.aload_n 0, 1) := by decide +kernel
theorem d_MD_raise_112 : decode b_MD_raise 112 = .ok (.iload_n 1, 1) := by decide +kernel
theorem d_MD_raise_113 : decode b_MD_raise 113 = .ok (.invokevirtual 213, 3) := by decide +kernel
theorem d_MD_raise_116 : decode b_MD_raise 116 = .ok (.aload_n 0, 1) := by decide +kernel
theorem d_MD_raise_117 : decode b_MD_raise 117 = .ok (.getfield 78, 3) := by decide +kernel
theorem d_MD_raise_120 : decode b_MD_raise 120 = .ok (.iload_n 2, 1) := by decide +kernel
theorem d_MD_raise_121 : decode b_MD_raise 121 = .ok (.aload_n 0, 1) := by decide +kernel
theorem d_MD_raise_122 : decode b_MD_raise 122 = .ok (.getfield 34, 3) := by decide +kernel
theorem d_MD_raise_125 : decode b_MD_raise 125 = .ok (.iload 4, 2) := by decide +kernel
theorem d_MD_raise_127 : decode b_MD_raise 127 = .ok (.iconst 2, 1) := by decide +kernel
theorem d_MD_raise_128 : decode b_MD_raise 128 = .ok (.iadd, 1) := by decide +kernel
theorem d_MD_raise_129 : decode b_MD_raise 129 = .ok (.iaload, 1) := by decide +kernel
theorem d_MD_raise_130 : decode b_MD_raise 130 = .ok (.iastore, 1) := by decide +kernel
theorem d_MD_raise_131 : decode b_MD_raise 131 = .ok (.return_, 1) := by decide +kernel
theorem d_MD_raise_132 : decode b_MD_raise 132 = .ok (.iinc 4 4, 3) := by decide +kernel
theorem d_MD_raise_135 : decode b_MD_raise 135 = .ok (.goto (-108), 3) := by decide +kernel
theorem d_MD_raise_138 : decode b_MD_raise 138 = .ok (.aload_n 0, 1) := by decide +kernel
theorem d_MD_raise_139 : decode b_MD_raise 139 = .ok (.dup, 1) := by decide +kernel
theorem d_MD_raise_140 : decode b_MD_raise 140 = .ok (.getfield 210, 3) := by decide +kernel
theorem d_MD_raise_143 : decode b_MD_raise 143 = .ok (.iconst 1, 1) := by decide +kernel
theorem d_MD_raise_144 : decode b_MD_raise 144 = .ok (.isub, 1) := by decide +kernel
theorem d_MD_raise_145 : decode b_MD_raise 145 = .ok (.putfield 210, 3) := by decide +kernel
theorem d_MD_raise_148 : decode b_MD_raise 148 = .ok (.goto (-148), 3) := by decide +kernel
theorem d_MD_raise_151 : decode b_MD_raise 151 = .ok (.aload_n 0, 1) := by decide +kernel
theorem d_MD_raise_152 : decode b_MD_raise 152 = .ok (.iconst 1, 1) := by decide +kernel
theorem d_MD_raise_153 : decode b_MD_raise 153 = .ok (.putfield 216, 3) := by decide +kernel
theorem d_MD_raise_156 : decode b_MD_raise 156 = .ok (.aload_n 0, 1) := by decide +kernel
theorem d_MD_raise_157 : decode b_MD_raise 157 = .ok (.iload_n 1, 1) := by decide +kernel
theorem d_MD_raise_158 : decode b_MD_raise 158 = .ok (.putfield 219, 3) := by decide +kernel
theorem d_MD_raise_161 : decode b_MD_raise 161 = .ok (.return_, 1) := by decide +kernel
theorem d_MD_calculate_0 : decode b_MD_calculate 0 = .ok (.aload_n 0, 1) := by decide +kernel
theorem d_MD_calculate_1 : decode b_MD_calculate 1 = .ok (.invokevirtual 222, 3) := by decide +kernel
theorem d_MD_calculate_4 : decode b_MD_calculate 4 = .ok (.istore_n 2, 1) := by decide +kernel
theorem d_MD_calculate_5 : decode b_MD_calculate 5 = .ok (.aload_n 0, 1) := by decide +kernel
theorem d_MD_calculate_6 : decode b_MD_calculate 6 = .ok (.invokevirtual 222, 3) := by decide +kernel
theorem d_MD_calculate_9 : decode b_MD_calculate 9 = .ok (.istore_n 3, 1) := by decide +kernel
theorem d_MD_calculate_10 : decode b_MD_calculate 10 = .ok (.iload_n 1, 1) := by decide +kernel
theorem d_MD_calculate_11 : decode b_MD_calculate 11 = .ok (.bipush 7, 2) := by decide +kernel
theorem d_MD_calculate_13 : decode b_MD_calculate 13 = .ok (.if_icmp .ne 13, 3) := by decide +kernel
theorem d_MD_calculate_16 : decode b_MD_calculate 16 = .ok (.iload_n 2, 1) := by decide +kernel
theorem d_MD_calculate_17 : decode b_MD_calculate 17 = .ok (.ifCond .ne 9, 3) := by decide +kernel
theorem d_MD_calculate_20 : decode b_MD_calculate 20 = .ok (.aload_n 0, 1) := by decide +kernel
theorem d_MD_calculate_21 : decode b_MD_calculate 21 = .ok (.iconst 1, 1) := by decide +kernel
theorem d_MD_calculate_22 : decode b_MD_calculate 22 = .ok (.invokevirtual 226, 3) := by decide +kernel
theorem d_MD_calculate_25 : decode b_MD_calculate 25 = .ok (.return_, 1) := by decide +kernel
theorem d_MD_calculate_26 : decode b_MD_calculate 26 = .ok (.aload_n 0, 1) := by decide +kernel
theorem d_MD_calculate_27 : decode b_MD_calculate 27 = .ok (.iload_n 1, 1) := by decide +kernel
theorem d_MD_calculate_28 : decode b_MD_calculate 28 = .ok (.iconst 4, 1) := by decide +kernel
theorem d_MD_calculate_29 : decode b_MD_calculate 29 = .ok (.if_icmp .ne 9, 3) := by decide +kernel
theorem d_MD_calculate_32 : decode b_MD_calculate 32 = .ok (.iload_n 3, 1) := by decide +kernel
theorem d_MD_calculate_33 : decode b_MD_calculate 33 = .ok (.iload_n 2, 1) := by decide +kernel
theorem d_MD_calculate_34 : decode b_MD_calculate 34 = .ok (.iadd, 1) := by decide +kernel
theorem d_MD_calculate_35 : decode b_MD_calculate 35 = .ok (.goto 29, 3) := by decide +kernel
theorem d_MD_calculate_38 : decode b_MD_calculate 38 = .ok (.iload_n 1, 1) := by decide +kernel
theorem d_MD_calculate_39 : decode b_MD_calculate 39 = .ok (.iconst 5, 1) := by decide +kernel
theorem d_MD_calculate_40 : decode b_MD_calculate 40 = .ok (.if_icmp .ne 9, 3) := by decide +kernel
theorem d_MD_calculate_43 : decode b_MD_calculate 43 = .ok (.iload_n 3, 1) := by decide +kernel
theorem d_MD_calculate_44 : decode b_MD_calculate 44 = .ok (.iload_n 2, 1) := by decide +kernel
theorem d_MD_calculate_45 : decode b_MD_calculate 45 = .ok (.isub, 1) := by decide +kernel
theorem d_MD_calculate_46 : decode b_MD_calculate 46 = .ok (.goto 18, 3) := by decide +kernel
theorem d_MD_calculate_49 : decode b_MD_calculate 49 = .ok (.iload_n 1, 1) := by decide +kernel
theorem d_MD_calculate_50 : decode b_MD_calculate 50 = .ok (.bipush 6, 2) := by decide +kernel
theorem d_MD_calculate_52 : decode b_MD_calculate 52 = .ok (.if_icmp .ne 9, 3) := by decide +kernel
theorem d_MD_calculate_55 : decode b_MD_calculate 55 = .ok (.iload_n 3, 1) := by decide +kernel
theorem d_MD_calculate_56 : decode b_MD_calculate 56 = .ok (.iload_n 2, 1) := by decide +kernel
theorem d_MD_calculate_57 : decode b_MD_calculate 57 = .ok (.imul, 1) := by decide +kernel
theorem d_MD_calculate_58 : decode b_MD_calculate 58 = .ok (.goto 6, 3) := by decide +kernel
theorem d_MD_calculate_61 : decode b_MD_calculate 61 = .ok (.iload_n 3, 1) := by decide +kernel
theorem d_MD_calculate_62 : decode b_MD_calculate 62 = .ok (.iload_n 2, 1) := by decide +kernel
theorem d_MD_calculate_63 : decode b_MD_calculate 63 = .ok (.idiv, 1) := by decide +kernel
theorem d_MD_calculate_64 : decode b_MD_calculate 64 = .ok (.invokevirtual 213, 3) := by decide +kernel
theorem d_MD_calculate_67 : decode b_MD_calculate 67 = .ok (.aload_n 0, 1) := by decide +kernel
theorem d_MD_calculate_68 : decode b_MD_calculate 68 = .ok (.getfield 78, 3) := by decide +kernel
theorem d_MD_calculate_71 : decode b_MD_calculate 71 = .ok (.aload_n 0, 1) := by decide +kernel
theorem d_MD_calculate_72 : decode b_MD_calculate 72 = .ok (.getfield 210, 3) := by decide +kernel
theorem d_MD_calculate_75 : decode b_MD_calculate 75 = .ok (.iconst 1, 1) := by decide +kernel
theorem d_MD_calculate_76 : decode b_MD_calculate 76 = .ok (.isub, 1) := by decide +kernel
theorem d_MD_calculate_77 : decode b_MD_calculate 77 = .ok (.dup2, 1) := by decide +kernel
theorem d_MD_calculate_78 : decode b_MD_calculate 78 = .ok (.iaload, 1) := by decide +kernel
theorem d_MD_calculate_79 : decode b_MD_calculate 79 = .ok (.iconst 1, 1) := by decide +kernel
theorem d_MD_calculate_80 : decode b_MD_calculate 80 = .ok (.iadd, 1) := by decide +kernel
theorem d_MD_calculate_81 : decode b_MD_calculate 81 = .ok (.iastore, 1) := by decide +kernel
theorem d_MD_calculate_82 : decode b_MD_calculate 82 = .ok (.return_, 1) := by decide +kernel
theorem d_MD_call_0 : decode b_MD_call 0 = .ok (.aload_n 0, 1) := by decide +kernel
theorem d_MD_call_1 : decode b_MD_call 1 = .ok (.getfield 210, 3) := by decide +kernel
theorem d_MD_call_4 : decode b_MD_call 4 = .ok (.bipush 8, 2) := by decide +kernel
theorem d_MD_call_6 : decode b_MD_call 6 = .ok (.if_icmp .ne 9, 3) := by decide +kernel
theorem d_MD_call_9 : decode b_MD_call 9 = .ok (.aload_n 0, 1) := by decide +kernel
theorem d_MD_call_10 : decode b_MD_call 10 = .ok (.iconst 3, 1) := by decide +kernel
theorem d_MD_call_11 : decode b_MD_call 11 = .ok (.putfield 216, 3) := by decide +kernel
theorem d_MD_call_14 : decode b_MD_call 14 = .ok (.return_, 1) := by decide +kernel
theorem d_MD_call_15 : decode b_MD_call 15 = .ok (.aload_n 0, 1) := by decide +kernel
theorem d_MD_call_16 : decode b_MD_call 16 = .ok (.getfield 16, 3) := by decide +kernel
theorem d_MD_call_19 : decode b_MD_call 19 = .ok (.iload_n 1, 1) := by decide +kernel
theorem d_MD_call_20 : decode b_MD_call 20 = .ok (.iaload, 1) := by decide +kernel
theorem d_MD_call_21 : decode b_MD_call 21 = .ok (.istore_n 2, 1) := by decide +kernel
theorem d_MD_call_22 : decode b_MD_call 22 = .ok (.iload_n 2, 1) := by decide +kernel
theorem d_MD_call_23 : decode b_MD_call 23 = .ok (.iconst 2, 1) := by decide +kernel
theorem d_MD_call_24 : decode b_MD_call 24 = .ok (.if_icmp .ne 10, 3) := by decide +kernel
theorem d_MD_call_27 : decode b_MD_call 27 = .ok (.aload_n 0, 1) := by decide +kernel
theorem d_MD_call_28 : decode b_MD_call 28 = .ok (.invokevirtual 222, 3) := by decide +kernel
theorem d_MD_call_31 : decode b_MD_call 31 = .ok (.goto 4, 3) := by decide +kernel
theorem d_MD_call_34 : decode b_MD_call 34 = .ok (.iconst 0, 1) := by decide +kernel
theorem d_MD_call_35 : decode b_MD_call 35 = .ok (.istore_n 3, 1) := by decide +kernel
theorem d_MD_call_36 : decode b_MD_call 36 = .ok (.iload_n 2, 1) := by decide +kernel
theorem d_MD_call_37 : decode b_MD_call 37 = .ok (.ifCond .le 10, 3) := by decide +kernel
theorem d_MD_call_40 : decode b_MD_call 40 = .ok (.aload_n 0, 1) := by decide +kernel
theorem d_MD_call_41 : decode b_MD_call 41 = .ok (.invokevirtual 222, 3) := by decide +kernel
theorem d_MD_call_44 : decode b_MD_call 44 = .ok (.goto 4, 3) := by decide +kernel
theorem d_MD_call_47 : decode b_MD_call 47 = .ok (.iconst 0, 1) := by decide +kernel
theorem d_MD_call_48 : decode b_MD_call 48 = .ok (.istore 4, 2) := by decide +kernel
theorem d_MD_call_50 : decode b_MD_call 50 = .ok (.aload_n 0, 1) := by decide +kernel
theorem d_MD_call_51 : decode b_MD_call 51 = .ok (.iload_n 1, 1) := by decide +kernel
theorem d_MD_call_52 : decode b_MD_call 52 = .ok (.invokevirtual 229, 3) := by decide +kernel
theorem d_MD_call_55 : decode b_MD_call 55 = .ok (.aload_n 0, 1) := by decide +kernel
theorem d_MD_call_56 : decode b_MD_call 56 = .ok (.getfield 84, 3) := by decide +kernel
theorem d_MD_call_59 : decode b_MD_call 59 = .ok (.bipush 6, 2) := by decide +kernel
theorem d_MD_call_61 : decode b_MD_call 61 = .ok (.aload_n 0, 1) := by decide +kernel
theorem d_MD_call_62 : decode b_MD_call 62 = .ok (.getfield 210, 3) := by decide +kernel
theorem d_MD_call_65 : decode b_MD_call 65 = .ok (.imul, 1) := by decide +kernel
theorem d_MD_call_66 : decode b_MD_call 66 = .ok (.bipush 6, 2) := by decide +kernel
theorem d_MD_call_68 : decode b_MD_call 68 = .ok (.isub, 1) := by decide +kernel
theorem d_MD_call_69 : decode b_MD_call 69 = .ok (.iload 4, 2) := by decide +kernel
theorem d_MD_call_71 : decode b_MD_call 71 = .ok (.iastore, 1) := by decide +kernel
theorem d_MD_call_72 : decode b_MD_call 72 = .ok (.iload_n 2, 1) := by decide +kernel
theorem d_MD_call_73 : decode b_MD_call 73 = .ok (.iconst 2, 1) := by decide +kernel
theorem d_MD_call_74 : decode b_MD_call 74 = .ok (.if_icmp .ne 18, 3) := by decide +kernel
theorem d_MD_call_77 : decode b_MD_call 77 = .ok (.aload_n 0, 1) := by decide +kernel
theorem d_MD_call_78 : decode b_MD_call 78 = .ok (.getfield 84, 3) := by decide +kernel
theorem d_MD_call_81 : decode b_MD_call 81 = .ok (.bipush 6, 2) := by decide +kernel
theorem d_MD_call_83 : decode b_MD_call 83 = .ok (.aload_n 0, 1) := by decide +kernel
theorem d_MD_call_84 : decode b_MD_call 84 = .ok (.getfield 210, 3) := by decide +kernel
theorem d_MD_call_87 : decode b_MD_call 87 = .ok (.imul, 1) := by decide +kernel
theorem d_MD_call_88 : decode b_MD_call 88 = .ok (.iconst 5, 1) := by decide +kernel
theorem d_MD_call_89 : decode b_MD_call 89 = .ok (.isub, 1) := by decide +kernel
theorem d_MD_call_90 : decode b_MD_call 90 = .ok (.iload_n 3, 1) := by decide +kernel
theorem d_MD_call_91 : decode b_MD_call 91 = .ok (.iastore, 1) := by decide +kernel
theorem d_MD_call_92 : decode b_MD_call 92 = .ok (.return_, 1) := by decide +kernel
theorem d_MD_giveBack_0 : decode b_MD_giveBack 0 = .ok (.aload_n 0, 1) := by decide +kernel
theorem d_MD_giveBack_1 : decode b_MD_giveBack 1 = .ok (.dup, 1) := by decide +kernel
theorem d_MD_giveBack_2 : decode b_MD_giveBack 2 = .ok (.getfield 210, 3) := by decide +kernel
theorem d_MD_giveBack_5 : decode b_MD_giveBack 5 = .ok (.iconst 1, 1) := by decide +kernel
theorem d_MD_giveBack_6 : decode b_MD_giveBack 6 = .ok (.isub, 1) := by decide +kernel
theorem d_MD_giveBack_7 : decode b_MD_giveBack 7 = .ok (.putfield 210, 3) := by decide +kernel
theorem d_MD_giveBack_10 : decode b_MD_giveBack 10 = .ok (.aload_n 0, 1) := by decide +kernel
theorem d_MD_giveBack_11 : decode b_MD_giveBack 11 = .ok (.getfield 210, 3) := by decide +kernel
theorem d_MD_giveBack_14 : decode b_MD_giveBack 14 = .ok (.ifCond .ne 14, 3) := by decide +kernel
theorem d_MD_giveBack_17 : decode b_MD_giveBack 17 = .ok (.aload_n 0, 1) := by decide +kernel
theorem d_MD_giveBack_18 : decode b_MD_giveBack 18 = .ok (.iconst 0, 1) := by decide +kernel
theorem d_MD_giveBack_19 : decode b_MD_giveBack 19 = .ok (.putfield 216, 3) := by decide +kernel
theorem d_MD_giveBack_22 : decode b_MD_giveBack 22 = .ok (.aload_n 0, 1) := by decide +kernel
theorem d_MD_giveBack_23 : decode b_MD_giveBack 23 = .ok (.iload_n 1, 1) := by decide +kernel
theorem d_MD_giveBack_24 : decode b_MD_giveBack 24 = .ok (.putfield 219, 3) := by decide +kernel
theorem d_MD_giveBack_27 : decode b_MD_giveBack 27 = .ok (.return_, 1) := by decide +kernel
theorem d_MD_giveBack_28 : decode b_MD_giveBack 28 = .ok (.aload_n 0, 1) := by decide +kernel
theorem d_MD_giveBack_29 : decode b_MD_giveBack 29 = .ok (.iload_n 1, 1) := by decide +kernel
theorem d_MD_giveBack_30 : decode b_MD_giveBack 30 = .ok (.invokevirtual 213, 3) := by decide +kernel
theorem d_MD_giveBack_33 : decode b_MD_giveBack 33 = .ok (.aload_n 0, 1) := by decide +kernel
theorem d_MD_giveBack_34 : decode b_MD_giveBack 34 = .ok (.getfield 78, 3) := by decide +kernel
theorem d_MD_giveBack_37 : decode b_MD_giveBack 37 = .ok (.aload_n 0, 1) := by decide +kernel
theorem d_MD_giveBack_38 : decode b_MD_giveBack 38 = .ok (.getfield 210, 3) := by decide +kernel
theorem d_MD_giveBack_41 : decode b_MD_giveBack 41 = .ok (.iconst 1, 1) := by decide +kernel
theorem d_MD_giveBack_42 : decode b_MD_giveBack 42 = .ok (.isub, 1) := by decide +kernel
theorem d_MD_giveBack_43 : decode b_MD_giveBack 43 = .ok (.dup2, 1) := by decide +kernel
theorem d_MD_giveBack_44 : decode b_MD_giveBack 44 = .ok (.iaload, 1) := by decide +kernel
theorem d_MD_giveBack_45 : decode b_MD_giveBack 45 = .ok (.iconst 2, 1) := by decide +kernel
theorem d_MD_giveBack_46 : decode b_MD_giveBack 46 = .ok (.iadd, 1) := by decide +kernel
theorem d_MD_giveBack_47 : decode b_MD_giveBack 47 = .ok (.iastore, 1) := by decide +kernel
theorem d_MD_giveBack_48 : decode b_MD_giveBack 48 = .ok (.return_, 1) := by decide +kernel
theorem d_MD_plain_0 : decode b_MD_plain 0 = .ok (.aload_n 0, 1) := by decide +kernel
theorem d_MD_plain_1 : decode b_MD_plain 1 = .ok (.iload_n 1, 1) := by decide +kernel
theorem d_MD_plain_2 : decode b_MD_plain 2 = .ok (.aload_n 0, 1) := by decide +kernel
theorem d_MD_plain_3 : decode b_MD_plain 3 = .ok (.getfield 78, 3) := by decide +kernel
theorem d_MD_plain_6 : decode b_MD_plain 6 = .ok (.iload_n 2, 1) := by decide +kernel
theorem d_MD_plain_7 : decode b_MD_plain 7 = .ok (.iaload, 1) := by decide +kernel
theorem d_MD_plain_8 : decode b_MD_plain 8 = .ok (.iconst 1, 1) := by decide +kernel
theorem d_MD_plain_9 : decode b_MD_plain 9 = .ok (.iadd, 1) := by decide +kernel
theorem d_MD_plain_10 : decode b_MD_plain 10 = .ok (.aload_n 0, 1) := by decide +kernel
theorem d_MD_plain_11 : decode b_MD_plain 11 = .ok (.getfield 25, 3) := by decide +kernel
theorem d_MD_plain_14 : decode b_MD_plain 14 = .ok (.iload_n 1, 1) := by decide +kernel
theorem d_MD_plain_15 : decode b_MD_plain 15 = .ok (.iaload, 1) := by decide +kernel
theorem d_MD_plain_16 : decode b_MD_plain 16 = .ok (.if_icmp .ge 14, 3) := by decide +kernel
theorem d_MD_plain_19 : decode b_MD_plain 19 = .ok (.aload_n 0, 1) := by decide +kernel
theorem d_MD_plain_20 : decode b_MD_plain 20 = .ok (.getfield 78, 3) := by decide +kernel
theorem d_MD_plain_23 : decode b_MD_plain 23 = .ok (.iload_n 2, 1) := by decide +kernel
theorem d_MD_plain_24 : decode b_MD_plain 24 = .ok (.iaload, 1) := by decide +kernel
theorem d_MD_plain_25 : decode b_MD_plain 25 = .ok (.iconst 1, 1) := by decide +kernel
theorem d_MD_plain_26 : decode b_MD_plain 26 = .ok (.iadd, 1) := by decide +kernel
theorem d_MD_plain_27 : decode b_MD_plain 27 = .ok (.goto 4, 3) := by decide +kernel
theorem d_MD_plain_30 : decode b_MD_plain 30 = .ok (.iconst 0, 1) := by decide +kernel
theorem d_MD_plain_31 : decode b_MD_plain 31 = .ok (.invokevirtual 104, 3) := by decide +kernel
theorem d_MD_plain_34 : decode b_MD_plain 34 = .ok (.istore 4, 2) := by decide +kernel
theorem d_MD_plain_36 : decode b_MD_plain 36 = .ok (.iload_n 3, 1) := by decide +kernel
theorem d_MD_plain_37 : decode b_MD_plain 37 = .ok (.iconst 1, 1) := by decide +kernel
theorem d_MD_plain_38 : decode b_MD_plain 38 = .ok (.if_icmp .ne 20, 3) := by decide +kernel
theorem d_MD_plain_41 : decode b_MD_plain 41 = .ok (.aload_n 0, 1) := by decide +kernel
theorem d_MD_plain_42 : decode b_MD_plain 42 = .ok (.aload_n 0, 1) := by decide +kernel
theorem d_MD_plain_43 : decode b_MD_plain 43 = .ok (.iload_n 1, 1) := by decide +kernel
theorem d_MD_plain_44 : decode b_MD_plain 44 = .ok (.aload_n 0, 1) := by decide +kernel
theorem d_MD_plain_45 : decode b_MD_plain 45 = .ok (.getfield 78, 3) := by decide +kernel
theorem d_MD_plain_48 : decode b_MD_plain 48 = .ok (.iload_n 2, 1) := by decide +kernel
theorem d_MD_plain_49 : decode b_MD_plain 49 = .ok (.iaload, 1) := by decide +kernel
theorem d_MD_plain_50 : decode b_MD_plain 50 = .ok (.iconst 1, 1) := by decide +kernel
theorem d_MD_plain_51 : decode b_MD_plain 51 = .ok (.iadd, 1) := by decide +kernel
theorem d_MD_plain_52 : decode b_MD_plain 52 = .ok (.invokevirtual 108, 3) := by decide +kernel
theorem d_MD_plain_55 : decode b_MD_plain 55 = .ok (.invokevirtual 213, 3) := by decide +kernel
theorem d_MD_plain_58 : decode b_MD_plain 58 = .ok (.iload_n 3, 1) := by decide +kernel
theorem d_MD_plain_59 : decode b_MD_plain 59 = .ok (.iconst 2, 1) := by decide +kernel
theorem d_MD_plain_60 : decode b_MD_plain 60 = .ok (.if_icmp .ne 19, 3) := by decide +kernel
theorem d_MD_plain_63 : decode b_MD_plain 63 = .ok (.aload_n 0, 1) := by decide +kernel
theorem d_MD_plain_64 : decode b_MD_plain 64 = .ok (.aload_n 0, 1) := by decide +kernel
theorem d_MD_plain_65 : decode b_MD_plain 65 = .ok (.getfield 84, 3) := by decide +kernel
theorem d_MD_plain_68 : decode b_MD_plain 68 = .ok (.bipush 6, 2) := by decide +kernel
theorem d_MD_plain_70 : decode b_MD_plain 70 = .ok (.iload_n 2, 1) := by decide +kernel
theorem d_MD_plain_71 : decode b_MD_plain 71 = .ok (.imul, 1) := by decide +kernel
theorem d_MD_plain_72 : decode b_MD_plain 72 = .ok (.iload 4, 2) := by decide +kernel
theorem d_MD_plain_74 : decode b_MD_plain 74 = .ok (.iadd, 1) := by decide +kernel
theorem d_MD_plain_75 : decode b_MD_plain 75 = .ok (.iaload, 1) := by decide +kernel
theorem d_MD_plain_76 : decode b_MD_plain 76 = .ok (.invokevirtual 213, 3) := by decide +kernel
theorem d_MD_plain_79 : decode b_MD_plain 79 = .ok (.iload_n 3, 1) := by decide +kernel
theorem d_MD_plain_80 : decode b_MD_plain 80 = .ok (.iconst 3, 1) := by decide +kernel
theorem d_MD_plain_81 : decode b_MD_plain 81 = .ok (.if_icmp .ne 19, 3) := by decide +kernel
theorem d_MD_plain_84 : decode b_MD_plain 84 = .ok (.aload_n 0, 1) := by decide +kernel
theorem d_MD_plain_85 : decode b_MD_plain 85 = .ok (.getfield 84, 3) := by decide +kernel
theorem d_MD_plain_88 : decode b_MD_plain 88 = .ok (.bipush 6, 2) := by decide +kernel
theorem d_MD_plain_90 : decode b_MD_plain 90 = .ok (.iload_n 2, 1) := by decide +kernel
theorem d_MD_plain_91 : decode b_MD_plain 91 = .ok (.imul, 1) := by decide +kernel
theorem d_MD_plain_92 : decode b_MD_plain 92 = .ok (.iload 4, 2) := by decide +kernel
theorem d_MD_plain_94 : decode b_MD_plain 94 = .ok (.iadd, 1) := by decide +kernel
theorem d_MD_plain_95 : decode b_MD_plain 95 = .ok (.aload_n 0, 1) := by decide +kernel
theorem d_MD_plain_96 : decode b_MD_plain 96 = .ok (.invokevirtual 222, 3) := by decide +kernel
theorem d_MD_plain_99 : decode b_MD_plain 99 = .ok (.iastore, 1) := by decide +kernel
theorem d_MD_plain_100 : decode b_MD_plain 100 = .ok (.iload_n 3, 1) := by decide +kernel
theorem d_MD_plain_101 : decode b_MD_plain 101 = .ok (.bipush 8, 2) := by decide +kernel
theorem d_MD_plain_103 : decode b_MD_plain 103 = .ok (.if_icmp .ne 21, 3) := by decide +kernel
theorem d_MD_plain_106 : decode b_MD_plain 106 = .ok (.aload_n 0, 1) := by decide +kernel
theorem d_MD_plain_107 : decode b_MD_plain 107 = .ok (.invokevirtual 222, 3) := by decide +kernel
theorem d_MD_plain_110 : decode b_MD_plain 110 = .ok (.istore 5, 2) := by decide +kernel
theorem d_MD_plain_112 : decode b_MD_plain 112 = .ok (.aload_n 0, 1) := by decide +kernel
theorem d_MD_plain_113 : decode b_MD_plain 113 = .ok (.iload 5, 2) := by decide +kernel
theorem d_MD_plain_115 : decode b_MD_plain 115 = .ok (.invokevirtual 213, 3) := by decide +kernel
theorem d_MD_plain_118 : decode b_MD_plain 118 = .ok (.aload_n 0, 1) := by decide +kernel
theorem d_MD_plain_119 : decode b_MD_plain 119 = .ok (.iload 5, 2) := by decide +kernel
theorem d_MD_plain_121 : decode b_MD_plain 121 = .ok (.invokevirtual 213, 3) := by decide +kernel
theorem d_MD_plain_124 : decode b_MD_plain 124 = .ok (.iload_n 3, 1) := by decide +kernel
theorem d_MD_plain_125 : decode b_MD_plain 125 = .ok (.bipush 9, 2) := by decide +kernel
theorem d_MD_plain_127 : decode b_MD_plain 127 = .ok (.if_icmp .ne 8, 3) := by decide +kernel
theorem d_MD_plain_130 : decode b_MD_plain 130 = .ok (.aload_n 0, 1) := by decide +kernel
theorem d_MD_plain_131 : decode b_MD_plain 131 = .ok (.invokevirtual 222, 3) := by decide +kernel
theorem d_MD_plain_134 : decode b_MD_plain 134 = .ok (.pop, 1) := by decide +kernel
theorem d_MD_plain_135 : decode b_MD_plain 135 = .ok (.iload_n 3, 1) := by decide +kernel
theorem d_MD_plain_136 : decode b_MD_plain 136 = .ok (.bipush 16, 2) := by decide +kernel
theorem d_MD_plain_138 : decode b_MD_plain 138 = .ok (.if_icmp .ne 31, 3) := by decide +kernel
theorem d_MD_plain_141 : decode b_MD_plain 141 = .ok (.aload_n 0, 1) := by decide +kernel
theorem d_MD_plain_142 : decode b_MD_plain 142 = .ok (.getfield 84, 3) := by decide +kernel
theorem d_MD_plain_145 : decode b_MD_plain 145 = .ok (.bipush 6, 2) := by decide +kernel
theorem d_MD_plain_147 : decode b_MD_plain 147 = .ok (.iload_n 2, 1) := by decide +kernel
theorem d_MD_plain_148 : decode b_MD_plain 148 = .ok (.imul, 1) := by decide +kernel
theorem d_MD_plain_149 : decode b_MD_plain 149 = .ok (.iload 4, 2) := by decide +kernel
theorem d_MD_plain_151 : decode b_MD_plain 151 = .ok (.iadd, 1) := by decide +kernel
theorem d_MD_plain_152 : decode b_MD_plain 152 = .ok (.dup2, 1) := by decide +kernel
theorem d_MD_plain_153 : decode b_MD_plain 153 = .ok (.iaload, 1) := by decide +kernel
theorem d_MD_plain_154 : decode b_MD_plain 154 = .ok (.aload_n 0, 1) := by decide +kernel
theorem d_MD_plain_155 : decode b_MD_plain 155 = .ok (.iload_n 1, 1) := by decide +kernel
theorem d_MD_plain_156 : decode b_MD_plain 156 = .ok (.aload_n 0, 1) := by decide +kernel
theorem d_MD_plain_157 : decode b_MD_plain 157 = .ok (.getfield 78, 3) := by decide +kernel
theorem d_MD_plain_160 : decode b_MD_plain 160 = .ok (.iload_n 2, 1) := by decide +kernel
theorem d_MD_plain_161 : decode b_MD_plain 161 = .ok (.iaload, 1) := by decide +kernel
theorem d_MD_plain_162 : decode b_MD_plain 162 = .ok (.iconst 2, 1) := by decide +kernel
theorem d_MD_plain_163 : decode b_MD_plain 163 = .ok (.iadd, 1) := by decide +kernel
theorem d_MD_plain_164 : decode b_MD_plain 164 = .ok (.invokevirtual 108, 3) := by decide +kernel
theorem d_MD_plain_167 : decode b_MD_plain 167 = .ok (.iadd, 1) := by decide +kernel
theorem d_MD_plain_168 : decode b_MD_plain 168 = .ok (.iastore, 1) := by decide +kernel
theorem d_MD_plain_169 : decode b_MD_plain 169 = .ok (.iload_n 3, 1) := by decide +kernel
theorem d_MD_plain_170 : decode b_MD_plain 170 = .ok (.bipush 30, 2) := by decide +kernel
theorem d_MD_plain_172 : decode b_MD_plain 172 = .ok (.if_icmp .ne 40, 3) := by decide +kernel
theorem d_MD_plain_175 : decode b_MD_plain 175 = .ok (.aload_n 0, 1) := by decide +kernel
theorem d_MD_plain_176 : decode b_MD_plain 176 = .ok (.getfield 232, 3) := by decide +kernel
theorem d_MD_plain_179 : decode b_MD_plain 179 = .ok (.bipush 100, 2) := by decide +kernel
theorem d_MD_plain_181 : decode b_MD_plain 181 = .ok (.if_icmp .ge 21, 3) := by decide +kernel
theorem d_MD_plain_184 : decode b_MD_plain 184 = .ok (.aload_n 0, 1) := by decide +kernel
theorem d_MD_plain_185 : decode b_MD_plain 185 = .ok (.getfield 90, 3) := by decide +kernel
theorem d_MD_plain_188 : decode b_MD_plain 188 = .ok (.aload_n 0, 1) := by decide +kernel
theorem d_MD_plain_189 : decode b_MD_plain 189 = .ok (.getfield 232, 3) := by decide +kernel
theorem d_MD_plain_192 : decode b_MD_plain 192 = .ok (.bipush 16, 2) := by decide +kernel
theorem d_MD_plain_194 : decode b_MD_plain 194 = .ok (.iload_n 1, 1) := by decide +kernel
theorem d_MD_plain_195 : decode b_MD_plain 195 = .ok (.iconst 4, 1) := by decide +kernel
theorem d_MD_plain_196 : decode b_MD_plain 196 = .ok (.irem, 1) := by decide +kernel
theorem d_MD_plain_197 : decode b_MD_plain 197 = .ok (.imul, 1) := by decide +kernel
theorem d_MD_plain_198 : decode b_MD_plain 198 = .ok (.iload 4, 2) := by decide +kernel
theorem d_MD_plain_200 : decode b_MD_plain 200 = .ok (.iadd, 1) := by decide +kernel
theorem d_MD_plain_201 : decode b_MD_plain 201 = .ok (.iastore, 1) := by decide +kernel
theorem d_MD_plain_202 : decode b_MD_plain 202 = .ok (.aload_n 0, 1) := by decide +kernel
theorem d_MD_plain_203 : decode b_MD_plain 203 = .ok (.dup, 1) := by decide +kernel
theorem d_MD_plain_204 : decode b_MD_plain 204 = .ok (.getfield 232, 3) := by decide +kernel
theorem d_MD_plain_207 : decode b_MD_plain 207 = .ok (.iconst 1, 1) := by decide +kernel
theorem d_MD_plain_208 : decode b_MD_plain 208 = .ok (.iadd, 1) := by decide +kernel
theorem d_MD_plain_209 : decode b_MD_plain 209 = .ok (.putfield 232, 3) := by decide +kernel
theorem d_MD_plain_212 : decode b_MD_plain 212 = .ok (.iload_n 3, 1) := by decide +kernel
theorem d_MD_plain_213 : decode b_MD_plain 213 = .ok (.bipush 31, 2) := by decide +kernel
theorem d_MD_plain_215 : decode b_MD_plain 215 = .ok (.if_icmp .ne 22, 3) := by decide +kernel
theorem d_MD_plain_218 : decode b_MD_plain 218 = .ok (.aload_n 0, 1) := by decide +kernel
theorem d_MD_plain_219 : decode b_MD_plain 219 = .ok (.getfield 93, 3) := by decide +kernel
theorem d_MD_plain_222 : decode b_MD_plain 222 = .ok (.sipush 256, 3) := by decide +kernel
theorem d_MD_plain_225 : decode b_MD_plain 225 = .ok (.iload_n 1, 1) := by decide +kernel
theorem d_MD_plain_226 : decode b_MD_plain 226 = .ok (.iconst 4, 1) := by decide +kernel
theorem d_MD_plain_227 : decode b_MD_plain 227 = .ok (.irem, 1) := by decide +kernel
theorem d_MD_plain_228 : decode b_MD_plain 228 = .ok (.imul, 1) := by decide +kernel
theorem d_MD_plain_229 : decode b_MD_plain 229 = .ok (.iload 4, 2) := by decide +kernel
theorem d_MD_plain_231 : decode b_MD_plain 231 = .ok (.iadd, 1) := by decide +kernel
theorem d_MD_plain_232 : decode b_MD_plain 232 = .ok (.dup2, 1) := by decide +kernel
theorem d_MD_plain_233 : decode b_MD_plain 233 = .ok (.iaload, 1) := by decide +kernel
theorem d_MD_plain_234 : decode b_MD_plain 234 = .ok (.iconst 1, 1) := by decide +kernel
theorem d_MD_plain_235 : decode b_MD_plain 235 = .ok (.iadd, 1) := by decide +kernel
theorem d_MD_plain_236 : decode b_MD_plain 236 = .ok (.iastore, 1) := by decide +kernel
theorem d_MD_plain_237 : decode b_MD_plain 237 = .ok (.aload_n 0, 1) := by decide +kernel
theorem d_MD_plain_238 : decode b_MD_plain 238 = .ok (.getfield 78, 3) := by decide +kernel
theorem d_MD_plain_241 : decode b_MD_plain 241 = .ok (.iload_n 2, 1) := by decide +kernel
theorem d_MD_plain_242 : decode b_MD_plain 242 = .ok (.dup2, 1) := by decide +kernel
theorem d_MD_plain_243 : decode b_MD_plain 243 = .ok (.iaload, 1) := by decide +kernel
theorem d_MD_plain_244 : decode b_MD_plain 244 = .ok (.iload_n 3, 1) := by decide +kernel
theorem d_MD_plain_245 : decode b_MD_plain 245 = .ok (.invokestatic 111, 3) := by decide +kernel
theorem d_MD_plain_248 : decode b_MD_plain 248 = .ok (.iadd, 1) := by decide +kernel
theorem d_MD_plain_249 : decode b_MD_plain 249 = .ok (.iastore, 1) := by decide +kernel
theorem d_MD_plain_250 : decode b_MD_plain 250 = .ok (.return_, 1) := by decide +kernel
def lp_MD_weave_36 (fu : Nat) (c2_36 : Int) (k171 : xw_S → Int → Int → Option (xw_S × Int)) : Nat → xw_S → Int → Int → Option (xw_S × Int)
  | 0, _, _, _ => none
  | n + 1, s11, i1_36, i3_36 =>
    xw_grd (xw_r i3_36) (xw_if (3 ≤ i3_36) (k171 s11 i1_36 c2_36)
     (xw_jn (fun (s31 : xw_S) (i1_102 : Int) (i3_102 : Int) (t0_102 : Int) => xw_jn (fun (s40 : xw_S) (i1_125 : Int) (i3_125 : Int) (i4_125 : Int) (t0_125 : Int) => xw_jn (fun (s46 : xw_S) (i1_151 : Int) (i3_151 : Int) (i5_151 : Int) (t0_151 : Int) (t1_151 : Int) => xw_grd ((0 ≤ t1_151 ∧ t1_151 < ((12 : Nat) : Int)) ∧ (t0_151 = 0 ∨ t0_151 = 1)) (xw_let (xw_st s46 13 (t1_151).toNat t0_151) (fun s48 => xw_jn (fun (s52 : xw_S) (i3_164 : Int) (t0_164 : Int) => xw_let (i3_164 + 1) (fun v53 => lp_MD_weave_36 fu c2_36 k171 n s52 t0_164 v53))
     (fun (j164 : xw_S → Int → Int → Option (xw_S × Int)) => xw_grd (xw_r i5_151) (xw_if (i5_151 = 0) (j164 s48 i3_151 i1_151)
     (j164 s48 i3_151 (i1_151 + 1)))))))
     (fun (j151 : xw_S → Int → Int → Int → Int → Int → Option (xw_S × Int)) => xw_jn (fun (s45 : xw_S) (i1_150 : Int) (i3_150 : Int) (i5_150 : Int) (t0_150 : Int) => j151 s45 i1_150 i3_150 i5_150 0 t0_150)
     (fun (j150 : xw_S → Int → Int → Int → Int → Option (xw_S × Int)) => xw_grd (xw_r i4_125) (xw_if (i4_125 = 0) (j150 s40 i1_125 i3_125 t0_125 ((3 * c2_36) + i3_125))
     (xw_grd (xw_r t0_125) (xw_if (t0_125 = 0) (j151 s40 i1_125 i3_125 t0_125 1 ((3 * c2_36) + i3_125))
     (j150 s40 i1_125 i3_125 t0_125 ((3 * c2_36) + i3_125))))))))
     (fun (j125 : xw_S → Int → Int → Int → Int → Option (xw_S × Int)) => xw_jn (fun (s39 : xw_S) (i1_124 : Int) (i3_124 : Int) (i4_124 : Int) => j125 s39 i1_124 i3_124 i4_124 0)
     (fun (j124 : xw_S → Int → Int → Int → Option (xw_S × Int)) => xw_grd (xw_r t0_102) (xw_if (t0_102 = 0) (j124 s31 i1_102 i3_102 t0_102)
     (xw_bn2 (f_MD_transform fu s31 (4 + c2_36) i3_102) (fun s34 r36 => xw_grd (xw_r r36) (xw_if (r36 = 0) (j124 s34 i1_102 i3_102 t0_102)
     (j125 s34 i1_102 i3_102 t0_102 1))))))))
     (fun (j102 : xw_S → Int → Int → Int → Option (xw_S × Int)) => xw_jn (fun (s30 : xw_S) (i1_101 : Int) (i3_101 : Int) => j102 s30 i1_101 i3_101 0)
     (fun (j101 : xw_S → Int → Int → Option (xw_S × Int)) => xw_grd (xw_r (s11.1 0 15)) (xw_if (s11.1 0 15 ≤ i3_36) (j101 s11 i1_36 i3_36)
     (xw_grd ((0 ≤ i3_36 ∧ i3_36 < ((3 : Nat) : Int))) (xw_jn (fun (s22 : xw_S) (i1_73 : Int) (i3_73 : Int) => xw_grd ((0 ≤ i3_73 ∧ i3_73 < ((3 : Nat) : Int))) (xw_jn (fun (s29 : xw_S) (i1_97 : Int) (i3_97 : Int) => j102 s29 i1_97 i3_97 1)
     (fun (j97 : xw_S → Int → Int → Option (xw_S × Int)) => xw_grd (xw_r (s22.1 12 (i3_73).toNat)) (xw_if (s22.1 12 (i3_73).toNat < 0) (j97 s22 i1_73 i3_73)
     (xw_grd ((0 ≤ c2_36 ∧ c2_36 < ((12 : Nat) : Int))) (xw_grd (xw_r (s22.1 3 (c2_36).toNat)) (xw_if (s22.1 12 (i3_73).toNat = s22.1 3 (c2_36).toNat) (j97 s22 i1_73 i3_73)
     (j101 s22 i1_73 i3_73))))))))
     (fun (j73 : xw_S → Int → Int → Option (xw_S × Int)) => xw_grd (xw_r (s11.1 11 (i3_36).toNat)) (xw_if (s11.1 11 (i3_36).toNat = 0) (j73 s11 i1_36 i3_36)
     (xw_grd ((0 ≤ c2_36 ∧ c2_36 < ((12 : Nat) : Int))) (xw_grd (xw_r (s11.1 2 (c2_36).toNat)) (xw_if (s11.1 11 (i3_36).toNat = s11.1 2 (c2_36).toNat) (j73 s11 i1_36 i3_36)
     (j101 s11 i1_36 i3_36)))))))))))))
def lp_MD_weave_18 (fu : Nat) (k177 : xw_S → Int → Option (xw_S × Int)) : Nat → xw_S → Int → Int → Option (xw_S × Int)
  | 0, _, _, _ => none
  | n + 1, s5, i1_18, i2_18 =>
    xw_grd (xw_r i2_18 ∧ xw_r (s5.1 0 10)) (xw_if (s5.1 0 10 ≤ i2_18) (k177 s5 i1_18)
     (xw_bnd (f_MD_copy fu s5 i2_18 (4 + i2_18)) (fun s8 => xw_jn (fun (s55 : xw_S) (i1_171 : Int) (i2_171 : Int) => xw_let (i2_171 + 1) (fun v56 => lp_MD_weave_18 fu k177 n s55 i1_171 v56))
     (fun (k171 : xw_S → Int → Int → Option (xw_S × Int)) => lp_MD_weave_36 fu i2_18 k171 fu s8 i1_18 0))))
def f_MD_weave (fu : Nat) (s0 : xw_S) : Option (xw_S × Int) :=
 xw_grd (xw_r (s0.1 0 10)) (xw_if (s0.1 0 10 = 0) (some (s0, -1))
 (xw_let (xw_st s0 0 12 1) (fun s3 => xw_jn (fun (s58 : xw_S) (i1_177 : Int) => some (s58, i1_177))
 (fun (k177 : xw_S → Int → Option (xw_S × Int)) => lp_MD_weave_18 fu k177 fu s3 0 0))))
set_option maxRecDepth 100000 in
set_option maxHeartbeats 4000000 in
theorem c_MD_weave (l : Launch) (D : va_G) (A : Nat → Prop) (ad : Nat → Nat) (cs : Nat → ClassId) (Z : va_W) (tt : Nat → Nat) (fu : Nat) (s0 sZ : xw_S) (r0 : Int) (h : f_MD_weave fu s0 = some (sZ, r0)) : Met l y_MD_weave w_MD_weave ({ frames := 4, cells := 0, slots := 0, locals := 96 }) (va_Pc [.ref (ad 0)] (xw_H D vwCl A kdR 29 ad cs Z tt s0)) (va_Qi (fun r u => r = xw_i r0 ∧ u = sZ) (xw_H D vwCl A kdR 29 ad cs Z tt) A) 0 0 A := by
  refine Met.ofW (cc := b_MD_weave) (maxL := 6) (ret := (some .int)) (by decide) rfl ?_
  intro p e s m args below meth c s₁ B hml hv
  obtain ⟨rfl, hP, hK, hD, hX⟩ := hv
  have hx := B.exec
  have hb := B.bytes
  have hr := B.returns
  have hts0 := atoms_spec (ws := w_MD_weave) B.pre
  have hts := fun w (hw : w ∈ wAll) => hts0 w (List.mem_cons_of_mem _ hw)
  have hown : s.vm.findClass "AdviceWeaverModel" = some m.cls := findClass_of_methodNamed B.named
  have hlk := B.notSynchronized
  clear hts0 B
  have hS : va_S A s.heap s.heap [] := va_S.rf
  have hl := lv_entry [.ref (ad 0)] (n := 6) (Nat.le_of_ble_eq_true rfl)
  rw [lg_entry_eq]
  generalize (lg_sl [.ref (ad 0)] ++ List.replicate (6 - (lg_sl [.ref (ad 0)]).length) Slot.unset).toArray = ls at hl ⊢
  have hl : lv_has ls 6 [(0, .ref (ad 0))] := hl
  have hlp36 : ∀ (c2_36 : Int) (k171 : xw_S → Int → Int → Option (xw_S × Int)) (hk171 : ∀ (sq : xw_S) (i1_171 : Int) (i2_171 : Int), k171 sq i1_171 i2_171 = some (sZ, r0) → ∀ (H : Heap) (locs : List Loc) (ls : Array Slot), va_P D vwCl (xw_ws kdR 29 ad cs Z sq) H → va_S A s.heap H locs → lv_has ls 6 [(0, .ref (ad 0)), (1, .int (xw_i i1_171)), (2, .int (xw_i i2_171))] → W p l e (headSpec w_MD_weave ({ frames := 4, cells := 0, slots := 0, locals := 96 })).room s m [.ref (ad 0)].toArray below meth c H locs 0 0 (MQ below (va_Qi (fun r u => r = xw_i r0 ∧ u = sZ) (xw_H D vwCl A kdR 29 ad cs Z tt) A) [.ref (ad 0)].toArray s 0 0 A) (F0 m 171 ls [])) (n : Nat), ∀ (sq : xw_S) (i1_36 : Int) (i3_36 : Int), lp_MD_weave_36 fu c2_36 k171 n sq i1_36 i3_36 = some (sZ, r0) → ∀ (H : Heap) (locs : List Loc) (ls : Array Slot), va_P D vwCl (xw_ws kdR 29 ad cs Z sq) H → va_S A s.heap H locs → lv_has ls 6 [(0, .ref (ad 0)), (1, .int (xw_i i1_36)), (2, .int (xw_i c2_36)), (3, .int (xw_i i3_36))] → W p l e (headSpec w_MD_weave ({ frames := 4, cells := 0, slots := 0, locals := 96 })).room s m [.ref (ad 0)].toArray below meth c H locs 0 0 (MQ below (va_Qi (fun r u => r = xw_i r0 ∧ u = sZ) (xw_H D vwCl A kdR 29 ad cs Z tt) A) [.ref (ad 0)].toArray s 0 0 A) (F0 m 36 ls []) := by
    intro c2_36 k171 hk171 n
    induction n with
    | zero =>
      intro sq i1_36 i3_36 h
      cases (show (none : Option (xw_S × Int)) = some (sZ, r0) from h)
    | succ n ih36 =>
      intro s11 i1_36 i3_36 h H locs ls hP hS hl
      unfold lp_MD_weave_36 at h
      refine lv_iload_n hx hb d_MD_weave_36 rfl (lv_at hl 3 rfl) ?_
      refine lv_iconst (v := xw_i 3) hx hb d_MD_weave_37 rfl ?_
      obtain ⟨hg12, h⟩ := xw_grdI h
      refine xw_icmp_ge (tgt := 171) hx hb hg12 (by decide) d_MD_weave_38 (by decide) (fun hc13 => ?_) (fun hc13 => ?_)
      · replace h := xw_ifT hc13 h
        exact hk171 s11 i1_36 c2_36 h _ _ _ hP hS (lv_sub hl [0, 1, 2] rfl)
      · replace h := xw_ifF hc13 h
        refine lv_iload_n hx hb d_MD_weave_41 rfl (lv_at hl 3 rfl) ?_
        refine lv_aload_n hx hb d_MD_weave_42 rfl (lv_at hl 0 rfl) ?_
        refine xw_getI (C := "AdviceWeaverModel") (T := T_MD) hx hb hts hin_MD hown hK hP (by decide) kr_MD (by decide) rfl 15 (by decide) (hts _ hw_524) (fun _ h9 => h9) rfl d_MD_weave_43 ?_
        refine xw_jnI (fun j => ∀ (sq : xw_S) (i1_102 : Int) (i3_102 : Int) (t0_102 : Int), j sq i1_102 i3_102 t0_102 = some (sZ, r0) → ∀ (H : Heap) (locs : List Loc) (ls : Array Slot), va_P D vwCl (xw_ws kdR 29 ad cs Z sq) H → va_S A s.heap H locs → lv_has ls 6 [(0, .ref (ad 0)), (1, .int (xw_i i1_102)), (2, .int (xw_i c2_36)), (3, .int (xw_i i3_102))] → W p l e (headSpec w_MD_weave ({ frames := 4, cells := 0, slots := 0, locals := 96 })).room s m [.ref (ad 0)].toArray below meth c H locs 0 0 (MQ below (va_Qi (fun r u => r = xw_i r0 ∧ u = sZ) (xw_H D vwCl A kdR 29 ad cs Z tt) A) [.ref (ad 0)].toArray s 0 0 A) (F0 m 102 ls [.int (xw_i t0_102)])) h ?_ ?_
        · intro s31 i1_102 i3_102 t0_102 h H locs ls hP hS hl
          refine lv_istore hx hb d_MD_weave_102 hl (by decide) rfl (fun ls hl => ?_)
          refine lv_iload hx hb d_MD_weave_104 (lv_at hl 0 rfl) ?_
          refine xw_jnI (fun j => ∀ (sq : xw_S) (i1_125 : Int) (i3_125 : Int) (i4_125 : Int) (t0_125 : Int), j sq i1_125 i3_125 i4_125 t0_125 = some (sZ, r0) → ∀ (H : Heap) (locs : List Loc) (ls : Array Slot), va_P D vwCl (xw_ws kdR 29 ad cs Z sq) H → va_S A s.heap H locs → lv_has ls 6 [(0, .ref (ad 0)), (1, .int (xw_i i1_125)), (2, .int (xw_i c2_36)), (3, .int (xw_i i3_125)), (4, .int (xw_i i4_125))] → W p l e (headSpec w_MD_weave ({ frames := 4, cells := 0, slots := 0, locals := 96 })).room s m [.ref (ad 0)].toArray below meth c H locs 0 0 (MQ below (va_Qi (fun r u => r = xw_i r0 ∧ u = sZ) (xw_H D vwCl A kdR 29 ad cs Z tt) A) [.ref (ad 0)].toArray s 0 0 A) (F0 m 125 ls [.int (xw_i t0_125)])) h ?_ ?_
          · intro s40 i1_125 i3_125 i4_125 t0_125 h H locs ls hP hS hl
            refine lv_istore hx hb d_MD_weave_125 hl (by decide) rfl (fun ls hl => ?_)
            refine lv_aload_n hx hb d_MD_weave_127 rfl (lv_at hl 1 rfl) ?_
            refine xw_getR (C := "AdviceWeaverModel") (T := T_MD) hx hb hts hin_MD hown hK hP (by decide) kr_MD (by decide) rfl 19 (by decide) (hts _ hw_523) (fun _ h9 => h9) rfl d_MD_weave_128 ?_
            refine lv_iconst (v := xw_i 3) hx hb d_MD_weave_131 rfl ?_
            refine lv_iload_n hx hb d_MD_weave_132 rfl (lv_at hl 3 rfl) ?_
            refine xw_imul hx hb d_MD_weave_133 ?_
            refine lv_iload_n hx hb d_MD_weave_134 rfl (lv_at hl 4 rfl) ?_
            refine xw_iadd hx hb d_MD_weave_135 ?_
            refine lv_iload hx hb d_MD_weave_136 (lv_at hl 5 rfl) ?_
            refine xw_jnI (fun j => ∀ (sq : xw_S) (i1_151 : Int) (i3_151 : Int) (i5_151 : Int) (t0_151 : Int) (t1_151 : Int), j sq i1_151 i3_151 i5_151 t0_151 t1_151 = some (sZ, r0) → ∀ (H : Heap) (locs : List Loc) (ls : Array Slot), va_P D vwCl (xw_ws kdR 29 ad cs Z sq) H → va_S A s.heap H locs → lv_has ls 6 [(0, .ref (ad 0)), (1, .int (xw_i i1_151)), (2, .int (xw_i c2_36)), (3, .int (xw_i i3_151)), (5, .int (xw_i i5_151))] → W p l e (headSpec w_MD_weave ({ frames := 4, cells := 0, slots := 0, locals := 96 })).room s m [.ref (ad 0)].toArray below meth c H locs 0 0 (MQ below (va_Qi (fun r u => r = xw_i r0 ∧ u = sZ) (xw_H D vwCl A kdR 29 ad cs Z tt) A) [.ref (ad 0)].toArray s 0 0 A) (F0 m 151 ls [.int (xw_i t0_151), .int (xw_i t1_151), .ref (ad 13)])) h ?_ ?_
            · intro s46 i1_151 i3_151 i5_151 t0_151 t1_151 h H locs ls hP hS hl
              obtain ⟨hg47, h⟩ := xw_grdI h
              refine xw_zast hx hb hK hP hD hS (by decide) kr_m_fails (by decide) hg47.1 hg47.2 d_MD_weave_151 (fun s48 e49 H locs hP hS => ?_)
              replace h := xw_letI e49 h
              refine lv_iload hx hb d_MD_weave_152 (lv_at hl 4 rfl) ?_
              refine xw_jnI (fun j => ∀ (sq : xw_S) (i3_164 : Int) (t0_164 : Int), j sq i3_164 t0_164 = some (sZ, r0) → ∀ (H : Heap) (locs : List Loc) (ls : Array Slot), va_P D vwCl (xw_ws kdR 29 ad cs Z sq) H → va_S A s.heap H locs → lv_has ls 6 [(0, .ref (ad 0)), (2, .int (xw_i c2_36)), (3, .int (xw_i i3_164))] → W p l e (headSpec w_MD_weave ({ frames := 4, cells := 0, slots := 0, locals := 96 })).room s m [.ref (ad 0)].toArray below meth c H locs 0 0 (MQ below (va_Qi (fun r u => r = xw_i r0 ∧ u = sZ) (xw_H D vwCl A kdR 29 ad cs Z tt) A) [.ref (ad 0)].toArray s 0 0 A) (F0 m 164 ls [.int (xw_i t0_164)])) h ?_ ?_
              · intro s52 i3_164 t0_164 h H locs ls hP hS hl
                refine lv_istore_n hx hb d_MD_weave_164 rfl hl (by decide) rfl (fun ls hl => ?_)
                obtain ⟨v53, e54⟩ : ∃ z, z = i3_164 + 1 := ⟨_, rfl⟩
                replace h := xw_letI e54 h
                refine xw_iinc (lv' := [(3, .int (xw_i v53)), (1, .int (xw_i t0_164)), (0, .ref (ad 0)), (2, .int (xw_i c2_36))]) hx hb d_MD_weave_165 hl (k := 3) rfl (by decide) (by rw [e54]; rfl) (fun ls hl => ?_)
                refine lv_goto (tgt := 36) hx hb d_MD_weave_168 (by decide) ?_
                exact ih36 s52 t0_164 v53 h _ _ _ hP hS (lv_sub hl [2, 1, 3, 0] rfl)
              · intro j164 hj164 h
                obtain ⟨hg50, h⟩ := xw_grdI h
                refine xw_if_eq (tgt := 163) hx hb hg50 d_MD_weave_154 (by decide) (fun hc51 => ?_) (fun hc51 => ?_)
                · replace h := xw_ifT hc51 h
                  refine lv_iload_n hx hb d_MD_weave_163 rfl (lv_at hl 1 rfl) ?_
                  exact hj164 s48 i3_151 i1_151 h _ _ _ hP hS (lv_sub hl [0, 2, 3] rfl)
                · replace h := xw_ifF hc51 h
                  refine lv_iload_n hx hb d_MD_weave_157 rfl (lv_at hl 1 rfl) ?_
                  refine lv_iconst (v := xw_i 1) hx hb d_MD_weave_158 rfl ?_
                  refine xw_iadd hx hb d_MD_weave_159 ?_
                  refine lv_goto (tgt := 164) hx hb d_MD_weave_160 (by decide) ?_
                  exact hj164 s48 i3_151 (i1_151 + 1) h _ _ _ hP hS (lv_sub hl [0, 2, 3] rfl)
            · intro j151 hj151 h
              refine xw_jnI (fun j => ∀ (sq : xw_S) (i1_150 : Int) (i3_150 : Int) (i5_150 : Int) (t0_150 : Int), j sq i1_150 i3_150 i5_150 t0_150 = some (sZ, r0) → ∀ (H : Heap) (locs : List Loc) (ls : Array Slot), va_P D vwCl (xw_ws kdR 29 ad cs Z sq) H → va_S A s.heap H locs → lv_has ls 6 [(0, .ref (ad 0)), (1, .int (xw_i i1_150)), (2, .int (xw_i c2_36)), (3, .int (xw_i i3_150)), (5, .int (xw_i i5_150))] → W p l e (headSpec w_MD_weave ({ frames := 4, cells := 0, slots := 0, locals := 96 })).room s m [.ref (ad 0)].toArray below meth c H locs 0 0 (MQ below (va_Qi (fun r u => r = xw_i r0 ∧ u = sZ) (xw_H D vwCl A kdR 29 ad cs Z tt) A) [.ref (ad 0)].toArray s 0 0 A) (F0 m 150 ls [.int (xw_i t0_150), .ref (ad 13)])) h ?_ ?_
              · intro s45 i1_150 i3_150 i5_150 t0_150 h H locs ls hP hS hl
                refine lv_iconst (v := xw_i 0) hx hb d_MD_weave_150 rfl ?_
                exact hj151 s45 i1_150 i3_150 i5_150 0 t0_150 h _ _ _ hP hS (lv_sub hl [0, 1, 2, 3, 4] rfl)
              · intro j150 hj150 h
                obtain ⟨hg41, h⟩ := xw_grdI h
                refine xw_if_eq (tgt := 150) hx hb hg41 d_MD_weave_138 (by decide) (fun hc42 => ?_) (fun hc42 => ?_)
                · replace h := xw_ifT hc42 h
                  exact hj150 s40 i1_125 i3_125 t0_125 ((3 * c2_36) + i3_125) h _ _ _ hP hS (lv_sub hl [1, 2, 3, 4, 0] rfl)
                · replace h := xw_ifF hc42 h
                  refine lv_iload hx hb d_MD_weave_141 (lv_at hl 0 rfl) ?_
                  obtain ⟨hg43, h⟩ := xw_grdI h
                  refine xw_if_ne (tgt := 150) hx hb hg43 d_MD_weave_143 (by decide) (fun hc44 => ?_) (fun hc44 => ?_)
                  · replace h := xw_ifF hc44 h
                    exact hj150 s40 i1_125 i3_125 t0_125 ((3 * c2_36) + i3_125) h _ _ _ hP hS (lv_sub hl [1, 2, 3, 4, 0] rfl)
                  · replace h := xw_ifT hc44 h
                    refine lv_iconst (v := xw_i 1) hx hb d_MD_weave_146 rfl ?_
                    refine lv_goto (tgt := 151) hx hb d_MD_weave_147 (by decide) ?_
                    exact hj151 s40 i1_125 i3_125 t0_125 1 ((3 * c2_36) + i3_125) h _ _ _ hP hS (lv_sub hl [1, 2, 3, 4, 0] rfl)
          · intro j125 hj125 h
            refine xw_jnI (fun j => ∀ (sq : xw_S) (i1_124 : Int) (i3_124 : Int) (i4_124 : Int), j sq i1_124 i3_124 i4_124 = some (sZ, r0) → ∀ (H : Heap) (locs : List Loc) (ls : Array Slot), va_P D vwCl (xw_ws kdR 29 ad cs Z sq) H → va_S A s.heap H locs → lv_has ls 6 [(0, .ref (ad 0)), (1, .int (xw_i i1_124)), (2, .int (xw_i c2_36)), (3, .int (xw_i i3_124)), (4, .int (xw_i i4_124))] → W p l e (headSpec w_MD_weave ({ frames := 4, cells := 0, slots := 0, locals := 96 })).room s m [.ref (ad 0)].toArray below meth c H locs 0 0 (MQ below (va_Qi (fun r u => r = xw_i r0 ∧ u = sZ) (xw_H D vwCl A kdR 29 ad cs Z tt) A) [.ref (ad 0)].toArray s 0 0 A) (F0 m 124 ls [])) h ?_ ?_
            · intro s39 i1_124 i3_124 i4_124 h H locs ls hP hS hl
              refine lv_iconst (v := xw_i 0) hx hb d_MD_weave_124 rfl ?_
              exact hj125 s39 i1_124 i3_124 i4_124 0 h _ _ _ hP hS (lv_sub hl [0, 1, 2, 3, 4] rfl)
            · intro j124 hj124 h
              obtain ⟨hg32, h⟩ := xw_grdI h
              refine xw_if_eq (tgt := 124) hx hb hg32 d_MD_weave_106 (by decide) (fun hc33 => ?_) (fun hc33 => ?_)
              · replace h := xw_ifT hc33 h
                exact hj124 s31 i1_102 i3_102 t0_102 h _ _ _ hP hS (lv_sub hl [1, 2, 3, 4, 0] rfl)
              · replace h := xw_ifF hc33 h
                refine lv_aload_n hx hb d_MD_weave_109 rfl (lv_at hl 1 rfl) ?_
                refine lv_iconst (v := xw_i 4) hx hb d_MD_weave_110 rfl ?_
                refine lv_iload_n hx hb d_MD_weave_111 rfl (lv_at hl 3 rfl) ?_
                refine xw_iadd hx hb d_MD_weave_112 ?_
                refine lv_iload_n hx hb d_MD_weave_113 rfl (lv_at hl 4 rfl) ?_
                obtain ⟨s34, r36, hc35, h⟩ := xw_bn2I h
                refine xw_callVi (C := "AdviceWeaverModel") (T := T_MD) ⟨hx, hb, hml, hown, hts⟩ (c_MD_transform l D A ad cs Z tt fu s31 s34 (4 + c2_36) i3_102 r36 hc35) (cwV 2 hts (gd_V hw_550 hw_551 hw_552 hw_433 hw_553) rfl rfl rfl (by decide +kernel) ⟨Nat.le_of_ble_eq_true rfl, Nat.le_of_ble_eq_true rfl⟩) hP hK hD hX hS (by decide) kr_MD (by decide) rfl rfl hl.1 rfl (Nat.le_of_ble_eq_true rfl) d_MD_weave_114 (fun H locs hP hS => ?_)
                obtain ⟨hg37, h⟩ := xw_grdI h
                refine xw_if_eq (tgt := 124) hx hb hg37 d_MD_weave_117 (by decide) (fun hc38 => ?_) (fun hc38 => ?_)
                · replace h := xw_ifT hc38 h
                  exact hj124 s34 i1_102 i3_102 t0_102 h _ _ _ hP hS (lv_sub hl [1, 2, 3, 4, 0] rfl)
                · replace h := xw_ifF hc38 h
                  refine lv_iconst (v := xw_i 1) hx hb d_MD_weave_120 rfl ?_
                  refine lv_goto (tgt := 125) hx hb d_MD_weave_121 (by decide) ?_
                  exact hj125 s34 i1_102 i3_102 t0_102 1 h _ _ _ hP hS (lv_sub hl [1, 2, 3, 4, 0] rfl)
        · intro j102 hj102 h
          refine xw_jnI (fun j => ∀ (sq : xw_S) (i1_101 : Int) (i3_101 : Int), j sq i1_101 i3_101 = some (sZ, r0) → ∀ (H : Heap) (locs : List Loc) (ls : Array Slot), va_P D vwCl (xw_ws kdR 29 ad cs Z sq) H → va_S A s.heap H locs → lv_has ls 6 [(0, .ref (ad 0)), (1, .int (xw_i i1_101)), (2, .int (xw_i c2_36)), (3, .int (xw_i i3_101))] → W p l e (headSpec w_MD_weave ({ frames := 4, cells := 0, slots := 0, locals := 96 })).room s m [.ref (ad 0)].toArray below meth c H locs 0 0 (MQ below (va_Qi (fun r u => r = xw_i r0 ∧ u = sZ) (xw_H D vwCl A kdR 29 ad cs Z tt) A) [.ref (ad 0)].toArray s 0 0 A) (F0 m 101 ls [])) h ?_ ?_
          · intro s30 i1_101 i3_101 h H locs ls hP hS hl
            refine lv_iconst (v := xw_i 0) hx hb d_MD_weave_101 rfl ?_
            exact hj102 s30 i1_101 i3_101 0 h _ _ _ hP hS (lv_sub hl [0, 1, 2, 3] rfl)
          · intro j101 hj101 h
            obtain ⟨hg14, h⟩ := xw_grdI h
            refine xw_icmp_ge (tgt := 101) hx hb hg12 hg14 d_MD_weave_46 (by decide) (fun hc15 => ?_) (fun hc15 => ?_)
            · replace h := xw_ifT hc15 h
              exact hj101 s11 i1_36 i3_36 h _ _ _ hP hS (lv_sub hl [0, 1, 2, 3] rfl)
            · replace h := xw_ifF hc15 h
              refine lv_aload_n hx hb d_MD_weave_49 rfl (lv_at hl 0 rfl) ?_
              refine xw_getR (C := "AdviceWeaverModel") (T := T_MD) hx hb hts hin_MD hown hK hP (by decide) kr_MD (by decide) rfl 17 (by decide) (hts _ hw_526) (fun _ h9 => h9) rfl d_MD_weave_50 ?_
              refine lv_iload_n hx hb d_MD_weave_53 rfl (lv_at hl 3 rfl) ?_
              obtain ⟨hg16, h⟩ := xw_grdI h
              refine xw_iald hx hb hK hP (by decide) kr_m_letter (by decide) hg16 d_MD_weave_54 ?_
              refine xw_jnI (fun j => ∀ (sq : xw_S) (i1_73 : Int) (i3_73 : Int), j sq i1_73 i3_73 = some (sZ, r0) → ∀ (H : Heap) (locs : List Loc) (ls : Array Slot), va_P D vwCl (xw_ws kdR 29 ad cs Z sq) H → va_S A s.heap H locs → lv_has ls 6 [(0, .ref (ad 0)), (1, .int (xw_i i1_73)), (2, .int (xw_i c2_36)), (3, .int (xw_i i3_73))] → W p l e (headSpec w_MD_weave ({ frames := 4, cells := 0, slots := 0, locals := 96 })).room s m [.ref (ad 0)].toArray below meth c H locs 0 0 (MQ below (va_Qi (fun r u => r = xw_i r0 ∧ u = sZ) (xw_H D vwCl A kdR 29 ad cs Z tt) A) [.ref (ad 0)].toArray s 0 0 A) (F0 m 73 ls [])) h ?_ ?_
              · intro s22 i1_73 i3_73 h H locs ls hP hS hl
                refine lv_aload_n hx hb d_MD_weave_73 rfl (lv_at hl 0 rfl) ?_
                refine xw_getR (C := "AdviceWeaverModel") (T := T_MD) hx hb hts hin_MD hown hK hP (by decide) kr_MD (by decide) rfl 18 (by decide) (hts _ hw_527) (fun _ h9 => h9) rfl d_MD_weave_74 ?_
                refine lv_iload_n hx hb d_MD_weave_77 rfl (lv_at hl 3 rfl) ?_
                obtain ⟨hg23, h⟩ := xw_grdI h
                refine xw_iald hx hb hK hP (by decide) kr_m_wanted (by decide) hg23 d_MD_weave_78 ?_
                refine xw_jnI (fun j => ∀ (sq : xw_S) (i1_97 : Int) (i3_97 : Int), j sq i1_97 i3_97 = some (sZ, r0) → ∀ (H : Heap) (locs : List Loc) (ls : Array Slot), va_P D vwCl (xw_ws kdR 29 ad cs Z sq) H → va_S A s.heap H locs → lv_has ls 6 [(0, .ref (ad 0)), (1, .int (xw_i i1_97)), (2, .int (xw_i c2_36)), (3, .int (xw_i i3_97))] → W p l e (headSpec w_MD_weave ({ frames := 4, cells := 0, slots := 0, locals := 96 })).room s m [.ref (ad 0)].toArray below meth c H locs 0 0 (MQ below (va_Qi (fun r u => r = xw_i r0 ∧ u = sZ) (xw_H D vwCl A kdR 29 ad cs Z tt) A) [.ref (ad 0)].toArray s 0 0 A) (F0 m 97 ls [])) h ?_ ?_
                · intro s29 i1_97 i3_97 h H locs ls hP hS hl
                  refine lv_iconst (v := xw_i 1) hx hb d_MD_weave_97 rfl ?_
                  refine lv_goto (tgt := 102) hx hb d_MD_weave_98 (by decide) ?_
                  exact hj102 s29 i1_97 i3_97 1 h _ _ _ hP hS (lv_sub hl [0, 1, 2, 3] rfl)
                · intro j97 hj97 h
                  obtain ⟨hg24, h⟩ := xw_grdI h
                  refine xw_if_lt (tgt := 97) hx hb hg24 d_MD_weave_79 (by decide) (fun hc25 => ?_) (fun hc25 => ?_)
                  · replace h := xw_ifT hc25 h
                    exact hj97 s22 i1_73 i3_73 h _ _ _ hP hS (lv_sub hl [0, 1, 2, 3] rfl)
                  · replace h := xw_ifF hc25 h
                    refine lv_aload_n hx hb d_MD_weave_82 rfl (lv_at hl 0 rfl) ?_
                    refine xw_getR (C := "AdviceWeaverModel") (T := T_MD) hx hb hts hin_MD hown hK hP (by decide) kr_MD (by decide) rfl 18 (by decide) (hts _ hw_527) (fun _ h9 => h9) rfl d_MD_weave_83 ?_
                    refine lv_iload_n hx hb d_MD_weave_86 rfl (lv_at hl 3 rfl) ?_
                    refine xw_iald hx hb hK hP (by decide) kr_m_wanted (by decide) hg23 d_MD_weave_87 ?_
                    refine lv_aload_n hx hb d_MD_weave_88 rfl (lv_at hl 0 rfl) ?_
                    refine xw_getR (C := "AdviceWeaverModel") (T := T_MD) hx hb hts hin_MD hown hK hP (by decide) kr_MD (by decide) rfl 3 (by decide) (hts _ hw_444) (fun _ h9 => h9) rfl d_MD_weave_89 ?_
                    refine lv_iload_n hx hb d_MD_weave_92 rfl (lv_at hl 2 rfl) ?_
                    obtain ⟨hg26, h⟩ := xw_grdI h
                    refine xw_iald hx hb hK hP (by decide) kr_m_args (by decide) hg26 d_MD_weave_93 ?_
                    obtain ⟨hg27, h⟩ := xw_grdI h
                    refine xw_icmp_ne (tgt := 101) hx hb hg24 hg27 d_MD_weave_94 (by decide) (fun hc28 => ?_) (fun hc28 => ?_)
                    · replace h := xw_ifF hc28 h
                      exact hj101 s22 i1_73 i3_73 h _ _ _ hP hS (lv_sub hl [0, 1, 2, 3] rfl)
                    · replace h := xw_ifT hc28 h
                      exact hj97 s22 i1_73 i3_73 h _ _ _ hP hS (lv_sub hl [0, 1, 2, 3] rfl)
              · intro j73 hj73 h
                obtain ⟨hg17, h⟩ := xw_grdI h
                refine xw_if_eq (tgt := 73) hx hb hg17 d_MD_weave_55 (by decide) (fun hc18 => ?_) (fun hc18 => ?_)
                · replace h := xw_ifT hc18 h
                  exact hj73 s11 i1_36 i3_36 h _ _ _ hP hS (lv_sub hl [0, 1, 2, 3] rfl)
                · replace h := xw_ifF hc18 h
                  refine lv_aload_n hx hb d_MD_weave_58 rfl (lv_at hl 0 rfl) ?_
                  refine xw_getR (C := "AdviceWeaverModel") (T := T_MD) hx hb hts hin_MD hown hK hP (by decide) kr_MD (by decide) rfl 17 (by decide) (hts _ hw_526) (fun _ h9 => h9) rfl d_MD_weave_59 ?_
                  refine lv_iload_n hx hb d_MD_weave_62 rfl (lv_at hl 3 rfl) ?_
                  refine xw_iald hx hb hK hP (by decide) kr_m_letter (by decide) hg16 d_MD_weave_63 ?_
                  refine lv_aload_n hx hb d_MD_weave_64 rfl (lv_at hl 0 rfl) ?_
                  refine xw_getR (C := "AdviceWeaverModel") (T := T_MD) hx hb hts hin_MD hown hK hP (by decide) kr_MD (by decide) rfl 2 (by decide) (hts _ hw_439) (fun _ h9 => h9) rfl d_MD_weave_65 ?_
                  refine lv_iload_n hx hb d_MD_weave_68 rfl (lv_at hl 2 rfl) ?_
                  obtain ⟨hg19, h⟩ := xw_grdI h
                  refine xw_iald hx hb hK hP (by decide) kr_m_name (by decide) hg19 d_MD_weave_69 ?_
                  obtain ⟨hg20, h⟩ := xw_grdI h
                  refine xw_icmp_ne (tgt := 101) hx hb hg17 hg20 d_MD_weave_70 (by decide) (fun hc21 => ?_) (fun hc21 => ?_)
                  · replace h := xw_ifF hc21 h
                    exact hj101 s11 i1_36 i3_36 h _ _ _ hP hS (lv_sub hl [0, 1, 2, 3] rfl)
                  · replace h := xw_ifT hc21 h
                    exact hj73 s11 i1_36 i3_36 h _ _ _ hP hS (lv_sub hl [0, 1, 2, 3] rfl)
  have hlp18 : ∀ (k177 : xw_S → Int → Option (xw_S × Int)) (hk177 : ∀ (sq : xw_S) (i1_177 : Int), k177 sq i1_177 = some (sZ, r0) → ∀ (H : Heap) (locs : List Loc) (ls : Array Slot), va_P D vwCl (xw_ws kdR 29 ad cs Z sq) H → va_S A s.heap H locs → lv_has ls 6 [(1, .int (xw_i i1_177))] → W p l e (headSpec w_MD_weave ({ frames := 4, cells := 0, slots := 0, locals := 96 })).room s m [.ref (ad 0)].toArray below meth c H locs 0 0 (MQ below (va_Qi (fun r u => r = xw_i r0 ∧ u = sZ) (xw_H D vwCl A kdR 29 ad cs Z tt) A) [.ref (ad 0)].toArray s 0 0 A) (F0 m 177 ls [])) (n : Nat), ∀ (sq : xw_S) (i1_18 : Int) (i2_18 : Int), lp_MD_weave_18 fu k177 n sq i1_18 i2_18 = some (sZ, r0) → ∀ (H : Heap) (locs : List Loc) (ls : Array Slot), va_P D vwCl (xw_ws kdR 29 ad cs Z sq) H → va_S A s.heap H locs → lv_has ls 6 [(0, .ref (ad 0)), (1, .int (xw_i i1_18)), (2, .int (xw_i i2_18))] → W p l e (headSpec w_MD_weave ({ frames := 4, cells := 0, slots := 0, locals := 96 })).room s m [.ref (ad 0)].toArray below meth c H locs 0 0 (MQ below (va_Qi (fun r u => r = xw_i r0 ∧ u = sZ) (xw_H D vwCl A kdR 29 ad cs Z tt) A) [.ref (ad 0)].toArray s 0 0 A) (F0 m 18 ls []) := by
    intro k177 hk177 n
    induction n with
    | zero =>
      intro sq i1_18 i2_18 h
      cases (show (none : Option (xw_S × Int)) = some (sZ, r0) from h)
    | succ n ih18 =>
      intro s5 i1_18 i2_18 h H locs ls hP hS hl
      unfold lp_MD_weave_18 at h
      refine lv_iload_n hx hb d_MD_weave_18 rfl (lv_at hl 2 rfl) ?_
      refine lv_aload_n hx hb d_MD_weave_19 rfl (lv_at hl 0 rfl) ?_
      refine xw_getI (C := "AdviceWeaverModel") (T := T_MD) hx hb hts hin_MD hown hK hP (by decide) kr_MD (by decide) rfl 10 (by decide) (hts _ hw_517) (fun _ h9 => h9) rfl d_MD_weave_20 ?_
      obtain ⟨hg6, h⟩ := xw_grdI h
      refine xw_icmp_ge (tgt := 177) hx hb hg6.1 hg6.2 d_MD_weave_23 (by decide) (fun hc7 => ?_) (fun hc7 => ?_)
      · replace h := xw_ifT hc7 h
        exact hk177 s5 i1_18 h _ _ _ hP hS (lv_sub hl [1] rfl)
      · replace h := xw_ifF hc7 h
        refine lv_aload_n hx hb d_MD_weave_26 rfl (lv_at hl 0 rfl) ?_
        refine lv_iload_n hx hb d_MD_weave_27 rfl (lv_at hl 2 rfl) ?_
        refine lv_iconst (v := xw_i 4) hx hb d_MD_weave_28 rfl ?_
        refine lv_iload_n hx hb d_MD_weave_29 rfl (lv_at hl 2 rfl) ?_
        refine xw_iadd hx hb d_MD_weave_30 ?_
        obtain ⟨s8, hc9, h⟩ := xw_bndI h
        refine xw_callVv (C := "AdviceWeaverModel") (T := T_MD) ⟨hx, hb, hml, hown, hts⟩ (c_MD_copy l D A ad cs Z tt fu s5 s8 i2_18 (4 + i2_18) hc9) (cwV 2 hts (gd_V hw_519 hw_520 hw_521 hw_433 hw_522) rfl rfl rfl (by decide +kernel) ⟨Nat.le_of_ble_eq_true rfl, Nat.le_of_ble_eq_true rfl⟩) hP hK hD hX hS (by decide) kr_MD (by decide) rfl rfl hl.1 rfl (Nat.le_of_ble_eq_true rfl) d_MD_weave_31 (fun H locs hP hS => ?_)
        refine lv_iconst (v := xw_i 0) hx hb d_MD_weave_34 rfl ?_
        refine lv_istore_n hx hb d_MD_weave_35 rfl hl (by decide) rfl (fun ls hl => ?_)
        refine xw_jnI (fun j => ∀ (sq : xw_S) (i1_171 : Int) (i2_171 : Int), j sq i1_171 i2_171 = some (sZ, r0) → ∀ (H : Heap) (locs : List Loc) (ls : Array Slot), va_P D vwCl (xw_ws kdR 29 ad cs Z sq) H → va_S A s.heap H locs → lv_has ls 6 [(0, .ref (ad 0)), (1, .int (xw_i i1_171)), (2, .int (xw_i i2_171))] → W p l e (headSpec w_MD_weave ({ frames := 4, cells := 0, slots := 0, locals := 96 })).room s m [.ref (ad 0)].toArray below meth c H locs 0 0 (MQ below (va_Qi (fun r u => r = xw_i r0 ∧ u = sZ) (xw_H D vwCl A kdR 29 ad cs Z tt) A) [.ref (ad 0)].toArray s 0 0 A) (F0 m 171 ls [])) h ?_ ?_
        · intro s55 i1_171 i2_171 h H locs ls hP hS hl
          obtain ⟨v56, e57⟩ : ∃ z, z = i2_171 + 1 := ⟨_, rfl⟩
          replace h := xw_letI e57 h
          refine xw_iinc (lv' := [(2, .int (xw_i v56)), (0, .ref (ad 0)), (1, .int (xw_i i1_171))]) hx hb d_MD_weave_171 hl (k := 2) rfl (by decide) (by rw [e57]; rfl) (fun ls hl => ?_)
          refine lv_goto (tgt := 18) hx hb d_MD_weave_174 (by decide) ?_
          exact ih18 s55 i1_171 v56 h _ _ _ hP hS (lv_sub hl [1, 2, 0] rfl)
        · intro k171 hk171 h
          exact hlp36 i2_18 k171 hk171 fu s8 i1_18 0 h _ _ _ hP hS (lv_sub hl [1, 2, 3, 0] rfl)
  unfold f_MD_weave at h
  refine lv_aload_n hx hb d_MD_weave_0 rfl (lv_at hl 0 rfl) ?_
  refine xw_getI (C := "AdviceWeaverModel") (T := T_MD) hx hb hts hin_MD hown hK hP (by decide) kr_MD (by decide) rfl 10 (by decide) (hts _ hw_517) (fun _ h9 => h9) rfl d_MD_weave_1 ?_
  obtain ⟨hg1, h⟩ := xw_grdI h
  refine xw_if_ne (tgt := 9) hx hb hg1 d_MD_weave_4 (by decide) (fun hc2 => ?_) (fun hc2 => ?_)
  · replace h := xw_ifF hc2 h
    refine lv_iconst (v := xw_i 0) hx hb d_MD_weave_9 rfl ?_
    refine lv_istore_n hx hb d_MD_weave_10 rfl hl (by decide) rfl (fun ls hl => ?_)
    refine lv_aload_n hx hb d_MD_weave_11 rfl (lv_at hl 1 rfl) ?_
    refine lv_iconst (v := xw_i 1) hx hb d_MD_weave_12 rfl ?_
    refine xw_putB (C := "AdviceWeaverModel") (T := T_MD) hx hb hts hin_MD ty_MD ty_MD_ok nm_MD hown hK hP hD hS (by decide) kr_MD (by decide) rfl 12 (by decide) (hts _ hw_518) (fun _ h9 => h9) rfl (by decide +kernel) rfl d_MD_weave_13 (by decide) (fun s3 e4 H locs hP hS => ?_)
    replace h := xw_letI e4 h
    refine lv_iconst (v := xw_i 0) hx hb d_MD_weave_16 rfl ?_
    refine lv_istore_n hx hb d_MD_weave_17 rfl hl (by decide) rfl (fun ls hl => ?_)
    refine xw_jnI (fun j => ∀ (sq : xw_S) (i1_177 : Int), j sq i1_177 = some (sZ, r0) → ∀ (H : Heap) (locs : List Loc) (ls : Array Slot), va_P D vwCl (xw_ws kdR 29 ad cs Z sq) H → va_S A s.heap H locs → lv_has ls 6 [(1, .int (xw_i i1_177))] → W p l e (headSpec w_MD_weave ({ frames := 4, cells := 0, slots := 0, locals := 96 })).room s m [.ref (ad 0)].toArray below meth c H locs 0 0 (MQ below (va_Qi (fun r u => r = xw_i r0 ∧ u = sZ) (xw_H D vwCl A kdR 29 ad cs Z tt) A) [.ref (ad 0)].toArray s 0 0 A) (F0 m 177 ls [])) h ?_ ?_
    · intro s58 i1_177 h H locs ls hP hS hl
      refine lv_iload_n hx hb d_MD_weave_177 rfl (lv_at hl 0 rfl) ?_
      exact xw_iretE hx hb hr hlk hP hK hD hX hS h d_MD_weave_178
    · intro k177 hk177 h
      exact hlp18 k177 hk177 fu s3 0 0 h _ _ _ hP hS (lv_sub hl [2, 1, 0] rfl)
  · replace h := xw_ifT hc2 h
    refine lv_iconst (v := xw_i (-1)) hx hb d_MD_weave_7 rfl ?_
    exact xw_iretE hx hb hr hlk hP hK hD hX hS h d_MD_weave_8
def f_MD_failed (fu : Nat) (s0 : xw_S) (p1 : Int) (p2 : Int) : Option (xw_S × Int) :=
 xw_bn2 (f_MD_outside fu s0 p1 0 3) (fun s1 r3 => xw_grd (xw_r r3) (xw_if (r3 = 0) (xw_bn2 (f_MD_outside fu s1 p2 0 2) (fun s6 r8 => xw_grd (xw_r r8) (xw_if (r8 = 0) (xw_grd ((0 ≤ (3 * p1) + p2 ∧ (3 * p1) + p2 < ((12 : Nat) : Int))) (xw_grd (xw_r (s6.1 13 ((3 * p1) + p2).toNat)) (xw_if (s6.1 13 ((3 * p1) + p2).toNat = 0) (some (s6, 0))
 (some (s6, 1)))))
 (some (s6, 0)))))
 (some (s1, 0))))
set_option maxRecDepth 100000 in
set_option maxHeartbeats 4000000 in
theorem c_MD_failed (l : Launch) (D : va_G) (A : Nat → Prop) (ad : Nat → Nat) (cs : Nat → ClassId) (Z : va_W) (tt : Nat → Nat) (fu : Nat) (s0 sZ : xw_S) (p1 : Int) (p2 : Int) (r0 : Int) (h : f_MD_failed fu s0 p1 p2 = some (sZ, r0)) : Met l y_MD_failed w_MD_failed ({ frames := 1, cells := 0, slots := 0, locals := 22 }) (va_Pc [.ref (ad 0), .int (xw_i p1), .int (xw_i p2)] (xw_H D vwCl A kdR 29 ad cs Z tt s0)) (va_Qi (fun r u => r = xw_i r0 ∧ u = sZ) (xw_H D vwCl A kdR 29 ad cs Z tt) A) 0 0 A := by
  refine Met.ofW (cc := b_MD_failed) (maxL := 3) (ret := (some .boolean)) (by decide) rfl ?_
  intro p e s m args below meth c s₁ B hml hv
  obtain ⟨rfl, hP, hK, hD, hX⟩ := hv
  have hx := B.exec
  have hb := B.bytes
  have hr := B.returns
  have hts0 := atoms_spec (ws := w_MD_failed) B.pre
  have hts := fun w (hw : w ∈ wAll) => hts0 w (List.mem_cons_of_mem _ hw)
  have hown : s.vm.findClass "AdviceWeaverModel" = some m.cls := findClass_of_methodNamed B.named
  have hlk := B.notSynchronized
  clear hts0 B
  have hS : va_S A s.heap s.heap [] := va_S.rf
  have hl := lv_entry [.ref (ad 0), .int (xw_i p1), .int (xw_i p2)] (n := 3) (Nat.le_of_ble_eq_true rfl)
  rw [lg_entry_eq]
  generalize (lg_sl [.ref (ad 0), .int (xw_i p1), .int (xw_i p2)] ++ List.replicate (3 - (lg_sl [.ref (ad 0), .int (xw_i p1), .int (xw_i p2)]).length) Slot.unset).toArray = ls at hl ⊢
  have hl : lv_has ls 3 [(0, .ref (ad 0)), (1, .int (xw_i p1)), (2, .int (xw_i p2))] := hl
  unfold f_MD_failed at h
  refine lv_iload_n hx hb d_MD_failed_0 rfl (lv_at hl 1 rfl) ?_
  refine lv_iconst (v := xw_i 0) hx hb d_MD_failed_1 rfl ?_
  refine lv_iconst (v := xw_i 3) hx hb d_MD_failed_2 rfl ?_
  obtain ⟨s1, r3, hc2, h⟩ := xw_bn2I h
  refine xw_callSi ⟨hx, hb, hml, hown, hts⟩ (c_MD_outside l D A ad cs Z tt fu s0 s1 p1 0 3 r3 hc2) (va_cwS 3 hts (gd_S hw_431 hw_432 hw_433 hw_434) rfl rfl rfl (by decide +kernel) ⟨Nat.le_of_ble_eq_true rfl, Nat.le_of_ble_eq_true rfl⟩) hP hK hD hX hS rfl hl.1 rfl (Nat.le_of_ble_eq_true rfl) d_MD_failed_3 (fun H locs hP hS => ?_)
  obtain ⟨hg4, h⟩ := xw_grdI h
  refine xw_if_ne (tgt := 35) hx hb hg4 d_MD_failed_6 (by decide) (fun hc5 => ?_) (fun hc5 => ?_)
  · replace h := xw_ifF hc5 h
    refine lv_iconst (v := xw_i 0) hx hb d_MD_failed_35 rfl ?_
    exact xw_zretE hx hb hr hlk hP hK hD hX hS h (by decide) d_MD_failed_36
  · replace h := xw_ifT hc5 h
    refine lv_iload_n hx hb d_MD_failed_9 rfl (lv_at hl 2 rfl) ?_
    refine lv_iconst (v := xw_i 0) hx hb d_MD_failed_10 rfl ?_
    refine lv_iconst (v := xw_i 2) hx hb d_MD_failed_11 rfl ?_
    obtain ⟨s6, r8, hc7, h⟩ := xw_bn2I h
    refine xw_callSi ⟨hx, hb, hml, hown, hts⟩ (c_MD_outside l D A ad cs Z tt fu s1 s6 p2 0 2 r8 hc7) (va_cwS 3 hts (gd_S hw_431 hw_432 hw_433 hw_434) rfl rfl rfl (by decide +kernel) ⟨Nat.le_of_ble_eq_true rfl, Nat.le_of_ble_eq_true rfl⟩) hP hK hD hX hS rfl hl.1 rfl (Nat.le_of_ble_eq_true rfl) d_MD_failed_12 (fun H locs hP hS => ?_)
    obtain ⟨hg9, h⟩ := xw_grdI h
    refine xw_if_ne (tgt := 35) hx hb hg9 d_MD_failed_15 (by decide) (fun hc10 => ?_) (fun hc10 => ?_)
    · replace h := xw_ifF hc10 h
      refine lv_iconst (v := xw_i 0) hx hb d_MD_failed_35 rfl ?_
      exact xw_zretE hx hb hr hlk hP hK hD hX hS h (by decide) d_MD_failed_36
    · replace h := xw_ifT hc10 h
      refine lv_aload_n hx hb d_MD_failed_18 rfl (lv_at hl 0 rfl) ?_
      refine xw_getR (C := "AdviceWeaverModel") (T := T_MD) hx hb hts hin_MD hown hK hP (by decide) kr_MD (by decide) rfl 19 (by decide) (hts _ hw_523) (fun _ h9 => h9) rfl d_MD_failed_19 ?_
      refine lv_iconst (v := xw_i 3) hx hb d_MD_failed_22 rfl ?_
      refine lv_iload_n hx hb d_MD_failed_23 rfl (lv_at hl 1 rfl) ?_
      refine xw_imul hx hb d_MD_failed_24 ?_
      refine lv_iload_n hx hb d_MD_failed_25 rfl (lv_at hl 2 rfl) ?_
      refine xw_iadd hx hb d_MD_failed_26 ?_
      obtain ⟨hg11, h⟩ := xw_grdI h
      refine xw_zald hx hb hK hP (by decide) kr_m_fails (by decide) hg11 d_MD_failed_27 ?_
      obtain ⟨hg12, h⟩ := xw_grdI h
      refine xw_if_eq (tgt := 35) hx hb hg12 d_MD_failed_28 (by decide) (fun hc13 => ?_) (fun hc13 => ?_)
      · replace h := xw_ifT hc13 h
        refine lv_iconst (v := xw_i 0) hx hb d_MD_failed_35 rfl ?_
        exact xw_zretE hx hb hr hlk hP hK hD hX hS h (by decide) d_MD_failed_36
      · replace h := xw_ifF hc13 h
        refine lv_iconst (v := xw_i 1) hx hb d_MD_failed_31 rfl ?_
        refine lv_goto (tgt := 36) hx hb d_MD_failed_32 (by decide) ?_
        exact xw_zretE hx hb hr hlk hP hK hD hX hS h (by decide) d_MD_failed_36
def lp_MD_enter_32 (fu : Nat) (k59 : xw_S → Option xw_S) : Nat → xw_S → Int → Option xw_S
  | 0, _, _ => none
  | n + 1, s10, i2_32 =>
    xw_grd (xw_r i2_32) (xw_if (6 ≤ i2_32) (k59 s10)
     (xw_grd ((0 ≤ (6 * (s10.1 0 31)) + i2_32 ∧ (6 * (s10.1 0 31)) + i2_32 < ((48 : Nat) : Int))) (xw_let (xw_st s10 25 ((6 * (s10.1 0 31)) + i2_32).toNat 0) (fun s14 => xw_let (i2_32 + 1) (fun v16 => lp_MD_enter_32 fu k59 n s14 v16)))))
def f_MD_enter (fu : Nat) (s0 : xw_S) (p1 : Int) : Option xw_S :=
 xw_grd ((0 ≤ s0.1 0 31 ∧ s0.1 0 31 < ((8 : Nat) : Int))) (xw_let (xw_st s0 22 (s0.1 0 31).toNat p1) (fun s2 => xw_grd ((0 ≤ s2.1 0 31 ∧ s2.1 0 31 < ((8 : Nat) : Int))) (xw_let (xw_st s2 23 (s2.1 0 31).toNat 0) (fun s5 => xw_grd ((0 ≤ s5.1 0 31 ∧ s5.1 0 31 < ((8 : Nat) : Int))) (xw_let (xw_st s5 24 (s5.1 0 31).toNat 0) (fun s8 => xw_jn (fun (s18 : xw_S) => xw_let (xw_st s18 0 31 ((s18.1 0 31) + 1)) (fun s19 => some s19))
 (fun (k59 : xw_S → Option xw_S) => lp_MD_enter_32 fu k59 fu s8 0)))))))
set_option maxRecDepth 100000 in
set_option maxHeartbeats 4000000 in
theorem c_MD_enter (l : Launch) (D : va_G) (A : Nat → Prop) (ad : Nat → Nat) (cs : Nat → ClassId) (Z : va_W) (tt : Nat → Nat) (fu : Nat) (s0 sZ : xw_S) (p1 : Int) (h : f_MD_enter fu s0 p1 = some sZ) : Met l y_MD_enter w_MD_enter ({ frames := 0, cells := 0, slots := 0, locals := 0 }) (va_Pc [.ref (ad 0), .int (xw_i p1)] (xw_H D vwCl A kdR 29 ad cs Z tt s0)) (va_Qv (fun u => u = sZ) (xw_H D vwCl A kdR 29 ad cs Z tt) A) 0 0 A := by
  refine Met.ofW (cc := b_MD_enter) (maxL := 3) (ret := none) (by decide) rfl ?_
  intro p e s m args below meth c s₁ B hml hv
  obtain ⟨rfl, hP, hK, hD, hX⟩ := hv
  have hx := B.exec
  have hb := B.bytes
  have hr := B.returns
  have hts0 := atoms_spec (ws := w_MD_enter) B.pre
  have hts := fun w (hw : w ∈ wAll) => hts0 w (List.mem_cons_of_mem _ hw)
  have hown : s.vm.findClass "AdviceWeaverModel" = some m.cls := findClass_of_methodNamed B.named
  have hlk := B.notSynchronized
  clear hts0 B
  have hS : va_S A s.heap s.heap [] := va_S.rf
  have hl := lv_entry [.ref (ad 0), .int (xw_i p1)] (n := 3) (Nat.le_of_ble_eq_true rfl)
  rw [lg_entry_eq]
  generalize (lg_sl [.ref (ad 0), .int (xw_i p1)] ++ List.replicate (3 - (lg_sl [.ref (ad 0), .int (xw_i p1)]).length) Slot.unset).toArray = ls at hl ⊢
  have hl : lv_has ls 3 [(0, .ref (ad 0)), (1, .int (xw_i p1))] := hl
  have hlp32 : ∀ (k59 : xw_S → Option xw_S) (hk59 : ∀ (sq : xw_S), k59 sq = some sZ → ∀ (H : Heap) (locs : List Loc) (ls : Array Slot), va_P D vwCl (xw_ws kdR 29 ad cs Z sq) H → va_S A s.heap H locs → lv_has ls 3 [(0, .ref (ad 0))] → W p l e (headSpec w_MD_enter ({ frames := 0, cells := 0, slots := 0, locals := 0 })).room s m [.ref (ad 0), .int (xw_i p1)].toArray below meth c H locs 0 0 (MQ below (va_Qv (fun u => u = sZ) (xw_H D vwCl A kdR 29 ad cs Z tt) A) [.ref (ad 0), .int (xw_i p1)].toArray s 0 0 A) (F0 m 59 ls [])) (n : Nat), ∀ (sq : xw_S) (i2_32 : Int), lp_MD_enter_32 fu k59 n sq i2_32 = some sZ → ∀ (H : Heap) (locs : List Loc) (ls : Array Slot), va_P D vwCl (xw_ws kdR 29 ad cs Z sq) H → va_S A s.heap H locs → lv_has ls 3 [(0, .ref (ad 0)), (2, .int (xw_i i2_32))] → W p l e (headSpec w_MD_enter ({ frames := 0, cells := 0, slots := 0, locals := 0 })).room s m [.ref (ad 0), .int (xw_i p1)].toArray below meth c H locs 0 0 (MQ below (va_Qv (fun u => u = sZ) (xw_H D vwCl A kdR 29 ad cs Z tt) A) [.ref (ad 0), .int (xw_i p1)].toArray s 0 0 A) (F0 m 32 ls []) := by
    intro k59 hk59 n
    induction n with
    | zero =>
      intro sq i2_32 h
      cases (show (none : Option xw_S) = some sZ from h)
    | succ n ih32 =>
      intro s10 i2_32 h H locs ls hP hS hl
      unfold lp_MD_enter_32 at h
      refine lv_iload_n hx hb d_MD_enter_32 rfl (lv_at hl 1 rfl) ?_
      refine lv_bipush (v := xw_i 6) hx hb d_MD_enter_33 (by decide) ?_
      obtain ⟨hg11, h⟩ := xw_grdI h
      refine xw_icmp_ge (tgt := 59) hx hb hg11 (by decide) d_MD_enter_35 (by decide) (fun hc12 => ?_) (fun hc12 => ?_)
      · replace h := xw_ifT hc12 h
        exact hk59 s10 h _ _ _ hP hS (lv_sub hl [0] rfl)
      · replace h := xw_ifF hc12 h
        refine lv_aload_n hx hb d_MD_enter_38 rfl (lv_at hl 0 rfl) ?_
        refine xw_getR (C := "AdviceWeaverModel") (T := T_MD) hx hb hts hin_MD hown hK hP (by decide) kr_MD (by decide) rfl 35 (by decide) (hts _ hw_558) (fun _ h9 => h9) rfl d_MD_enter_39 ?_
        refine lv_bipush (v := xw_i 6) hx hb d_MD_enter_42 (by decide) ?_
        refine lv_aload_n hx hb d_MD_enter_44 rfl (lv_at hl 0 rfl) ?_
        refine xw_getI (C := "AdviceWeaverModel") (T := T_MD) hx hb hts hin_MD hown hK hP (by decide) kr_MD (by decide) rfl 31 (by decide) (hts _ hw_555) (fun _ h9 => h9) rfl d_MD_enter_45 ?_
        refine xw_imul hx hb d_MD_enter_48 ?_
        refine lv_iload_n hx hb d_MD_enter_49 rfl (lv_at hl 1 rfl) ?_
        refine xw_iadd hx hb d_MD_enter_50 ?_
        refine lv_iconst (v := xw_i 0) hx hb d_MD_enter_51 rfl ?_
        obtain ⟨hg13, h⟩ := xw_grdI h
        refine xw_iast hx hb hK hP hD hS (by decide) kr_m_local (by decide) hg13 d_MD_enter_52 (fun s14 e15 H locs hP hS => ?_)
        replace h := xw_letI e15 h
        obtain ⟨v16, e17⟩ : ∃ z, z = i2_32 + 1 := ⟨_, rfl⟩
        replace h := xw_letI e17 h
        refine xw_iinc (lv' := [(2, .int (xw_i v16)), (0, .ref (ad 0))]) hx hb d_MD_enter_53 hl (k := 1) rfl (by decide) (by rw [e17]; rfl) (fun ls hl => ?_)
        refine lv_goto (tgt := 32) hx hb d_MD_enter_56 (by decide) ?_
        exact ih32 s14 v16 h _ _ _ hP hS (lv_sub hl [1, 0] rfl)
  unfold f_MD_enter at h
  refine lv_aload_n hx hb d_MD_enter_0 rfl (lv_at hl 0 rfl) ?_
  refine xw_getR (C := "AdviceWeaverModel") (T := T_MD) hx hb hts hin_MD hown hK hP (by decide) kr_MD (by decide) rfl 32 (by decide) (hts _ hw_554) (fun _ h9 => h9) rfl d_MD_enter_1 ?_
  refine lv_aload_n hx hb d_MD_enter_4 rfl (lv_at hl 0 rfl) ?_
  refine xw_getI (C := "AdviceWeaverModel") (T := T_MD) hx hb hts hin_MD hown hK hP (by decide) kr_MD (by decide) rfl 31 (by decide) (hts _ hw_555) (fun _ h9 => h9) rfl d_MD_enter_5 ?_
  refine lv_iload_n hx hb d_MD_enter_8 rfl (lv_at hl 1 rfl) ?_
  obtain ⟨hg1, h⟩ := xw_grdI h
  refine xw_iast hx hb hK hP hD hS (by decide) kr_m_method (by decide) hg1 d_MD_enter_9 (fun s2 e3 H locs hP hS => ?_)
  replace h := xw_letI e3 h
  refine lv_aload_n hx hb d_MD_enter_10 rfl (lv_at hl 0 rfl) ?_
  refine xw_getR (C := "AdviceWeaverModel") (T := T_MD) hx hb hts hin_MD hown hK hP (by decide) kr_MD (by decide) rfl 33 (by decide) (hts _ hw_556) (fun _ h9 => h9) rfl d_MD_enter_11 ?_
  refine lv_aload_n hx hb d_MD_enter_14 rfl (lv_at hl 0 rfl) ?_
  refine xw_getI (C := "AdviceWeaverModel") (T := T_MD) hx hb hts hin_MD hown hK hP (by decide) kr_MD (by decide) rfl 31 (by decide) (hts _ hw_555) (fun _ h9 => h9) rfl d_MD_enter_15 ?_
  refine lv_iconst (v := xw_i 0) hx hb d_MD_enter_18 rfl ?_
  obtain ⟨hg4, h⟩ := xw_grdI h
  refine xw_iast hx hb hK hP hD hS (by decide) kr_m_place (by decide) hg4 d_MD_enter_19 (fun s5 e6 H locs hP hS => ?_)
  replace h := xw_letI e6 h
  refine lv_aload_n hx hb d_MD_enter_20 rfl (lv_at hl 0 rfl) ?_
  refine xw_getR (C := "AdviceWeaverModel") (T := T_MD) hx hb hts hin_MD hown hK hP (by decide) kr_MD (by decide) rfl 34 (by decide) (hts _ hw_557) (fun _ h9 => h9) rfl d_MD_enter_21 ?_
  refine lv_aload_n hx hb d_MD_enter_24 rfl (lv_at hl 0 rfl) ?_
  refine xw_getI (C := "AdviceWeaverModel") (T := T_MD) hx hb hts hin_MD hown hK hP (by decide) kr_MD (by decide) rfl 31 (by decide) (hts _ hw_555) (fun _ h9 => h9) rfl d_MD_enter_25 ?_
  refine lv_iconst (v := xw_i 0) hx hb d_MD_enter_28 rfl ?_
  obtain ⟨hg7, h⟩ := xw_grdI h
  refine xw_iast hx hb hK hP hD hS (by decide) kr_m_height (by decide) hg7 d_MD_enter_29 (fun s8 e9 H locs hP hS => ?_)
  replace h := xw_letI e9 h
  refine lv_iconst (v := xw_i 0) hx hb d_MD_enter_30 rfl ?_
  refine lv_istore_n hx hb d_MD_enter_31 rfl hl (by decide) rfl (fun ls hl => ?_)
  refine xw_jnI (fun j => ∀ (sq : xw_S), j sq = some sZ → ∀ (H : Heap) (locs : List Loc) (ls : Array Slot), va_P D vwCl (xw_ws kdR 29 ad cs Z sq) H → va_S A s.heap H locs → lv_has ls 3 [(0, .ref (ad 0))] → W p l e (headSpec w_MD_enter ({ frames := 0, cells := 0, slots := 0, locals := 0 })).room s m [.ref (ad 0), .int (xw_i p1)].toArray below meth c H locs 0 0 (MQ below (va_Qv (fun u => u = sZ) (xw_H D vwCl A kdR 29 ad cs Z tt) A) [.ref (ad 0), .int (xw_i p1)].toArray s 0 0 A) (F0 m 59 ls [])) h ?_ ?_
  · intro s18 h H locs ls hP hS hl
    refine lv_aload_n hx hb d_MD_enter_59 rfl (lv_at hl 0 rfl) ?_
    refine lv_dup hx hb d_MD_enter_60 rfl ?_
    refine xw_getI (C := "AdviceWeaverModel") (T := T_MD) hx hb hts hin_MD hown hK hP (by decide) kr_MD (by decide) rfl 31 (by decide) (hts _ hw_555) (fun _ h9 => h9) rfl d_MD_enter_61 ?_
    refine lv_iconst (v := xw_i 1) hx hb d_MD_enter_64 rfl ?_
    refine xw_iadd hx hb d_MD_enter_65 ?_
    refine xw_putI (C := "AdviceWeaverModel") (T := T_MD) hx hb hts hin_MD ty_MD ty_MD_ok nm_MD hown hK hP hD hS (by decide) kr_MD (by decide) rfl 31 (by decide) (hts _ hw_555) (fun _ h9 => h9) rfl (by decide +kernel) rfl d_MD_enter_66 (fun s19 e20 H locs hP hS => ?_)
    replace h := xw_letI e20 h
    exact xw_vretE hx hb hr hlk hP hK hD hX hS h d_MD_enter_69
  · intro k59 hk59 h
    exact hlp32 k59 hk59 fu s8 0 h _ _ _ hP hS (lv_sub hl [1, 0] rfl)
def f_MD_pop (fu : Nat) (s0 : xw_S) : Option (xw_S × Int) :=
 xw_let ((s0.1 0 31) - 1) (fun v1 => xw_grd ((0 ≤ v1 ∧ v1 < ((8 : Nat) : Int))) (xw_let (xw_st s0 24 (v1).toNat ((s0.1 24 (v1).toNat) - 1)) (fun s4 => xw_grd ((0 ≤ (9 * v1) + (s4.1 24 (v1).toNat) ∧ (9 * v1) + (s4.1 24 (v1).toNat) < ((72 : Nat) : Int))) (some (s4, s4.1 26 ((9 * v1) + (s4.1 24 (v1).toNat)).toNat)))))
set_option maxRecDepth 100000 in
set_option maxHeartbeats 4000000 in
theorem c_MD_pop (l : Launch) (D : va_G) (A : Nat → Prop) (ad : Nat → Nat) (cs : Nat → ClassId) (Z : va_W) (tt : Nat → Nat) (fu : Nat) (s0 sZ : xw_S) (r0 : Int) (h : f_MD_pop fu s0 = some (sZ, r0)) : Met l y_MD_pop w_MD_pop ({ frames := 0, cells := 0, slots := 0, locals := 0 }) (va_Pc [.ref (ad 0)] (xw_H D vwCl A kdR 29 ad cs Z tt s0)) (va_Qi (fun r u => r = xw_i r0 ∧ u = sZ) (xw_H D vwCl A kdR 29 ad cs Z tt) A) 0 0 A := by
  refine Met.ofW (cc := b_MD_pop) (maxL := 2) (ret := (some .int)) (by decide) rfl ?_
  intro p e s m args below meth c s₁ B hml hv
  obtain ⟨rfl, hP, hK, hD, hX⟩ := hv
  have hx := B.exec
  have hb := B.bytes
  have hr := B.returns
  have hts0 := atoms_spec (ws := w_MD_pop) B.pre
  have hts := fun w (hw : w ∈ wAll) => hts0 w (List.mem_cons_of_mem _ hw)
  have hown : s.vm.findClass "AdviceWeaverModel" = some m.cls := findClass_of_methodNamed B.named
  have hlk := B.notSynchronized
  clear hts0 B
  have hS : va_S A s.heap s.heap [] := va_S.rf
  have hl := lv_entry [.ref (ad 0)] (n := 2) (Nat.le_of_ble_eq_true rfl)
  rw [lg_entry_eq]
  generalize (lg_sl [.ref (ad 0)] ++ List.replicate (2 - (lg_sl [.ref (ad 0)]).length) Slot.unset).toArray = ls at hl ⊢
  have hl : lv_has ls 2 [(0, .ref (ad 0))] := hl
  unfold f_MD_pop at h
  refine lv_aload_n hx hb d_MD_pop_0 rfl (lv_at hl 0 rfl) ?_
  refine xw_getI (C := "AdviceWeaverModel") (T := T_MD) hx hb hts hin_MD hown hK hP (by decide) kr_MD (by decide) rfl 31 (by decide) (hts _ hw_555) (fun _ h9 => h9) rfl d_MD_pop_1 ?_
  refine lv_iconst (v := xw_i 1) hx hb d_MD_pop_4 rfl ?_
  refine xw_isub hx hb d_MD_pop_5 ?_
  refine xw_topi (fun v1 e2 => ?_)
  replace h := xw_letI e2 h
  refine lv_istore_n hx hb d_MD_pop_6 rfl hl (by decide) rfl (fun ls hl => ?_)
  refine lv_aload_n hx hb d_MD_pop_7 rfl (lv_at hl 1 rfl) ?_
  refine xw_getR (C := "AdviceWeaverModel") (T := T_MD) hx hb hts hin_MD hown hK hP (by decide) kr_MD (by decide) rfl 34 (by decide) (hts _ hw_557) (fun _ h9 => h9) rfl d_MD_pop_8 ?_
  refine lv_iload_n hx hb d_MD_pop_11 rfl (lv_at hl 0 rfl) ?_
  refine lv_dup2_11 hx hb d_MD_pop_12 rfl rfl ?_
  obtain ⟨hg3, h⟩ := xw_grdI h
  refine xw_iald hx hb hK hP (by decide) kr_m_height (by decide) hg3 d_MD_pop_13 ?_
  refine lv_iconst (v := xw_i 1) hx hb d_MD_pop_14 rfl ?_
  refine xw_isub hx hb d_MD_pop_15 ?_
  refine xw_iast hx hb hK hP hD hS (by decide) kr_m_height (by decide) hg3 d_MD_pop_16 (fun s4 e5 H locs hP hS => ?_)
  replace h := xw_letI e5 h
  refine lv_aload_n hx hb d_MD_pop_17 rfl (lv_at hl 1 rfl) ?_
  refine xw_getR (C := "AdviceWeaverModel") (T := T_MD) hx hb hts hin_MD hown hK hP (by decide) kr_MD (by decide) rfl 36 (by decide) (hts _ hw_559) (fun _ h9 => h9) rfl d_MD_pop_18 ?_
  refine lv_bipush (v := xw_i 9) hx hb d_MD_pop_21 (by decide) ?_
  refine lv_iload_n hx hb d_MD_pop_23 rfl (lv_at hl 0 rfl) ?_
  refine xw_imul hx hb d_MD_pop_24 ?_
  refine lv_aload_n hx hb d_MD_pop_25 rfl (lv_at hl 1 rfl) ?_
  refine xw_getR (C := "AdviceWeaverModel") (T := T_MD) hx hb hts hin_MD hown hK hP (by decide) kr_MD (by decide) rfl 34 (by decide) (hts _ hw_557) (fun _ h9 => h9) rfl d_MD_pop_26 ?_
  refine lv_iload_n hx hb d_MD_pop_29 rfl (lv_at hl 0 rfl) ?_
  refine xw_iald hx hb hK hP (by decide) kr_m_height (by decide) hg3 d_MD_pop_30 ?_
  refine xw_iadd hx hb d_MD_pop_31 ?_
  obtain ⟨hg6, h⟩ := xw_grdI h
  refine xw_iald hx hb hK hP (by decide) kr_m_stack (by decide) hg6 d_MD_pop_32 ?_
  exact xw_iretE hx hb hr hlk hP hK hD hX hS h d_MD_pop_33
def f_MD_branch (fu : Nat) (s0 : xw_S) (p1 : Int) (p2 : Int) (p3 : Int) : Option xw_S :=
 xw_let (xw_rm p3 10) (fun v1 => xw_jn (fun (s8 : xw_S) (i4_19 : Int) (t0_19 : Int) => xw_jn (fun (s29 : xw_S) (t0_78 : Int) (t1_78 : Int) => xw_grd ((0 ≤ t1_78 ∧ t1_78 < ((8 : Nat) : Int))) (xw_let (xw_st s29 23 (t1_78).toNat t0_78) (fun s31 => some s31)))
 (fun (j78 : xw_S → Int → Int → Option xw_S) => xw_jn (fun (s24 : xw_S) (t0_53 : Int) => xw_grd ((0 ≤ p2 ∧ p2 < ((8 : Nat) : Int))) (xw_bn2 (f_MD_target fu s24 p1 (s24.1 23 (p2).toNat)) (fun s26 r28 => j78 s26 r28 t0_53)))
 (fun (j53 : xw_S → Int → Option xw_S) => xw_grd (xw_r i4_19) (xw_if (i4_19 = 0) (j53 s8 p2)
 (xw_jn (fun (s14 : xw_S) (i4_42 : Int) (i5_42 : Int) (t0_42 : Int) => xw_jn (fun (s19 : xw_S) (t0_67 : Int) => xw_grd ((0 ≤ p2 ∧ p2 < ((8 : Nat) : Int))) (xw_bn2 (f_MD_sizeOf fu s19 p3) (fun s21 r23 => j78 s21 ((s19.1 23 (p2).toNat) + r23) t0_67)))
 (fun (j67 : xw_S → Int → Option xw_S) => xw_grd (xw_r i4_42) (xw_if (i4_42 = 2) (xw_grd (xw_r i5_42) (xw_if (0 ≤ i5_42) (j67 s14 t0_42)
 (j53 s14 t0_42)))
 (j67 s14 t0_42))))
 (fun (j42 : xw_S → Int → Int → Int → Option xw_S) => xw_if (i4_19 = 1) (xw_grd (xw_r t0_19) (xw_if (t0_19 = 0) (j53 s8 p2)
 (j42 s8 i4_19 t0_19 p2)))
 (j42 s8 i4_19 t0_19 p2)))))))
 (fun (j19 : xw_S → Int → Int → Option xw_S) => xw_grd (xw_r v1) (xw_if (v1 = 0) (j19 s0 v1 0)
 (xw_bn2 (f_MD_pop fu s0) (fun s5 r7 => j19 s5 v1 r7)))))
set_option maxRecDepth 100000 in
set_option maxHeartbeats 4000000 in
theorem c_MD_branch (l : Launch) (D : va_G) (A : Nat → Prop) (ad : Nat → Nat) (cs : Nat → ClassId) (Z : va_W) (tt : Nat → Nat) (fu : Nat) (s0 sZ : xw_S) (p1 : Int) (p2 : Int) (p3 : Int) (h : f_MD_branch fu s0 p1 p2 p3 = some sZ) : Met l y_MD_branch w_MD_branch ({ frames := 2, cells := 0, slots := 0, locals := 44 }) (va_Pc [.ref (ad 0), .int (xw_i p1), .int (xw_i p2), .int (xw_i p3)] (xw_H D vwCl A kdR 29 ad cs Z tt s0)) (va_Qv (fun u => u = sZ) (xw_H D vwCl A kdR 29 ad cs Z tt) A) 0 0 A := by
  refine Met.ofW (cc := b_MD_branch) (maxL := 6) (ret := none) (by decide) rfl ?_
  intro p e s m args below meth c s₁ B hml hv
  obtain ⟨rfl, hP, hK, hD, hX⟩ := hv
  have hx := B.exec
  have hb := B.bytes
  have hr := B.returns
  have hts0 := atoms_spec (ws := w_MD_branch) B.pre
  have hts := fun w (hw : w ∈ wAll) => hts0 w (List.mem_cons_of_mem _ hw)
  have hown : s.vm.findClass "AdviceWeaverModel" = some m.cls := findClass_of_methodNamed B.named
  have hlk := B.notSynchronized
  clear hts0 B
  have hS : va_S A s.heap s.heap [] := va_S.rf
  have hl := lv_entry [.ref (ad 0), .int (xw_i p1), .int (xw_i p2), .int (xw_i p3)] (n := 6) (Nat.le_of_ble_eq_true rfl)
  rw [lg_entry_eq]
  generalize (lg_sl [.ref (ad 0), .int (xw_i p1), .int (xw_i p2), .int (xw_i p3)] ++ List.replicate (6 - (lg_sl [.ref (ad 0), .int (xw_i p1), .int (xw_i p2), .int (xw_i p3)]).length) Slot.unset).toArray = ls at hl ⊢
  have hl : lv_has ls 6 [(0, .ref (ad 0)), (1, .int (xw_i p1)), (2, .int (xw_i p2)), (3, .int (xw_i p3))] := hl
  unfold f_MD_branch at h
  refine lv_iload_n hx hb d_MD_branch_0 rfl (lv_at hl 3 rfl) ?_
  refine lv_bipush (v := xw_i 10) hx hb d_MD_branch_1 (by decide) ?_
  refine xw_irem hx hb (by decide) (by decide) d_MD_branch_3 ?_
  refine xw_topi (fun v1 e2 => ?_)
  replace h := xw_letI e2 h
  refine lv_istore hx hb d_MD_branch_4 hl (by decide) rfl (fun ls hl => ?_)
  refine lv_iload hx hb d_MD_branch_6 (lv_at hl 0 rfl) ?_
  refine xw_jnI (fun j => ∀ (sq : xw_S) (i4_19 : Int) (t0_19 : Int), j sq i4_19 t0_19 = some sZ → ∀ (H : Heap) (locs : List Loc) (ls : Array Slot), va_P D vwCl (xw_ws kdR 29 ad cs Z sq) H → va_S A s.heap H locs → lv_has ls 6 [(0, .ref (ad 0)), (1, .int (xw_i p1)), (2, .int (xw_i p2)), (3, .int (xw_i p3)), (4, .int (xw_i i4_19))] → W p l e (headSpec w_MD_branch ({ frames := 2, cells := 0, slots := 0, locals := 44 })).room s m [.ref (ad 0), .int (xw_i p1), .int (xw_i p2), .int (xw_i p3)].toArray below meth c H locs 0 0 (MQ below (va_Qv (fun u => u = sZ) (xw_H D vwCl A kdR 29 ad cs Z tt) A) [.ref (ad 0), .int (xw_i p1), .int (xw_i p2), .int (xw_i p3)].toArray s 0 0 A) (F0 m 19 ls [.int (xw_i t0_19)])) h ?_ ?_
  · intro s8 i4_19 t0_19 h H locs ls hP hS hl
    refine lv_istore hx hb d_MD_branch_19 hl (by decide) rfl (fun ls hl => ?_)
    refine lv_aload_n hx hb d_MD_branch_21 rfl (lv_at hl 1 rfl) ?_
    refine xw_getR (C := "AdviceWeaverModel") (T := T_MD) hx hb hts hin_MD hown hK hP (by decide) kr_MD (by decide) rfl 33 (by decide) (hts _ hw_556) (fun _ h9 => h9) rfl d_MD_branch_22 ?_
    refine lv_iload_n hx hb d_MD_branch_25 rfl (lv_at hl 3 rfl) ?_
    refine lv_iload hx hb d_MD_branch_26 (lv_at hl 5 rfl) ?_
    refine xw_jnI (fun j => ∀ (sq : xw_S) (t0_78 : Int) (t1_78 : Int), j sq t0_78 t1_78 = some sZ → ∀ (H : Heap) (locs : List Loc) (ls : Array Slot), va_P D vwCl (xw_ws kdR 29 ad cs Z sq) H → va_S A s.heap H locs → lv_has ls 6 [] → W p l e (headSpec w_MD_branch ({ frames := 2, cells := 0, slots := 0, locals := 44 })).room s m [.ref (ad 0), .int (xw_i p1), .int (xw_i p2), .int (xw_i p3)].toArray below meth c H locs 0 0 (MQ below (va_Qv (fun u => u = sZ) (xw_H D vwCl A kdR 29 ad cs Z tt) A) [.ref (ad 0), .int (xw_i p1), .int (xw_i p2), .int (xw_i p3)].toArray s 0 0 A) (F0 m 78 ls [.int (xw_i t0_78), .int (xw_i t1_78), .ref (ad 23)])) h ?_ ?_
    · intro s29 t0_78 t1_78 h H locs ls hP hS hl
      obtain ⟨hg30, h⟩ := xw_grdI h
      refine xw_iast hx hb hK hP hD hS (by decide) kr_m_place (by decide) hg30 d_MD_branch_78 (fun s31 e32 H locs hP hS => ?_)
      replace h := xw_letI e32 h
      exact xw_vretE hx hb hr hlk hP hK hD hX hS h d_MD_branch_79
    · intro j78 hj78 h
      refine xw_jnI (fun j => ∀ (sq : xw_S) (t0_53 : Int), j sq t0_53 = some sZ → ∀ (H : Heap) (locs : List Loc) (ls : Array Slot), va_P D vwCl (xw_ws kdR 29 ad cs Z sq) H → va_S A s.heap H locs → lv_has ls 6 [(0, .ref (ad 0)), (1, .int (xw_i p1)), (2, .int (xw_i p2))] → W p l e (headSpec w_MD_branch ({ frames := 2, cells := 0, slots := 0, locals := 44 })).room s m [.ref (ad 0), .int (xw_i p1), .int (xw_i p2), .int (xw_i p3)].toArray below meth c H locs 0 0 (MQ below (va_Qv (fun u => u = sZ) (xw_H D vwCl A kdR 29 ad cs Z tt) A) [.ref (ad 0), .int (xw_i p1), .int (xw_i p2), .int (xw_i p3)].toArray s 0 0 A) (F0 m 53 ls [.int (xw_i t0_53), .ref (ad 23)])) h ?_ ?_
      · intro s24 t0_53 h H locs ls hP hS hl
        refine lv_aload_n hx hb d_MD_branch_53 rfl (lv_at hl 0 rfl) ?_
        refine lv_iload_n hx hb d_MD_branch_54 rfl (lv_at hl 1 rfl) ?_
        refine lv_aload_n hx hb d_MD_branch_55 rfl (lv_at hl 0 rfl) ?_
        refine xw_getR (C := "AdviceWeaverModel") (T := T_MD) hx hb hts hin_MD hown hK hP (by decide) kr_MD (by decide) rfl 33 (by decide) (hts _ hw_556) (fun _ h9 => h9) rfl d_MD_branch_56 ?_
        refine lv_iload_n hx hb d_MD_branch_59 rfl (lv_at hl 2 rfl) ?_
        obtain ⟨hg25, h⟩ := xw_grdI h
        refine xw_iald hx hb hK hP (by decide) kr_m_place (by decide) hg25 d_MD_branch_60 ?_
        obtain ⟨s26, r28, hc27, h⟩ := xw_bn2I h
        refine xw_callVi (C := "AdviceWeaverModel") (T := T_MD) ⟨hx, hb, hml, hown, hts⟩ (c_MD_target l D A ad cs Z tt fu s24 s26 p1 (s24.1 23 (p2).toNat) r28 hc27) (cwV 2 hts (gd_V hw_470 hw_471 hw_472 hw_433 hw_473) rfl rfl rfl (by decide +kernel) ⟨Nat.le_of_ble_eq_true rfl, Nat.le_of_ble_eq_true rfl⟩) hP hK hD hX hS (by decide) kr_MD (by decide) rfl rfl hl.1 rfl (Nat.le_of_ble_eq_true rfl) d_MD_branch_61 (fun H locs hP hS => ?_)
        refine lv_goto (tgt := 78) hx hb d_MD_branch_64 (by decide) ?_
        exact hj78 s26 r28 t0_53 h _ _ _ hP hS (lv_sub hl [] rfl)
      · intro j53 hj53 h
        obtain ⟨hg9, h⟩ := xw_grdI h
        refine xw_if_eq (tgt := 53) hx hb hg9 d_MD_branch_28 (by decide) (fun hc10 => ?_) (fun hc10 => ?_)
        · replace h := xw_ifT hc10 h
          exact hj53 s8 p2 h _ _ _ hP hS (lv_sub hl [1, 2, 3] rfl)
        · replace h := xw_ifF hc10 h
          refine lv_iload hx hb d_MD_branch_31 (lv_at hl 5 rfl) ?_
          refine lv_iconst (v := xw_i 1) hx hb d_MD_branch_33 rfl ?_
          refine xw_jnI (fun j => ∀ (sq : xw_S) (i4_42 : Int) (i5_42 : Int) (t0_42 : Int), j sq i4_42 i5_42 t0_42 = some sZ → ∀ (H : Heap) (locs : List Loc) (ls : Array Slot), va_P D vwCl (xw_ws kdR 29 ad cs Z sq) H → va_S A s.heap H locs → lv_has ls 6 [(0, .ref (ad 0)), (1, .int (xw_i p1)), (2, .int (xw_i p2)), (3, .int (xw_i p3)), (4, .int (xw_i i4_42)), (5, .int (xw_i i5_42))] → W p l e (headSpec w_MD_branch ({ frames := 2, cells := 0, slots := 0, locals := 44 })).room s m [.ref (ad 0), .int (xw_i p1), .int (xw_i p2), .int (xw_i p3)].toArray below meth c H locs 0 0 (MQ below (va_Qv (fun u => u = sZ) (xw_H D vwCl A kdR 29 ad cs Z tt) A) [.ref (ad 0), .int (xw_i p1), .int (xw_i p2), .int (xw_i p3)].toArray s 0 0 A) (F0 m 42 ls [.int (xw_i t0_42), .ref (ad 23)])) h ?_ ?_
          · intro s14 i4_42 i5_42 t0_42 h H locs ls hP hS hl
            refine lv_iload hx hb d_MD_branch_42 (lv_at hl 4 rfl) ?_
            refine lv_iconst (v := xw_i 2) hx hb d_MD_branch_44 rfl ?_
            refine xw_jnI (fun j => ∀ (sq : xw_S) (t0_67 : Int), j sq t0_67 = some sZ → ∀ (H : Heap) (locs : List Loc) (ls : Array Slot), va_P D vwCl (xw_ws kdR 29 ad cs Z sq) H → va_S A s.heap H locs → lv_has ls 6 [(0, .ref (ad 0)), (2, .int (xw_i p2)), (3, .int (xw_i p3))] → W p l e (headSpec w_MD_branch ({ frames := 2, cells := 0, slots := 0, locals := 44 })).room s m [.ref (ad 0), .int (xw_i p1), .int (xw_i p2), .int (xw_i p3)].toArray below meth c H locs 0 0 (MQ below (va_Qv (fun u => u = sZ) (xw_H D vwCl A kdR 29 ad cs Z tt) A) [.ref (ad 0), .int (xw_i p1), .int (xw_i p2), .int (xw_i p3)].toArray s 0 0 A) (F0 m 67 ls [.int (xw_i t0_67), .ref (ad 23)])) h ?_ ?_
            · intro s19 t0_67 h H locs ls hP hS hl
              refine lv_aload_n hx hb d_MD_branch_67 rfl (lv_at hl 0 rfl) ?_
              refine xw_getR (C := "AdviceWeaverModel") (T := T_MD) hx hb hts hin_MD hown hK hP (by decide) kr_MD (by decide) rfl 33 (by decide) (hts _ hw_556) (fun _ h9 => h9) rfl d_MD_branch_68 ?_
              refine lv_iload_n hx hb d_MD_branch_71 rfl (lv_at hl 1 rfl) ?_
              obtain ⟨hg20, h⟩ := xw_grdI h
              refine xw_iald hx hb hK hP (by decide) kr_m_place (by decide) hg20 d_MD_branch_72 ?_
              refine lv_iload_n hx hb d_MD_branch_73 rfl (lv_at hl 2 rfl) ?_
              obtain ⟨s21, r23, hc22, h⟩ := xw_bn2I h
              refine xw_callSi ⟨hx, hb, hml, hown, hts⟩ (c_MD_sizeOf l D A ad cs Z tt fu s19 s21 p3 r23 hc22) (va_cwS 1 hts (gd_S hw_456 hw_457 hw_433 hw_458) rfl rfl rfl (by decide +kernel) ⟨Nat.le_of_ble_eq_true rfl, Nat.le_of_ble_eq_true rfl⟩) hP hK hD hX hS rfl hl.1 rfl (Nat.le_of_ble_eq_true rfl) d_MD_branch_74 (fun H locs hP hS => ?_)
              refine xw_iadd hx hb d_MD_branch_77 ?_
              exact hj78 s21 ((s19.1 23 (p2).toNat) + r23) t0_67 h _ _ _ hP hS (lv_sub hl [] rfl)
            · intro j67 hj67 h
              obtain ⟨hg15, h⟩ := xw_grdI h
              refine xw_icmp_ne (tgt := 67) hx hb hg15 (by decide) d_MD_branch_45 (by decide) (fun hc16 => ?_) (fun hc16 => ?_)
              · replace h := xw_ifF hc16 h
                exact hj67 s14 t0_42 h _ _ _ hP hS (lv_sub hl [0, 2, 3] rfl)
              · replace h := xw_ifT hc16 h
                refine lv_iload hx hb d_MD_branch_48 (lv_at hl 5 rfl) ?_
                obtain ⟨hg17, h⟩ := xw_grdI h
                refine xw_if_ge (tgt := 67) hx hb hg17 d_MD_branch_50 (by decide) (fun hc18 => ?_) (fun hc18 => ?_)
                · replace h := xw_ifT hc18 h
                  exact hj67 s14 t0_42 h _ _ _ hP hS (lv_sub hl [0, 2, 3] rfl)
                · replace h := xw_ifF hc18 h
                  exact hj53 s14 t0_42 h _ _ _ hP hS (lv_sub hl [0, 1, 2] rfl)
          · intro j42 hj42 h
            refine xw_icmp_ne (tgt := 42) hx hb hg9 (by decide) d_MD_branch_34 (by decide) (fun hc11 => ?_) (fun hc11 => ?_)
            · replace h := xw_ifF hc11 h
              exact hj42 s8 i4_19 t0_19 p2 h _ _ _ hP hS (lv_sub hl [1, 2, 3, 4, 5, 0] rfl)
            · replace h := xw_ifT hc11 h
              refine lv_iload hx hb d_MD_branch_37 (lv_at hl 0 rfl) ?_
              obtain ⟨hg12, h⟩ := xw_grdI h
              refine xw_if_eq (tgt := 53) hx hb hg12 d_MD_branch_39 (by decide) (fun hc13 => ?_) (fun hc13 => ?_)
              · replace h := xw_ifT hc13 h
                exact hj53 s8 p2 h _ _ _ hP hS (lv_sub hl [1, 2, 3] rfl)
              · replace h := xw_ifF hc13 h
                exact hj42 s8 i4_19 t0_19 p2 h _ _ _ hP hS (lv_sub hl [1, 2, 3, 4, 5, 0] rfl)
  · intro j19 hj19 h
    obtain ⟨hg3, h⟩ := xw_grdI h
    refine xw_if_ne (tgt := 15) hx hb hg3 d_MD_branch_8 (by decide) (fun hc4 => ?_) (fun hc4 => ?_)
    · replace h := xw_ifF hc4 h
      refine lv_aload_n hx hb d_MD_branch_15 rfl (lv_at hl 1 rfl) ?_
      obtain ⟨s5, r7, hc6, h⟩ := xw_bn2I h
      refine xw_callVi (C := "AdviceWeaverModel") (T := T_MD) ⟨hx, hb, hml, hown, hts⟩ (c_MD_pop l D A ad cs Z tt fu s0 s5 r7 hc6) (cwV 0 hts (gd_V hw_560 hw_561 hw_562 hw_433 hw_563) rfl rfl rfl (by decide +kernel) ⟨Nat.le_of_ble_eq_true rfl, Nat.le_of_ble_eq_true rfl⟩) hP hK hD hX hS (by decide) kr_MD (by decide) rfl rfl hl.1 rfl (Nat.le_of_ble_eq_true rfl) d_MD_branch_16 (fun H locs hP hS => ?_)
      exact hj19 s5 v1 r7 h _ _ _ hP hS (lv_sub hl [1, 2, 3, 4, 0] rfl)
    · replace h := xw_ifT hc4 h
      refine lv_iconst (v := xw_i 0) hx hb d_MD_branch_11 rfl ?_
      refine lv_goto (tgt := 19) hx hb d_MD_branch_12 (by decide) ?_
      exact hj19 s0 v1 0 h _ _ _ hP hS (lv_sub hl [1, 2, 3, 4, 0] rfl)
def f_MD_push (fu : Nat) (s0 : xw_S) (p1 : Int) : Option xw_S :=
 xw_let ((s0.1 0 31) - 1) (fun v1 => xw_grd ((0 ≤ v1 ∧ v1 < ((8 : Nat) : Int))) (xw_grd ((0 ≤ (9 * v1) + (s0.1 24 (v1).toNat) ∧ (9 * v1) + (s0.1 24 (v1).toNat) < ((72 : Nat) : Int))) (xw_let (xw_st s0 26 ((9 * v1) + (s0.1 24 (v1).toNat)).toNat p1) (fun s5 => xw_let (xw_st s5 24 (v1).toNat ((s5.1 24 (v1).toNat) + 1)) (fun s7 => some s7)))))
set_option maxRecDepth 100000 in
set_option maxHeartbeats 4000000 in
theorem c_MD_push (l : Launch) (D : va_G) (A : Nat → Prop) (ad : Nat → Nat) (cs : Nat → ClassId) (Z : va_W) (tt : Nat → Nat) (fu : Nat) (s0 sZ : xw_S) (p1 : Int) (h : f_MD_push fu s0 p1 = some sZ) : Met l y_MD_push w_MD_push ({ frames := 0, cells := 0, slots := 0, locals := 0 }) (va_Pc [.ref (ad 0), .int (xw_i p1)] (xw_H D vwCl A kdR 29 ad cs Z tt s0)) (va_Qv (fun u => u = sZ) (xw_H D vwCl A kdR 29 ad cs Z tt) A) 0 0 A := by
  refine Met.ofW (cc := b_MD_push) (maxL := 3) (ret := none) (by decide) rfl ?_
  intro p e s m args below meth c s₁ B hml hv
  obtain ⟨rfl, hP, hK, hD, hX⟩ := hv
  have hx := B.exec
  have hb := B.bytes
  have hr := B.returns
  have hts0 := atoms_spec (ws := w_MD_push) B.pre
  have hts := fun w (hw : w ∈ wAll) => hts0 w (List.mem_cons_of_mem _ hw)
  have hown : s.vm.findClass "AdviceWeaverModel" = some m.cls := findClass_of_methodNamed B.named
  have hlk := B.notSynchronized
  clear hts0 B
  have hS : va_S A s.heap s.heap [] := va_S.rf
  have hl := lv_entry [.ref (ad 0), .int (xw_i p1)] (n := 3) (Nat.le_of_ble_eq_true rfl)
  rw [lg_entry_eq]
  generalize (lg_sl [.ref (ad 0), .int (xw_i p1)] ++ List.replicate (3 - (lg_sl [.ref (ad 0), .int (xw_i p1)]).length) Slot.unset).toArray = ls at hl ⊢
  have hl : lv_has ls 3 [(0, .ref (ad 0)), (1, .int (xw_i p1))] := hl
  unfold f_MD_push at h
  refine lv_aload_n hx hb d_MD_push_0 rfl (lv_at hl 0 rfl) ?_
  refine xw_getI (C := "AdviceWeaverModel") (T := T_MD) hx hb hts hin_MD hown hK hP (by decide) kr_MD (by decide) rfl 31 (by decide) (hts _ hw_555) (fun _ h9 => h9) rfl d_MD_push_1 ?_
  refine lv_iconst (v := xw_i 1) hx hb d_MD_push_4 rfl ?_
  refine xw_isub hx hb d_MD_push_5 ?_
  refine xw_topi (fun v1 e2 => ?_)
  replace h := xw_letI e2 h
  refine lv_istore_n hx hb d_MD_push_6 rfl hl (by decide) rfl (fun ls hl => ?_)
  refine lv_aload_n hx hb d_MD_push_7 rfl (lv_at hl 1 rfl) ?_
  refine xw_getR (C := "AdviceWeaverModel") (T := T_MD) hx hb hts hin_MD hown hK hP (by decide) kr_MD (by decide) rfl 36 (by decide) (hts _ hw_559) (fun _ h9 => h9) rfl d_MD_push_8 ?_
  refine lv_bipush (v := xw_i 9) hx hb d_MD_push_11 (by decide) ?_
  refine lv_iload_n hx hb d_MD_push_13 rfl (lv_at hl 0 rfl) ?_
  refine xw_imul hx hb d_MD_push_14 ?_
  refine lv_aload_n hx hb d_MD_push_15 rfl (lv_at hl 1 rfl) ?_
  refine xw_getR (C := "AdviceWeaverModel") (T := T_MD) hx hb hts hin_MD hown hK hP (by decide) kr_MD (by decide) rfl 34 (by decide) (hts _ hw_557) (fun _ h9 => h9) rfl d_MD_push_16 ?_
  refine lv_iload_n hx hb d_MD_push_19 rfl (lv_at hl 0 rfl) ?_
  obtain ⟨hg3, h⟩ := xw_grdI h
  refine xw_iald hx hb hK hP (by decide) kr_m_height (by decide) hg3 d_MD_push_20 ?_
  refine xw_iadd hx hb d_MD_push_21 ?_
  refine lv_iload_n hx hb d_MD_push_22 rfl (lv_at hl 2 rfl) ?_
  obtain ⟨hg4, h⟩ := xw_grdI h
  refine xw_iast hx hb hK hP hD hS (by decide) kr_m_stack (by decide) hg4 d_MD_push_23 (fun s5 e6 H locs hP hS => ?_)
  replace h := xw_letI e6 h
  refine lv_aload_n hx hb d_MD_push_24 rfl (lv_at hl 1 rfl) ?_
  refine xw_getR (C := "AdviceWeaverModel") (T := T_MD) hx hb hts hin_MD hown hK hP (by decide) kr_MD (by decide) rfl 34 (by decide) (hts _ hw_557) (fun _ h9 => h9) rfl d_MD_push_25 ?_
  refine lv_iload_n hx hb d_MD_push_28 rfl (lv_at hl 0 rfl) ?_
  refine lv_dup2_11 hx hb d_MD_push_29 rfl rfl ?_
  refine xw_iald hx hb hK hP (by decide) kr_m_height (by decide) hg3 d_MD_push_30 ?_
  refine lv_iconst (v := xw_i 1) hx hb d_MD_push_31 rfl ?_
  refine xw_iadd hx hb d_MD_push_32 ?_
  refine xw_iast hx hb hK hP hD hS (by decide) kr_m_height (by decide) hg3 d_MD_push_33 (fun s7 e8 H locs hP hS => ?_)
  replace h := xw_letI e8 h
  exact xw_vretE hx hb hr hlk hP hK hD hX hS h d_MD_push_34
def lp_MD_raise_27 (fu : Nat) (c1_27 : Int) (c2_27 : Int) (c3_27 : Int) (k104 : xw_S → Int → Int → Option xw_S) (k138 : xw_S → Option xw_S) : Nat → xw_S → Int → Option xw_S
  | 0, _, _ => none
  | n + 1, s11, i4_27 =>
    xw_grd ((0 ≤ c3_27 ∧ c3_27 < ((12 : Nat) : Int))) (xw_grd (xw_r i4_27 ∧ xw_r ((20 * c3_27) + (4 * (s11.1 8 (c3_27).toNat)))) (xw_if ((20 * c3_27) + (4 * (s11.1 8 (c3_27).toNat)) ≤ i4_27) (k138 s11)
     (xw_grd ((0 ≤ i4_27 ∧ i4_27 < ((240 : Nat) : Int))) (xw_grd ((0 ≤ c2_27 ∧ c2_27 < ((8 : Nat) : Int))) (xw_jn (fun (s27 : xw_S) (i4_132 : Int) => xw_let (i4_132 + 4) (fun v28 => lp_MD_raise_27 fu c1_27 c2_27 c3_27 k104 k138 n s27 v28))
     (fun (j132 : xw_S → Int → Option xw_S) => xw_grd (xw_r (s11.1 9 (i4_27).toNat) ∧ xw_r (s11.1 23 (c2_27).toNat)) (xw_if (s11.1 23 (c2_27).toNat < s11.1 9 (i4_27).toNat) (j132 s11 i4_27)
     (xw_grd ((0 ≤ i4_27 + 1 ∧ i4_27 + 1 < ((240 : Nat) : Int))) (xw_grd (xw_r (s11.1 9 (i4_27 + 1).toNat)) (xw_if (s11.1 9 (i4_27 + 1).toNat ≤ s11.1 23 (c2_27).toNat) (j132 s11 i4_27)
     (xw_grd ((0 ≤ i4_27 + 3 ∧ i4_27 + 3 < ((240 : Nat) : Int))) (xw_grd (xw_r (s11.1 9 (i4_27 + 3).toNat)) (xw_if (s11.1 9 (i4_27 + 3).toNat = 0) (k104 s11 c2_27 i4_27)
     (xw_grd (xw_r c1_27) (xw_if (s11.1 9 (i4_27 + 3).toNat = c1_27) (k104 s11 c2_27 i4_27)
     (j132 s11 i4_27))))))))))))))))
def lp_MD_raise_0 (fu : Nat) (c1_0 : Int) (k104 : xw_S → Int → Int → Option xw_S) (k151 : xw_S → Option xw_S) : Nat → xw_S → Option xw_S
  | 0, _ => none
  | n + 1, s1 =>
    xw_grd (xw_r (s1.1 0 31)) (xw_if (s1.1 0 31 ≤ 0) (k151 s1)
     (xw_let ((s1.1 0 31) - 1) (fun v4 => xw_grd ((0 ≤ v4 ∧ v4 < ((8 : Nat) : Int))) (xw_let (s1.1 22 (v4).toNat) (fun v7 => xw_let (20 * v7) (fun v9 => xw_jn (fun (s30 : xw_S) => xw_let (xw_st s30 0 31 ((s30.1 0 31) - 1)) (fun s31 => lp_MD_raise_0 fu c1_0 k104 k151 n s31))
     (fun (k138 : xw_S → Option xw_S) => lp_MD_raise_27 fu c1_0 v4 v7 k104 k138 fu s1 v9)))))))
def f_MD_raise (fu : Nat) (s0 : xw_S) (p1 : Int) : Option xw_S :=
 xw_jn (fun (s43 : xw_S) => xw_let (xw_st s43 0 37 1) (fun s44 => xw_let (xw_st s44 0 38 p1) (fun s46 => some s46)))
 (fun (k151 : xw_S → Option xw_S) => xw_jn (fun (s33 : xw_S) (i2_104 : Int) (i4_104 : Int) => xw_grd ((0 ≤ i2_104 ∧ i2_104 < ((8 : Nat) : Int))) (xw_let (xw_st s33 24 (i2_104).toNat 0) (fun s35 => xw_bnd (f_MD_push fu s35 p1) (fun s37 => xw_grd ((0 ≤ i4_104 + 2 ∧ i4_104 + 2 < ((240 : Nat) : Int))) (xw_let (xw_st s37 23 (i2_104).toNat (s37.1 9 (i4_104 + 2).toNat)) (fun s41 => some s41))))))
 (fun (k104 : xw_S → Int → Int → Option xw_S) => lp_MD_raise_0 fu p1 k104 k151 fu s0))
set_option maxRecDepth 100000 in
set_option maxHeartbeats 4000000 in
theorem c_MD_raise (l : Launch) (D : va_G) (A : Nat → Prop) (ad : Nat → Nat) (cs : Nat → ClassId) (Z : va_W) (tt : Nat → Nat) (fu : Nat) (s0 sZ : xw_S) (p1 : Int) (h : f_MD_raise fu s0 p1 = some sZ) : Met l y_MD_raise w_MD_raise ({ frames := 1, cells := 0, slots := 0, locals := 22 }) (va_Pc [.ref (ad 0), .int (xw_i p1)] (xw_H D vwCl A kdR 29 ad cs Z tt s0)) (va_Qv (fun u => u = sZ) (xw_H D vwCl A kdR 29 ad cs Z tt) A) 0 0 A := by
  refine Met.ofW (cc := b_MD_raise) (maxL := 5) (ret := none) (by decide) rfl ?_
  intro p e s m args below meth c s₁ B hml hv
  obtain ⟨rfl, hP, hK, hD, hX⟩ := hv
  have hx := B.exec
  have hb := B.bytes
  have hr := B.returns
  have hts0 := atoms_spec (ws := w_MD_raise) B.pre
  have hts := fun w (hw : w ∈ wAll) => hts0 w (List.mem_cons_of_mem _ hw)
  have hown : s.vm.findClass "AdviceWeaverModel" = some m.cls := findClass_of_methodNamed B.named
  have hlk := B.notSynchronized
  clear hts0 B
  have hS : va_S A s.heap s.heap [] := va_S.rf
  have hl := lv_entry [.ref (ad 0), .int (xw_i p1)] (n := 5) (Nat.le_of_ble_eq_true rfl)
  rw [lg_entry_eq]
  generalize (lg_sl [.ref (ad 0), .int (xw_i p1)] ++ List.replicate (5 - (lg_sl [.ref (ad 0), .int (xw_i p1)]).length) Slot.unset).toArray = ls at hl ⊢
  have hl : lv_has ls 5 [(0, .ref (ad 0)), (1, .int (xw_i p1))] := hl
  have hlp27 : ∀ (c1_27 : Int) (c2_27 : Int) (c3_27 : Int) (k104 : xw_S → Int → Int → Option xw_S) (hk104 : ∀ (sq : xw_S) (i2_104 : Int) (i4_104 : Int), k104 sq i2_104 i4_104 = some sZ → ∀ (H : Heap) (locs : List Loc) (ls : Array Slot), va_P D vwCl (xw_ws kdR 29 ad cs Z sq) H → va_S A s.heap H locs → lv_has ls 5 [(0, .ref (ad 0)), (1, .int (xw_i c1_27)), (2, .int (xw_i i2_104)), (4, .int (xw_i i4_104))] → W p l e (headSpec w_MD_raise ({ frames := 1, cells := 0, slots := 0, locals := 22 })).room s m [.ref (ad 0), .int (xw_i p1)].toArray below meth c H locs 0 0 (MQ below (va_Qv (fun u => u = sZ) (xw_H D vwCl A kdR 29 ad cs Z tt) A) [.ref (ad 0), .int (xw_i p1)].toArray s 0 0 A) (F0 m 104 ls [])) (k138 : xw_S → Option xw_S) (hk138 : ∀ (sq : xw_S), k138 sq = some sZ → ∀ (H : Heap) (locs : List Loc) (ls : Array Slot), va_P D vwCl (xw_ws kdR 29 ad cs Z sq) H → va_S A s.heap H locs → lv_has ls 5 [(0, .ref (ad 0)), (1, .int (xw_i c1_27))] → W p l e (headSpec w_MD_raise ({ frames := 1, cells := 0, slots := 0, locals := 22 })).room s m [.ref (ad 0), .int (xw_i p1)].toArray below meth c H locs 0 0 (MQ below (va_Qv (fun u => u = sZ) (xw_H D vwCl A kdR 29 ad cs Z tt) A) [.ref (ad 0), .int (xw_i p1)].toArray s 0 0 A) (F0 m 138 ls [])) (n : Nat), ∀ (sq : xw_S) (i4_27 : Int), lp_MD_raise_27 fu c1_27 c2_27 c3_27 k104 k138 n sq i4_27 = some sZ → ∀ (H : Heap) (locs : List Loc) (ls : Array Slot), va_P D vwCl (xw_ws kdR 29 ad cs Z sq) H → va_S A s.heap H locs → lv_has ls 5 [(0, .ref (ad 0)), (1, .int (xw_i c1_27)), (2, .int (xw_i c2_27)), (3, .int (xw_i c3_27)), (4, .int (xw_i i4_27))] → W p l e (headSpec w_MD_raise ({ frames := 1, cells := 0, slots := 0, locals := 22 })).room s m [.ref (ad 0), .int (xw_i p1)].toArray below meth c H locs 0 0 (MQ below (va_Qv (fun u => u = sZ) (xw_H D vwCl A kdR 29 ad cs Z tt) A) [.ref (ad 0), .int (xw_i p1)].toArray s 0 0 A) (F0 m 27 ls []) := by
    intro c1_27 c2_27 c3_27 k104 hk104 k138 hk138 n
    induction n with
    | zero =>
      intro sq i4_27 h
      cases (show (none : Option xw_S) = some sZ from h)
    | succ n ih27 =>
      intro s11 i4_27 h H locs ls hP hS hl
      unfold lp_MD_raise_27 at h
      refine lv_iload hx hb d_MD_raise_27 (lv_at hl 4 rfl) ?_
      refine lv_bipush (v := xw_i 20) hx hb d_MD_raise_29 (by decide) ?_
      refine lv_iload_n hx hb d_MD_raise_31 rfl (lv_at hl 3 rfl) ?_
      refine xw_imul hx hb d_MD_raise_32 ?_
      refine lv_iconst (v := xw_i 4) hx hb d_MD_raise_33 rfl ?_
      refine lv_aload_n hx hb d_MD_raise_34 rfl (lv_at hl 0 rfl) ?_
      refine xw_getR (C := "AdviceWeaverModel") (T := T_MD) hx hb hts hin_MD hown hK hP (by decide) kr_MD (by decide) rfl 8 (by decide) (hts _ hw_449) (fun _ h9 => h9) rfl d_MD_raise_35 ?_
      refine lv_iload_n hx hb d_MD_raise_38 rfl (lv_at hl 3 rfl) ?_
      obtain ⟨hg12, h⟩ := xw_grdI h
      refine xw_iald hx hb hK hP (by decide) kr_m_handlers (by decide) hg12 d_MD_raise_39 ?_
      refine xw_imul hx hb d_MD_raise_40 ?_
      refine xw_iadd hx hb d_MD_raise_41 ?_
      obtain ⟨hg13, h⟩ := xw_grdI h
      refine xw_icmp_ge (tgt := 138) hx hb hg13.1 hg13.2 d_MD_raise_42 (by decide) (fun hc14 => ?_) (fun hc14 => ?_)
      · replace h := xw_ifT hc14 h
        exact hk138 s11 h _ _ _ hP hS (lv_sub hl [0, 1] rfl)
      · replace h := xw_ifF hc14 h
        refine lv_aload_n hx hb d_MD_raise_45 rfl (lv_at hl 0 rfl) ?_
        refine xw_getR (C := "AdviceWeaverModel") (T := T_MD) hx hb hts hin_MD hown hK hP (by decide) kr_MD (by decide) rfl 9 (by decide) (hts _ hw_450) (fun _ h9 => h9) rfl d_MD_raise_46 ?_
        refine lv_iload hx hb d_MD_raise_49 (lv_at hl 4 rfl) ?_
        obtain ⟨hg15, h⟩ := xw_grdI h
        refine xw_iald hx hb hK hP (by decide) kr_m_handler (by decide) hg15 d_MD_raise_51 ?_
        refine lv_aload_n hx hb d_MD_raise_52 rfl (lv_at hl 0 rfl) ?_
        refine xw_getR (C := "AdviceWeaverModel") (T := T_MD) hx hb hts hin_MD hown hK hP (by decide) kr_MD (by decide) rfl 33 (by decide) (hts _ hw_556) (fun _ h9 => h9) rfl d_MD_raise_53 ?_
        refine lv_iload_n hx hb d_MD_raise_56 rfl (lv_at hl 2 rfl) ?_
        obtain ⟨hg16, h⟩ := xw_grdI h
        refine xw_iald hx hb hK hP (by decide) kr_m_place (by decide) hg16 d_MD_raise_57 ?_
        refine xw_jnI (fun j => ∀ (sq : xw_S) (i4_132 : Int), j sq i4_132 = some sZ → ∀ (H : Heap) (locs : List Loc) (ls : Array Slot), va_P D vwCl (xw_ws kdR 29 ad cs Z sq) H → va_S A s.heap H locs → lv_has ls 5 [(0, .ref (ad 0)), (1, .int (xw_i c1_27)), (2, .int (xw_i c2_27)), (3, .int (xw_i c3_27)), (4, .int (xw_i i4_132))] → W p l e (headSpec w_MD_raise ({ frames := 1, cells := 0, slots := 0, locals := 22 })).room s m [.ref (ad 0), .int (xw_i p1)].toArray below meth c H locs 0 0 (MQ below (va_Qv (fun u => u = sZ) (xw_H D vwCl A kdR 29 ad cs Z tt) A) [.ref (ad 0), .int (xw_i p1)].toArray s 0 0 A) (F0 m 132 ls [])) h ?_ ?_
        · intro s27 i4_132 h H locs ls hP hS hl
          obtain ⟨v28, e29⟩ : ∃ z, z = i4_132 + 4 := ⟨_, rfl⟩
          replace h := xw_letI e29 h
          refine xw_iinc (lv' := [(4, .int (xw_i v28)), (0, .ref (ad 0)), (1, .int (xw_i c1_27)), (2, .int (xw_i c2_27)), (3, .int (xw_i c3_27))]) hx hb d_MD_raise_132 hl (k := 4) rfl (by decide) (by rw [e29]; rfl) (fun ls hl => ?_)
          refine lv_goto (tgt := 27) hx hb d_MD_raise_135 (by decide) ?_
          exact ih27 s27 v28 h _ _ _ hP hS (lv_sub hl [1, 2, 3, 4, 0] rfl)
        · intro j132 hj132 h
          obtain ⟨hg17, h⟩ := xw_grdI h
          refine xw_icmp_gt (tgt := 132) hx hb hg17.1 hg17.2 d_MD_raise_58 (by decide) (fun hc18 => ?_) (fun hc18 => ?_)
          · replace h := xw_ifT hc18 h
            exact hj132 s11 i4_27 h _ _ _ hP hS (lv_sub hl [0, 1, 2, 3, 4] rfl)
          · replace h := xw_ifF hc18 h
            refine lv_aload_n hx hb d_MD_raise_61 rfl (lv_at hl 0 rfl) ?_
            refine xw_getR (C := "AdviceWeaverModel") (T := T_MD) hx hb hts hin_MD hown hK hP (by decide) kr_MD (by decide) rfl 33 (by decide) (hts _ hw_556) (fun _ h9 => h9) rfl d_MD_raise_62 ?_
            refine lv_iload_n hx hb d_MD_raise_65 rfl (lv_at hl 2 rfl) ?_
            refine xw_iald hx hb hK hP (by decide) kr_m_place (by decide) hg16 d_MD_raise_66 ?_
            refine lv_aload_n hx hb d_MD_raise_67 rfl (lv_at hl 0 rfl) ?_
            refine xw_getR (C := "AdviceWeaverModel") (T := T_MD) hx hb hts hin_MD hown hK hP (by decide) kr_MD (by decide) rfl 9 (by decide) (hts _ hw_450) (fun _ h9 => h9) rfl d_MD_raise_68 ?_
            refine lv_iload hx hb d_MD_raise_71 (lv_at hl 4 rfl) ?_
            refine lv_iconst (v := xw_i 1) hx hb d_MD_raise_73 rfl ?_
            refine xw_iadd hx hb d_MD_raise_74 ?_
            obtain ⟨hg19, h⟩ := xw_grdI h
            refine xw_iald hx hb hK hP (by decide) kr_m_handler (by decide) hg19 d_MD_raise_75 ?_
            obtain ⟨hg20, h⟩ := xw_grdI h
            refine xw_icmp_ge (tgt := 132) hx hb hg17.2 hg20 d_MD_raise_76 (by decide) (fun hc21 => ?_) (fun hc21 => ?_)
            · replace h := xw_ifT hc21 h
              exact hj132 s11 i4_27 h _ _ _ hP hS (lv_sub hl [0, 1, 2, 3, 4] rfl)
            · replace h := xw_ifF hc21 h
              refine lv_aload_n hx hb d_MD_raise_79 rfl (lv_at hl 0 rfl) ?_
              refine xw_getR (C := "AdviceWeaverModel") (T := T_MD) hx hb hts hin_MD hown hK hP (by decide) kr_MD (by decide) rfl 9 (by decide) (hts _ hw_450) (fun _ h9 => h9) rfl d_MD_raise_80 ?_
              refine lv_iload hx hb d_MD_raise_83 (lv_at hl 4 rfl) ?_
              refine lv_iconst (v := xw_i 3) hx hb d_MD_raise_85 rfl ?_
              refine xw_iadd hx hb d_MD_raise_86 ?_
              obtain ⟨hg22, h⟩ := xw_grdI h
              refine xw_iald hx hb hK hP (by decide) kr_m_handler (by decide) hg22 d_MD_raise_87 ?_
              obtain ⟨hg23, h⟩ := xw_grdI h
              refine xw_if_eq (tgt := 104) hx hb hg23 d_MD_raise_88 (by decide) (fun hc24 => ?_) (fun hc24 => ?_)
              · replace h := xw_ifT hc24 h
                exact hk104 s11 c2_27 i4_27 h _ _ _ hP hS (lv_sub hl [0, 1, 2, 4] rfl)
              · replace h := xw_ifF hc24 h
                refine lv_aload_n hx hb d_MD_raise_91 rfl (lv_at hl 0 rfl) ?_
                refine xw_getR (C := "AdviceWeaverModel") (T := T_MD) hx hb hts hin_MD hown hK hP (by decide) kr_MD (by decide) rfl 9 (by decide) (hts _ hw_450) (fun _ h9 => h9) rfl d_MD_raise_92 ?_
                refine lv_iload hx hb d_MD_raise_95 (lv_at hl 4 rfl) ?_
                refine lv_iconst (v := xw_i 3) hx hb d_MD_raise_97 rfl ?_
                refine xw_iadd hx hb d_MD_raise_98 ?_
                refine xw_iald hx hb hK hP (by decide) kr_m_handler (by decide) hg22 d_MD_raise_99 ?_
                refine lv_iload_n hx hb d_MD_raise_100 rfl (lv_at hl 1 rfl) ?_
                obtain ⟨hg25, h⟩ := xw_grdI h
                refine xw_icmp_ne (tgt := 132) hx hb hg23 hg25 d_MD_raise_101 (by decide) (fun hc26 => ?_) (fun hc26 => ?_)
                · replace h := xw_ifF hc26 h
                  exact hj132 s11 i4_27 h _ _ _ hP hS (lv_sub hl [0, 1, 2, 3, 4] rfl)
                · replace h := xw_ifT hc26 h
                  exact hk104 s11 c2_27 i4_27 h _ _ _ hP hS (lv_sub hl [0, 1, 2, 4] rfl)
  have hlp0 : ∀ (c1_0 : Int) (k104 : xw_S → Int → Int → Option xw_S) (hk104 : ∀ (sq : xw_S) (i2_104 : Int) (i4_104 : Int), k104 sq i2_104 i4_104 = some sZ → ∀ (H : Heap) (locs : List Loc) (ls : Array Slot), va_P D vwCl (xw_ws kdR 29 ad cs Z sq) H → va_S A s.heap H locs → lv_has ls 5 [(0, .ref (ad 0)), (1, .int (xw_i c1_0)), (2, .int (xw_i i2_104)), (4, .int (xw_i i4_104))] → W p l e (headSpec w_MD_raise ({ frames := 1, cells := 0, slots := 0, locals := 22 })).room s m [.ref (ad 0), .int (xw_i p1)].toArray below meth c H locs 0 0 (MQ below (va_Qv (fun u => u = sZ) (xw_H D vwCl A kdR 29 ad cs Z tt) A) [.ref (ad 0), .int (xw_i p1)].toArray s 0 0 A) (F0 m 104 ls [])) (k151 : xw_S → Option xw_S) (hk151 : ∀ (sq : xw_S), k151 sq = some sZ → ∀ (H : Heap) (locs : List Loc) (ls : Array Slot), va_P D vwCl (xw_ws kdR 29 ad cs Z sq) H → va_S A s.heap H locs → lv_has ls 5 [(0, .ref (ad 0)), (1, .int (xw_i c1_0))] → W p l e (headSpec w_MD_raise ({ frames := 1, cells := 0, slots := 0, locals := 22 })).room s m [.ref (ad 0), .int (xw_i p1)].toArray below meth c H locs 0 0 (MQ below (va_Qv (fun u => u = sZ) (xw_H D vwCl A kdR 29 ad cs Z tt) A) [.ref (ad 0), .int (xw_i p1)].toArray s 0 0 A) (F0 m 151 ls [])) (n : Nat), ∀ (sq : xw_S), lp_MD_raise_0 fu c1_0 k104 k151 n sq = some sZ → ∀ (H : Heap) (locs : List Loc) (ls : Array Slot), va_P D vwCl (xw_ws kdR 29 ad cs Z sq) H → va_S A s.heap H locs → lv_has ls 5 [(0, .ref (ad 0)), (1, .int (xw_i c1_0))] → W p l e (headSpec w_MD_raise ({ frames := 1, cells := 0, slots := 0, locals := 22 })).room s m [.ref (ad 0), .int (xw_i p1)].toArray below meth c H locs 0 0 (MQ below (va_Qv (fun u => u = sZ) (xw_H D vwCl A kdR 29 ad cs Z tt) A) [.ref (ad 0), .int (xw_i p1)].toArray s 0 0 A) (F0 m 0 ls []) := by
    intro c1_0 k104 hk104 k151 hk151 n
    induction n with
    | zero =>
      intro sq h
      cases (show (none : Option xw_S) = some sZ from h)
    | succ n ih0 =>
      intro s1 h H locs ls hP hS hl
      unfold lp_MD_raise_0 at h
      refine lv_aload_n hx hb d_MD_raise_0 rfl (lv_at hl 0 rfl) ?_
      refine xw_getI (C := "AdviceWeaverModel") (T := T_MD) hx hb hts hin_MD hown hK hP (by decide) kr_MD (by decide) rfl 31 (by decide) (hts _ hw_555) (fun _ h9 => h9) rfl d_MD_raise_1 ?_
      obtain ⟨hg2, h⟩ := xw_grdI h
      refine xw_if_le (tgt := 151) hx hb hg2 d_MD_raise_4 (by decide) (fun hc3 => ?_) (fun hc3 => ?_)
      · replace h := xw_ifT hc3 h
        exact hk151 s1 h _ _ _ hP hS (lv_sub hl [0, 1] rfl)
      · replace h := xw_ifF hc3 h
        refine lv_aload_n hx hb d_MD_raise_7 rfl (lv_at hl 0 rfl) ?_
        refine xw_getI (C := "AdviceWeaverModel") (T := T_MD) hx hb hts hin_MD hown hK hP (by decide) kr_MD (by decide) rfl 31 (by decide) (hts _ hw_555) (fun _ h9 => h9) rfl d_MD_raise_8 ?_
        refine lv_iconst (v := xw_i 1) hx hb d_MD_raise_11 rfl ?_
        refine xw_isub hx hb d_MD_raise_12 ?_
        refine xw_topi (fun v4 e5 => ?_)
        replace h := xw_letI e5 h
        refine lv_istore_n hx hb d_MD_raise_13 rfl hl (by decide) rfl (fun ls hl => ?_)
        refine lv_aload_n hx hb d_MD_raise_14 rfl (lv_at hl 1 rfl) ?_
        refine xw_getR (C := "AdviceWeaverModel") (T := T_MD) hx hb hts hin_MD hown hK hP (by decide) kr_MD (by decide) rfl 32 (by decide) (hts _ hw_554) (fun _ h9 => h9) rfl d_MD_raise_15 ?_
        refine lv_iload_n hx hb d_MD_raise_18 rfl (lv_at hl 0 rfl) ?_
        obtain ⟨hg6, h⟩ := xw_grdI h
        refine xw_iald hx hb hK hP (by decide) kr_m_method (by decide) hg6 d_MD_raise_19 ?_
        refine xw_topi (fun v7 e8 => ?_)
        replace h := xw_letI e8 h
        refine lv_istore_n hx hb d_MD_raise_20 rfl hl (by decide) rfl (fun ls hl => ?_)
        refine lv_bipush (v := xw_i 20) hx hb d_MD_raise_21 (by decide) ?_
        refine lv_iload_n hx hb d_MD_raise_23 rfl (lv_at hl 0 rfl) ?_
        refine xw_imul hx hb d_MD_raise_24 ?_
        refine xw_topi (fun v9 e10 => ?_)
        replace h := xw_letI e10 h
        refine lv_istore hx hb d_MD_raise_25 hl (by decide) rfl (fun ls hl => ?_)
        refine xw_jnI (fun j => ∀ (sq : xw_S), j sq = some sZ → ∀ (H : Heap) (locs : List Loc) (ls : Array Slot), va_P D vwCl (xw_ws kdR 29 ad cs Z sq) H → va_S A s.heap H locs → lv_has ls 5 [(0, .ref (ad 0)), (1, .int (xw_i c1_0))] → W p l e (headSpec w_MD_raise ({ frames := 1, cells := 0, slots := 0, locals := 22 })).room s m [.ref (ad 0), .int (xw_i p1)].toArray below meth c H locs 0 0 (MQ below (va_Qv (fun u => u = sZ) (xw_H D vwCl A kdR 29 ad cs Z tt) A) [.ref (ad 0), .int (xw_i p1)].toArray s 0 0 A) (F0 m 138 ls [])) h ?_ ?_
        · intro s30 h H locs ls hP hS hl
          refine lv_aload_n hx hb d_MD_raise_138 rfl (lv_at hl 0 rfl) ?_
          refine lv_dup hx hb d_MD_raise_139 rfl ?_
          refine xw_getI (C := "AdviceWeaverModel") (T := T_MD) hx hb hts hin_MD hown hK hP (by decide) kr_MD (by decide) rfl 31 (by decide) (hts _ hw_555) (fun _ h9 => h9) rfl d_MD_raise_140 ?_
          refine lv_iconst (v := xw_i 1) hx hb d_MD_raise_143 rfl ?_
          refine xw_isub hx hb d_MD_raise_144 ?_
          refine xw_putI (C := "AdviceWeaverModel") (T := T_MD) hx hb hts hin_MD ty_MD ty_MD_ok nm_MD hown hK hP hD hS (by decide) kr_MD (by decide) rfl 31 (by decide) (hts _ hw_555) (fun _ h9 => h9) rfl (by decide +kernel) rfl d_MD_raise_145 (fun s31 e32 H locs hP hS => ?_)
          replace h := xw_letI e32 h
          refine lv_goto (tgt := 0) hx hb d_MD_raise_148 (by decide) ?_
          exact ih0 s31 h _ _ _ hP hS (lv_sub hl [0, 1] rfl)
        · intro k138 hk138 h
          exact hlp27 c1_0 v4 v7 k104 hk104 k138 hk138 fu s1 v9 h _ _ _ hP hS (lv_sub hl [3, 4, 2, 1, 0] rfl)
  unfold f_MD_raise at h
  refine xw_jnI (fun j => ∀ (sq : xw_S), j sq = some sZ → ∀ (H : Heap) (locs : List Loc) (ls : Array Slot), va_P D vwCl (xw_ws kdR 29 ad cs Z sq) H → va_S A s.heap H locs → lv_has ls 5 [(0, .ref (ad 0)), (1, .int (xw_i p1))] → W p l e (headSpec w_MD_raise ({ frames := 1, cells := 0, slots := 0, locals := 22 })).room s m [.ref (ad 0), .int (xw_i p1)].toArray below meth c H locs 0 0 (MQ below (va_Qv (fun u => u = sZ) (xw_H D vwCl A kdR 29 ad cs Z tt) A) [.ref (ad 0), .int (xw_i p1)].toArray s 0 0 A) (F0 m 151 ls [])) h ?_ ?_
  · intro s43 h H locs ls hP hS hl
    refine lv_aload_n hx hb d_MD_raise_151 rfl (lv_at hl 0 rfl) ?_
    refine lv_iconst (v := xw_i 1) hx hb d_MD_raise_152 rfl ?_
    refine xw_putI (C := "AdviceWeaverModel") (T := T_MD) hx hb hts hin_MD ty_MD ty_MD_ok nm_MD hown hK hP hD hS (by decide) kr_MD (by decide) rfl 37 (by decide) (hts _ hw_568) (fun _ h9 => h9) rfl (by decide +kernel) rfl d_MD_raise_153 (fun s44 e45 H locs hP hS => ?_)
    replace h := xw_letI e45 h
    refine lv_aload_n hx hb d_MD_raise_156 rfl (lv_at hl 0 rfl) ?_
    refine lv_iload_n hx hb d_MD_raise_157 rfl (lv_at hl 1 rfl) ?_
    refine xw_putI (C := "AdviceWeaverModel") (T := T_MD) hx hb hts hin_MD ty_MD ty_MD_ok nm_MD hown hK hP hD hS (by decide) kr_MD (by decide) rfl 38 (by decide) (hts _ hw_569) (fun _ h9 => h9) rfl (by decide +kernel) rfl d_MD_raise_158 (fun s46 e47 H locs hP hS => ?_)
    replace h := xw_letI e47 h
    exact xw_vretE hx hb hr hlk hP hK hD hX hS h d_MD_raise_161
  · intro k151 hk151 h
    refine xw_jnI (fun j => ∀ (sq : xw_S) (i2_104 : Int) (i4_104 : Int), j sq i2_104 i4_104 = some sZ → ∀ (H : Heap) (locs : List Loc) (ls : Array Slot), va_P D vwCl (xw_ws kdR 29 ad cs Z sq) H → va_S A s.heap H locs → lv_has ls 5 [(0, .ref (ad 0)), (1, .int (xw_i p1)), (2, .int (xw_i i2_104)), (4, .int (xw_i i4_104))] → W p l e (headSpec w_MD_raise ({ frames := 1, cells := 0, slots := 0, locals := 22 })).room s m [.ref (ad 0), .int (xw_i p1)].toArray below meth c H locs 0 0 (MQ below (va_Qv (fun u => u = sZ) (xw_H D vwCl A kdR 29 ad cs Z tt) A) [.ref (ad 0), .int (xw_i p1)].toArray s 0 0 A) (F0 m 104 ls [])) h ?_ ?_
    · intro s33 i2_104 i4_104 h H locs ls hP hS hl
      refine lv_aload_n hx hb d_MD_raise_104 rfl (lv_at hl 0 rfl) ?_
      refine xw_getR (C := "AdviceWeaverModel") (T := T_MD) hx hb hts hin_MD hown hK hP (by decide) kr_MD (by decide) rfl 34 (by decide) (hts _ hw_557) (fun _ h9 => h9) rfl d_MD_raise_105 ?_
      refine lv_iload_n hx hb d_MD_raise_108 rfl (lv_at hl 2 rfl) ?_
      refine lv_iconst (v := xw_i 0) hx hb d_MD_raise_109 rfl ?_
      obtain ⟨hg34, h⟩ := xw_grdI h
      refine xw_iast hx hb hK hP hD hS (by decide) kr_m_height (by decide) hg34 d_MD_raise_110 (fun s35 e36 H locs hP hS => ?_)
      replace h := xw_letI e36 h
      refine lv_aload_n hx hb d_MD_raise_111 rfl (lv_at hl 0 rfl) ?_
      refine lv_iload_n hx hb d_MD_raise_112 rfl (lv_at hl 1 rfl) ?_
      obtain ⟨s37, hc38, h⟩ := xw_bndI h
      refine xw_callVv (C := "AdviceWeaverModel") (T := T_MD) ⟨hx, hb, hml, hown, hts⟩ (c_MD_push l D A ad cs Z tt fu s35 s37 p1 hc38) (cwV 1 hts (gd_V hw_564 hw_565 hw_566 hw_433 hw_567) rfl rfl rfl (by decide +kernel) ⟨Nat.le_of_ble_eq_true rfl, Nat.le_of_ble_eq_true rfl⟩) hP hK hD hX hS (by decide) kr_MD (by decide) rfl rfl hl.1 rfl (Nat.le_of_ble_eq_true rfl) d_MD_raise_113 (fun H locs hP hS => ?_)
      refine lv_aload_n hx hb d_MD_raise_116 rfl (lv_at hl 0 rfl) ?_
      refine xw_getR (C := "AdviceWeaverModel") (T := T_MD) hx hb hts hin_MD hown hK hP (by decide) kr_MD (by decide) rfl 33 (by decide) (hts _ hw_556) (fun _ h9 => h9) rfl d_MD_raise_117 ?_
      refine lv_iload_n hx hb d_MD_raise_120 rfl (lv_at hl 2 rfl) ?_
      refine lv_aload_n hx hb d_MD_raise_121 rfl (lv_at hl 0 rfl) ?_
      refine xw_getR (C := "AdviceWeaverModel") (T := T_MD) hx hb hts hin_MD hown hK hP (by decide) kr_MD (by decide) rfl 9 (by decide) (hts _ hw_450) (fun _ h9 => h9) rfl d_MD_raise_122 ?_
      refine lv_iload hx hb d_MD_raise_125 (lv_at hl 3 rfl) ?_
      refine lv_iconst (v := xw_i 2) hx hb d_MD_raise_127 rfl ?_
      refine xw_iadd hx hb d_MD_raise_128 ?_
      obtain ⟨hg40, h⟩ := xw_grdI h
      refine xw_iald hx hb hK hP (by decide) kr_m_handler (by decide) hg40 d_MD_raise_129 ?_
      refine xw_iast hx hb hK hP hD hS (by decide) kr_m_place (by decide) hg34 d_MD_raise_130 (fun s41 e42 H locs hP hS => ?_)
      replace h := xw_letI e42 h
      exact xw_vretE hx hb hr hlk hP hK hD hX hS h d_MD_raise_131
    · intro k104 hk104 h
      exact hlp0 p1 k104 hk104 k151 hk151 fu s0 h _ _ _ hP hS (lv_sub hl [0, 1] rfl)
def f_MD_calculate (fu : Nat) (s0 : xw_S) (p1 : Int) : Option xw_S :=
 xw_bn2 (f_MD_pop fu s0) (fun s1 r3 => xw_bn2 (f_MD_pop fu s1) (fun s4 r6 => xw_jn (fun (s14 : xw_S) (i2_26 : Int) (i3_26 : Int) => xw_jn (fun (s20 : xw_S) (t0_64 : Int) => xw_bnd (f_MD_push fu s20 t0_64) (fun s21 => xw_grd ((0 ≤ (s21.1 0 31) - 1 ∧ (s21.1 0 31) - 1 < ((8 : Nat) : Int))) (xw_let (xw_st s21 23 ((s21.1 0 31) - 1).toNat ((s21.1 23 ((s21.1 0 31) - 1).toNat) + 1)) (fun s25 => some s25))))
 (fun (j64 : xw_S → Int → Option xw_S) => xw_grd (xw_r p1) (xw_if (p1 = 4) (j64 s14 (xw_wr (i3_26 + i2_26)))
 (xw_if (p1 = 5) (j64 s14 (xw_wr (i3_26 - i2_26)))
 (xw_if (p1 = 6) (j64 s14 (xw_wr (i3_26 * i2_26)))
 (xw_grd (xw_r i2_26 ∧ ¬ i2_26 = 0) (j64 s14 (xw_dv i3_26 i2_26))))))))
 (fun (j26 : xw_S → Int → Int → Option xw_S) => xw_grd (xw_r p1) (xw_if (p1 = 7) (xw_grd (xw_r r3) (xw_if (r3 = 0) (xw_bnd (f_MD_raise fu s4 1) (fun s11 => some s11))
 (j26 s4 r3 r6)))
 (j26 s4 r3 r6)))))
set_option maxRecDepth 100000 in
set_option maxHeartbeats 4000000 in
theorem c_MD_calculate (l : Launch) (D : va_G) (A : Nat → Prop) (ad : Nat → Nat) (cs : Nat → ClassId) (Z : va_W) (tt : Nat → Nat) (fu : Nat) (s0 sZ : xw_S) (p1 : Int) (h : f_MD_calculate fu s0 p1 = some sZ) : Met l y_MD_calculate w_MD_calculate ({ frames := 2, cells := 0, slots := 0, locals := 46 }) (va_Pc [.ref (ad 0), .int (xw_i p1)] (xw_H D vwCl A kdR 29 ad cs Z tt s0)) (va_Qv (fun u => u = sZ) (xw_H D vwCl A kdR 29 ad cs Z tt) A) 0 0 A := by
  refine Met.ofW (cc := b_MD_calculate) (maxL := 4) (ret := none) (by decide) rfl ?_
  intro p e s m args below meth c s₁ B hml hv
  obtain ⟨rfl, hP, hK, hD, hX⟩ := hv
  have hx := B.exec
  have hb := B.bytes
  have hr := B.returns
  have hts0 := atoms_spec (ws := w_MD_calculate) B.pre
  have hts := fun w (hw : w ∈ wAll) => hts0 w (List.mem_cons_of_mem _ hw)
  have hown : s.vm.findClass "AdviceWeaverModel" = some m.cls := findClass_of_methodNamed B.named
  have hlk := B.notSynchronized
  clear hts0 B
  have hS : va_S A s.heap s.heap [] := va_S.rf
  have hl := lv_entry [.ref (ad 0), .int (xw_i p1)] (n := 4) (Nat.le_of_ble_eq_true rfl)
  rw [lg_entry_eq]
  generalize (lg_sl [.ref (ad 0), .int (xw_i p1)] ++ List.replicate (4 - (lg_sl [.ref (ad 0), .int (xw_i p1)]).length) Slot.unset).toArray = ls at hl ⊢
  have hl : lv_has ls 4 [(0, .ref (ad 0)), (1, .int (xw_i p1))] := hl
  unfold f_MD_calculate at h
  refine lv_aload_n hx hb d_MD_calculate_0 rfl (lv_at hl 0 rfl) ?_
  obtain ⟨s1, r3, hc2, h⟩ := xw_bn2I h
  refine xw_callVi (C := "AdviceWeaverModel") (T := T_MD) ⟨hx, hb, hml, hown, hts⟩ (c_MD_pop l D A ad cs Z tt fu s0 s1 r3 hc2) (cwV 0 hts (gd_V hw_560 hw_561 hw_562 hw_433 hw_563) rfl rfl rfl (by decide +kernel) ⟨Nat.le_of_ble_eq_true rfl, Nat.le_of_ble_eq_true rfl⟩) hP hK hD hX hS (by decide) kr_MD (by decide) rfl rfl hl.1 rfl (Nat.le_of_ble_eq_true rfl) d_MD_calculate_1 (fun H locs hP hS => ?_)
  refine lv_istore_n hx hb d_MD_calculate_4 rfl hl (by decide) rfl (fun ls hl => ?_)
  refine lv_aload_n hx hb d_MD_calculate_5 rfl (lv_at hl 1 rfl) ?_
  obtain ⟨s4, r6, hc5, h⟩ := xw_bn2I h
  refine xw_callVi (C := "AdviceWeaverModel") (T := T_MD) ⟨hx, hb, hml, hown, hts⟩ (c_MD_pop l D A ad cs Z tt fu s1 s4 r6 hc5) (cwV 0 hts (gd_V hw_560 hw_561 hw_562 hw_433 hw_563) rfl rfl rfl (by decide +kernel) ⟨Nat.le_of_ble_eq_true rfl, Nat.le_of_ble_eq_true rfl⟩) hP hK hD hX hS (by decide) kr_MD (by decide) rfl rfl hl.1 rfl (Nat.le_of_ble_eq_true rfl) d_MD_calculate_6 (fun H locs hP hS => ?_)
  refine lv_istore_n hx hb d_MD_calculate_9 rfl hl (by decide) rfl (fun ls hl => ?_)
  refine lv_iload_n hx hb d_MD_calculate_10 rfl (lv_at hl 3 rfl) ?_
  refine lv_bipush (v := xw_i 7) hx hb d_MD_calculate_11 (by decide) ?_
  refine xw_jnI (fun j => ∀ (sq : xw_S) (i2_26 : Int) (i3_26 : Int), j sq i2_26 i3_26 = some sZ → ∀ (H : Heap) (locs : List Loc) (ls : Array Slot), va_P D vwCl (xw_ws kdR 29 ad cs Z sq) H → va_S A s.heap H locs → lv_has ls 4 [(0, .ref (ad 0)), (1, .int (xw_i p1)), (2, .int (xw_i i2_26)), (3, .int (xw_i i3_26))] → W p l e (headSpec w_MD_calculate ({ frames := 2, cells := 0, slots := 0, locals := 46 })).room s m [.ref (ad 0), .int (xw_i p1)].toArray below meth c H locs 0 0 (MQ below (va_Qv (fun u => u = sZ) (xw_H D vwCl A kdR 29 ad cs Z tt) A) [.ref (ad 0), .int (xw_i p1)].toArray s 0 0 A) (F0 m 26 ls [])) h ?_ ?_
  · intro s14 i2_26 i3_26 h H locs ls hP hS hl
    refine lv_aload_n hx hb d_MD_calculate_26 rfl (lv_at hl 0 rfl) ?_
    refine lv_iload_n hx hb d_MD_calculate_27 rfl (lv_at hl 1 rfl) ?_
    refine lv_iconst (v := xw_i 4) hx hb d_MD_calculate_28 rfl ?_
    refine xw_jnI (fun j => ∀ (sq : xw_S) (t0_64 : Int), j sq t0_64 = some sZ → ∀ (H : Heap) (locs : List Loc) (ls : Array Slot), va_P D vwCl (xw_ws kdR 29 ad cs Z sq) H → va_S A s.heap H locs → lv_has ls 4 [(0, .ref (ad 0))] → W p l e (headSpec w_MD_calculate ({ frames := 2, cells := 0, slots := 0, locals := 46 })).room s m [.ref (ad 0), .int (xw_i p1)].toArray below meth c H locs 0 0 (MQ below (va_Qv (fun u => u = sZ) (xw_H D vwCl A kdR 29 ad cs Z tt) A) [.ref (ad 0), .int (xw_i p1)].toArray s 0 0 A) (F0 m 64 ls [.int (xw_i t0_64), .ref (ad 0)])) h ?_ ?_
    · intro s20 t0_64 h H locs ls hP hS hl
      obtain ⟨s21, hc22, h⟩ := xw_bndI h
      refine xw_callVv (C := "AdviceWeaverModel") (T := T_MD) ⟨hx, hb, hml, hown, hts⟩ (c_MD_push l D A ad cs Z tt fu s20 s21 t0_64 hc22) (cwV 1 hts (gd_V hw_564 hw_565 hw_566 hw_433 hw_567) rfl rfl rfl (by decide +kernel) ⟨Nat.le_of_ble_eq_true rfl, Nat.le_of_ble_eq_true rfl⟩) hP hK hD hX hS (by decide) kr_MD (by decide) rfl rfl hl.1 rfl (Nat.le_of_ble_eq_true rfl) d_MD_calculate_64 (fun H locs hP hS => ?_)
      refine lv_aload_n hx hb d_MD_calculate_67 rfl (lv_at hl 0 rfl) ?_
      refine xw_getR (C := "AdviceWeaverModel") (T := T_MD) hx hb hts hin_MD hown hK hP (by decide) kr_MD (by decide) rfl 33 (by decide) (hts _ hw_556) (fun _ h9 => h9) rfl d_MD_calculate_68 ?_
      refine lv_aload_n hx hb d_MD_calculate_71 rfl (lv_at hl 0 rfl) ?_
      refine xw_getI (C := "AdviceWeaverModel") (T := T_MD) hx hb hts hin_MD hown hK hP (by decide) kr_MD (by decide) rfl 31 (by decide) (hts _ hw_555) (fun _ h9 => h9) rfl d_MD_calculate_72 ?_
      refine lv_iconst (v := xw_i 1) hx hb d_MD_calculate_75 rfl ?_
      refine xw_isub hx hb d_MD_calculate_76 ?_
      refine lv_dup2_11 hx hb d_MD_calculate_77 rfl rfl ?_
      obtain ⟨hg24, h⟩ := xw_grdI h
      refine xw_iald hx hb hK hP (by decide) kr_m_place (by decide) hg24 d_MD_calculate_78 ?_
      refine lv_iconst (v := xw_i 1) hx hb d_MD_calculate_79 rfl ?_
      refine xw_iadd hx hb d_MD_calculate_80 ?_
      refine xw_iast hx hb hK hP hD hS (by decide) kr_m_place (by decide) hg24 d_MD_calculate_81 (fun s25 e26 H locs hP hS => ?_)
      replace h := xw_letI e26 h
      exact xw_vretE hx hb hr hlk hP hK hD hX hS h d_MD_calculate_82
    · intro j64 hj64 h
      obtain ⟨hg15, h⟩ := xw_grdI h
      refine xw_icmp_ne (tgt := 38) hx hb hg15 (by decide) d_MD_calculate_29 (by decide) (fun hc16 => ?_) (fun hc16 => ?_)
      · replace h := xw_ifF hc16 h
        refine lv_iload_n hx hb d_MD_calculate_38 rfl (lv_at hl 1 rfl) ?_
        refine lv_iconst (v := xw_i 5) hx hb d_MD_calculate_39 rfl ?_
        refine xw_icmp_ne (tgt := 49) hx hb hg15 (by decide) d_MD_calculate_40 (by decide) (fun hc17 => ?_) (fun hc17 => ?_)
        · replace h := xw_ifF hc17 h
          refine lv_iload_n hx hb d_MD_calculate_49 rfl (lv_at hl 1 rfl) ?_
          refine lv_bipush (v := xw_i 6) hx hb d_MD_calculate_50 (by decide) ?_
          refine xw_icmp_ne (tgt := 61) hx hb hg15 (by decide) d_MD_calculate_52 (by decide) (fun hc18 => ?_) (fun hc18 => ?_)
          · replace h := xw_ifF hc18 h
            refine lv_iload_n hx hb d_MD_calculate_61 rfl (lv_at hl 3 rfl) ?_
            refine lv_iload_n hx hb d_MD_calculate_62 rfl (lv_at hl 2 rfl) ?_
            obtain ⟨hg19, h⟩ := xw_grdI h
            refine xw_idiv hx hb hg19.1 hg19.2 d_MD_calculate_63 ?_
            exact hj64 s14 (xw_dv i3_26 i2_26) h _ _ _ hP hS (lv_sub hl [0] rfl)
          · replace h := xw_ifT hc18 h
            refine lv_iload_n hx hb d_MD_calculate_55 rfl (lv_at hl 3 rfl) ?_
            refine lv_iload_n hx hb d_MD_calculate_56 rfl (lv_at hl 2 rfl) ?_
            refine xw_imul hx hb d_MD_calculate_57 ?_
            refine xw_wrap ?_
            refine lv_goto (tgt := 64) hx hb d_MD_calculate_58 (by decide) ?_
            exact hj64 s14 (xw_wr (i3_26 * i2_26)) h _ _ _ hP hS (lv_sub hl [0] rfl)
        · replace h := xw_ifT hc17 h
          refine lv_iload_n hx hb d_MD_calculate_43 rfl (lv_at hl 3 rfl) ?_
          refine lv_iload_n hx hb d_MD_calculate_44 rfl (lv_at hl 2 rfl) ?_
          refine xw_isub hx hb d_MD_calculate_45 ?_
          refine xw_wrap ?_
          refine lv_goto (tgt := 64) hx hb d_MD_calculate_46 (by decide) ?_
          exact hj64 s14 (xw_wr (i3_26 - i2_26)) h _ _ _ hP hS (lv_sub hl [0] rfl)
      · replace h := xw_ifT hc16 h
        refine lv_iload_n hx hb d_MD_calculate_32 rfl (lv_at hl 3 rfl) ?_
        refine lv_iload_n hx hb d_MD_calculate_33 rfl (lv_at hl 2 rfl) ?_
        refine xw_iadd hx hb d_MD_calculate_34 ?_
        refine xw_wrap ?_
        refine lv_goto (tgt := 64) hx hb d_MD_calculate_35 (by decide) ?_
        exact hj64 s14 (xw_wr (i3_26 + i2_26)) h _ _ _ hP hS (lv_sub hl [0] rfl)
  · intro j26 hj26 h
    obtain ⟨hg7, h⟩ := xw_grdI h
    refine xw_icmp_ne (tgt := 26) hx hb hg7 (by decide) d_MD_calculate_13 (by decide) (fun hc8 => ?_) (fun hc8 => ?_)
    · replace h := xw_ifF hc8 h
      exact hj26 s4 r3 r6 h _ _ _ hP hS (lv_sub hl [2, 3, 1, 0] rfl)
    · replace h := xw_ifT hc8 h
      refine lv_iload_n hx hb d_MD_calculate_16 rfl (lv_at hl 1 rfl) ?_
      obtain ⟨hg9, h⟩ := xw_grdI h
      refine xw_if_ne (tgt := 26) hx hb hg9 d_MD_calculate_17 (by decide) (fun hc10 => ?_) (fun hc10 => ?_)
      · replace h := xw_ifF hc10 h
        exact hj26 s4 r3 r6 h _ _ _ hP hS (lv_sub hl [2, 3, 1, 0] rfl)
      · replace h := xw_ifT hc10 h
        refine lv_aload_n hx hb d_MD_calculate_20 rfl (lv_at hl 2 rfl) ?_
        refine lv_iconst (v := xw_i 1) hx hb d_MD_calculate_21 rfl ?_
        obtain ⟨s11, hc12, h⟩ := xw_bndI h
        refine xw_callVv (C := "AdviceWeaverModel") (T := T_MD) ⟨hx, hb, hml, hown, hts⟩ (c_MD_raise l D A ad cs Z tt fu s4 s11 1 hc12) (cwV 1 hts (gd_V hw_570 hw_571 hw_572 hw_433 hw_573) rfl rfl rfl (by decide +kernel) ⟨Nat.le_of_ble_eq_true rfl, Nat.le_of_ble_eq_true rfl⟩) hP hK hD hX hS (by decide) kr_MD (by decide) rfl rfl hl.1 rfl (Nat.le_of_ble_eq_true rfl) d_MD_calculate_22 (fun H locs hP hS => ?_)
        exact xw_vretE hx hb hr hlk hP hK hD hX hS h d_MD_calculate_25
def f_MD_call (fu : Nat) (s0 : xw_S) (p1 : Int) : Option xw_S :=
 xw_grd (xw_r (s0.1 0 31)) (xw_if (s0.1 0 31 = 8) (xw_let (xw_st s0 0 37 3) (fun s29 => some s29))
 (xw_grd ((0 ≤ p1 ∧ p1 < ((12 : Nat) : Int))) (xw_let (s0.1 3 (p1).toNat) (fun v4 => xw_jn (fun (s11 : xw_S) (i2_35 : Int) (t0_35 : Int) => xw_jn (fun (s17 : xw_S) (i2_48 : Int) (i3_48 : Int) (t0_48 : Int) => xw_bnd (f_MD_enter fu s17 p1) (fun s18 => xw_grd ((0 ≤ (6 * (s18.1 0 31)) - 6 ∧ (6 * (s18.1 0 31)) - 6 < ((48 : Nat) : Int))) (xw_let (xw_st s18 25 ((6 * (s18.1 0 31)) - 6).toNat t0_48) (fun s22 => xw_grd (xw_r i2_48) (xw_if (i2_48 = 2) (xw_grd ((0 ≤ (6 * (s22.1 0 31)) - 5 ∧ (6 * (s22.1 0 31)) - 5 < ((48 : Nat) : Int))) (xw_let (xw_st s22 25 ((6 * (s22.1 0 31)) - 5).toNat i3_48) (fun s27 => some s27)))
 (some s22))))))
 (fun (j48 : xw_S → Int → Int → Int → Option xw_S) => xw_grd (xw_r i2_35) (xw_if (i2_35 ≤ 0) (j48 s11 i2_35 t0_35 0)
 (xw_bn2 (f_MD_pop fu s11) (fun s14 r16 => j48 s14 i2_35 t0_35 r16)))))
 (fun (j35 : xw_S → Int → Int → Option xw_S) => xw_grd (xw_r v4) (xw_if (v4 = 2) (xw_bn2 (f_MD_pop fu s0) (fun s8 r10 => j35 s8 v4 r10))
 (j35 s0 v4 0)))))))
set_option maxRecDepth 100000 in
set_option maxHeartbeats 4000000 in
theorem c_MD_call (l : Launch) (D : va_G) (A : Nat → Prop) (ad : Nat → Nat) (cs : Nat → ClassId) (Z : va_W) (tt : Nat → Nat) (fu : Nat) (s0 sZ : xw_S) (p1 : Int) (h : f_MD_call fu s0 p1 = some sZ) : Met l y_MD_call w_MD_call ({ frames := 1, cells := 0, slots := 0, locals := 22 }) (va_Pc [.ref (ad 0), .int (xw_i p1)] (xw_H D vwCl A kdR 29 ad cs Z tt s0)) (va_Qv (fun u => u = sZ) (xw_H D vwCl A kdR 29 ad cs Z tt) A) 0 0 A := by
  refine Met.ofW (cc := b_MD_call) (maxL := 5) (ret := none) (by decide) rfl ?_
  intro p e s m args below meth c s₁ B hml hv
  obtain ⟨rfl, hP, hK, hD, hX⟩ := hv
  have hx := B.exec
  have hb := B.bytes
  have hr := B.returns
  have hts0 := atoms_spec (ws := w_MD_call) B.pre
  have hts := fun w (hw : w ∈ wAll) => hts0 w (List.mem_cons_of_mem _ hw)
  have hown : s.vm.findClass "AdviceWeaverModel" = some m.cls := findClass_of_methodNamed B.named
  have hlk := B.notSynchronized
  clear hts0 B
  have hS : va_S A s.heap s.heap [] := va_S.rf
  have hl := lv_entry [.ref (ad 0), .int (xw_i p1)] (n := 5) (Nat.le_of_ble_eq_true rfl)
  rw [lg_entry_eq]
  generalize (lg_sl [.ref (ad 0), .int (xw_i p1)] ++ List.replicate (5 - (lg_sl [.ref (ad 0), .int (xw_i p1)]).length) Slot.unset).toArray = ls at hl ⊢
  have hl : lv_has ls 5 [(0, .ref (ad 0)), (1, .int (xw_i p1))] := hl
  unfold f_MD_call at h
  refine lv_aload_n hx hb d_MD_call_0 rfl (lv_at hl 0 rfl) ?_
  refine xw_getI (C := "AdviceWeaverModel") (T := T_MD) hx hb hts hin_MD hown hK hP (by decide) kr_MD (by decide) rfl 31 (by decide) (hts _ hw_555) (fun _ h9 => h9) rfl d_MD_call_1 ?_
  refine lv_bipush (v := xw_i 8) hx hb d_MD_call_4 (by decide) ?_
  obtain ⟨hg1, h⟩ := xw_grdI h
  refine xw_icmp_ne (tgt := 15) hx hb hg1 (by decide) d_MD_call_6 (by decide) (fun hc2 => ?_) (fun hc2 => ?_)
  · replace h := xw_ifF hc2 h
    refine lv_aload_n hx hb d_MD_call_15 rfl (lv_at hl 0 rfl) ?_
    refine xw_getR (C := "AdviceWeaverModel") (T := T_MD) hx hb hts hin_MD hown hK hP (by decide) kr_MD (by decide) rfl 3 (by decide) (hts _ hw_444) (fun _ h9 => h9) rfl d_MD_call_16 ?_
    refine lv_iload_n hx hb d_MD_call_19 rfl (lv_at hl 1 rfl) ?_
    obtain ⟨hg3, h⟩ := xw_grdI h
    refine xw_iald hx hb hK hP (by decide) kr_m_args (by decide) hg3 d_MD_call_20 ?_
    refine xw_topi (fun v4 e5 => ?_)
    replace h := xw_letI e5 h
    refine lv_istore_n hx hb d_MD_call_21 rfl hl (by decide) rfl (fun ls hl => ?_)
    refine lv_iload_n hx hb d_MD_call_22 rfl (lv_at hl 0 rfl) ?_
    refine lv_iconst (v := xw_i 2) hx hb d_MD_call_23 rfl ?_
    refine xw_jnI (fun j => ∀ (sq : xw_S) (i2_35 : Int) (t0_35 : Int), j sq i2_35 t0_35 = some sZ → ∀ (H : Heap) (locs : List Loc) (ls : Array Slot), va_P D vwCl (xw_ws kdR 29 ad cs Z sq) H → va_S A s.heap H locs → lv_has ls 5 [(0, .ref (ad 0)), (1, .int (xw_i p1)), (2, .int (xw_i i2_35))] → W p l e (headSpec w_MD_call ({ frames := 1, cells := 0, slots := 0, locals := 22 })).room s m [.ref (ad 0), .int (xw_i p1)].toArray below meth c H locs 0 0 (MQ below (va_Qv (fun u => u = sZ) (xw_H D vwCl A kdR 29 ad cs Z tt) A) [.ref (ad 0), .int (xw_i p1)].toArray s 0 0 A) (F0 m 35 ls [.int (xw_i t0_35)])) h ?_ ?_
    · intro s11 i2_35 t0_35 h H locs ls hP hS hl
      refine lv_istore_n hx hb d_MD_call_35 rfl hl (by decide) rfl (fun ls hl => ?_)
      refine lv_iload_n hx hb d_MD_call_36 rfl (lv_at hl 3 rfl) ?_
      refine xw_jnI (fun j => ∀ (sq : xw_S) (i2_48 : Int) (i3_48 : Int) (t0_48 : Int), j sq i2_48 i3_48 t0_48 = some sZ → ∀ (H : Heap) (locs : List Loc) (ls : Array Slot), va_P D vwCl (xw_ws kdR 29 ad cs Z sq) H → va_S A s.heap H locs → lv_has ls 5 [(0, .ref (ad 0)), (1, .int (xw_i p1)), (2, .int (xw_i i2_48)), (3, .int (xw_i i3_48))] → W p l e (headSpec w_MD_call ({ frames := 1, cells := 0, slots := 0, locals := 22 })).room s m [.ref (ad 0), .int (xw_i p1)].toArray below meth c H locs 0 0 (MQ below (va_Qv (fun u => u = sZ) (xw_H D vwCl A kdR 29 ad cs Z tt) A) [.ref (ad 0), .int (xw_i p1)].toArray s 0 0 A) (F0 m 48 ls [.int (xw_i t0_48)])) h ?_ ?_
      · intro s17 i2_48 i3_48 t0_48 h H locs ls hP hS hl
        refine lv_istore hx hb d_MD_call_48 hl (by decide) rfl (fun ls hl => ?_)
        refine lv_aload_n hx hb d_MD_call_50 rfl (lv_at hl 1 rfl) ?_
        refine lv_iload_n hx hb d_MD_call_51 rfl (lv_at hl 2 rfl) ?_
        obtain ⟨s18, hc19, h⟩ := xw_bndI h
        refine xw_callVv (C := "AdviceWeaverModel") (T := T_MD) ⟨hx, hb, hml, hown, hts⟩ (c_MD_enter l D A ad cs Z tt fu s17 s18 p1 hc19) (cwV 1 hts (gd_V hw_574 hw_575 hw_576 hw_433 hw_577) rfl rfl rfl (by decide +kernel) ⟨Nat.le_of_ble_eq_true rfl, Nat.le_of_ble_eq_true rfl⟩) hP hK hD hX hS (by decide) kr_MD (by decide) rfl rfl hl.1 rfl (Nat.le_of_ble_eq_true rfl) d_MD_call_52 (fun H locs hP hS => ?_)
        refine lv_aload_n hx hb d_MD_call_55 rfl (lv_at hl 1 rfl) ?_
        refine xw_getR (C := "AdviceWeaverModel") (T := T_MD) hx hb hts hin_MD hown hK hP (by decide) kr_MD (by decide) rfl 35 (by decide) (hts _ hw_558) (fun _ h9 => h9) rfl d_MD_call_56 ?_
        refine lv_bipush (v := xw_i 6) hx hb d_MD_call_59 (by decide) ?_
        refine lv_aload_n hx hb d_MD_call_61 rfl (lv_at hl 1 rfl) ?_
        refine xw_getI (C := "AdviceWeaverModel") (T := T_MD) hx hb hts hin_MD hown hK hP (by decide) kr_MD (by decide) rfl 31 (by decide) (hts _ hw_555) (fun _ h9 => h9) rfl d_MD_call_62 ?_
        refine xw_imul hx hb d_MD_call_65 ?_
        refine lv_bipush (v := xw_i 6) hx hb d_MD_call_66 (by decide) ?_
        refine xw_isub hx hb d_MD_call_68 ?_
        refine lv_iload hx hb d_MD_call_69 (lv_at hl 0 rfl) ?_
        obtain ⟨hg21, h⟩ := xw_grdI h
        refine xw_iast hx hb hK hP hD hS (by decide) kr_m_local (by decide) hg21 d_MD_call_71 (fun s22 e23 H locs hP hS => ?_)
        replace h := xw_letI e23 h
        refine lv_iload_n hx hb d_MD_call_72 rfl (lv_at hl 3 rfl) ?_
        refine lv_iconst (v := xw_i 2) hx hb d_MD_call_73 rfl ?_
        obtain ⟨hg24, h⟩ := xw_grdI h
        refine xw_icmp_ne (tgt := 92) hx hb hg24 (by decide) d_MD_call_74 (by decide) (fun hc25 => ?_) (fun hc25 => ?_)
        · replace h := xw_ifF hc25 h
          exact xw_vretE hx hb hr hlk hP hK hD hX hS h d_MD_call_92
        · replace h := xw_ifT hc25 h
          refine lv_aload_n hx hb d_MD_call_77 rfl (lv_at hl 1 rfl) ?_
          refine xw_getR (C := "AdviceWeaverModel") (T := T_MD) hx hb hts hin_MD hown hK hP (by decide) kr_MD (by decide) rfl 35 (by decide) (hts _ hw_558) (fun _ h9 => h9) rfl d_MD_call_78 ?_
          refine lv_bipush (v := xw_i 6) hx hb d_MD_call_81 (by decide) ?_
          refine lv_aload_n hx hb d_MD_call_83 rfl (lv_at hl 1 rfl) ?_
          refine xw_getI (C := "AdviceWeaverModel") (T := T_MD) hx hb hts hin_MD hown hK hP (by decide) kr_MD (by decide) rfl 31 (by decide) (hts _ hw_555) (fun _ h9 => h9) rfl d_MD_call_84 ?_
          refine xw_imul hx hb d_MD_call_87 ?_
          refine lv_iconst (v := xw_i 5) hx hb d_MD_call_88 rfl ?_
          refine xw_isub hx hb d_MD_call_89 ?_
          refine lv_iload_n hx hb d_MD_call_90 rfl (lv_at hl 4 rfl) ?_
          obtain ⟨hg26, h⟩ := xw_grdI h
          refine xw_iast hx hb hK hP hD hS (by decide) kr_m_local (by decide) hg26 d_MD_call_91 (fun s27 e28 H locs hP hS => ?_)
          replace h := xw_letI e28 h
          exact xw_vretE hx hb hr hlk hP hK hD hX hS h d_MD_call_92
      · intro j48 hj48 h
        obtain ⟨hg12, h⟩ := xw_grdI h
        refine xw_if_le (tgt := 47) hx hb hg12 d_MD_call_37 (by decide) (fun hc13 => ?_) (fun hc13 => ?_)
        · replace h := xw_ifT hc13 h
          refine lv_iconst (v := xw_i 0) hx hb d_MD_call_47 rfl ?_
          exact hj48 s11 i2_35 t0_35 0 h _ _ _ hP hS (lv_sub hl [1, 2, 3, 0] rfl)
        · replace h := xw_ifF hc13 h
          refine lv_aload_n hx hb d_MD_call_40 rfl (lv_at hl 1 rfl) ?_
          obtain ⟨s14, r16, hc15, h⟩ := xw_bn2I h
          refine xw_callVi (C := "AdviceWeaverModel") (T := T_MD) ⟨hx, hb, hml, hown, hts⟩ (c_MD_pop l D A ad cs Z tt fu s11 s14 r16 hc15) (cwV 0 hts (gd_V hw_560 hw_561 hw_562 hw_433 hw_563) rfl rfl rfl (by decide +kernel) ⟨Nat.le_of_ble_eq_true rfl, Nat.le_of_ble_eq_true rfl⟩) hP hK hD hX hS (by decide) kr_MD (by decide) rfl rfl hl.1 rfl (Nat.le_of_ble_eq_true rfl) d_MD_call_41 (fun H locs hP hS => ?_)
          refine lv_goto (tgt := 48) hx hb d_MD_call_44 (by decide) ?_
          exact hj48 s14 i2_35 t0_35 r16 h _ _ _ hP hS (lv_sub hl [1, 2, 3, 0] rfl)
    · intro j35 hj35 h
      obtain ⟨hg6, h⟩ := xw_grdI h
      refine xw_icmp_ne (tgt := 34) hx hb hg6 (by decide) d_MD_call_24 (by decide) (fun hc7 => ?_) (fun hc7 => ?_)
      · replace h := xw_ifF hc7 h
        refine lv_iconst (v := xw_i 0) hx hb d_MD_call_34 rfl ?_
        exact hj35 s0 v4 0 h _ _ _ hP hS (lv_sub hl [1, 2, 0] rfl)
      · replace h := xw_ifT hc7 h
        refine lv_aload_n hx hb d_MD_call_27 rfl (lv_at hl 1 rfl) ?_
        obtain ⟨s8, r10, hc9, h⟩ := xw_bn2I h
        refine xw_callVi (C := "AdviceWeaverModel") (T := T_MD) ⟨hx, hb, hml, hown, hts⟩ (c_MD_pop l D A ad cs Z tt fu s0 s8 r10 hc9) (cwV 0 hts (gd_V hw_560 hw_561 hw_562 hw_433 hw_563) rfl rfl rfl (by decide +kernel) ⟨Nat.le_of_ble_eq_true rfl, Nat.le_of_ble_eq_true rfl⟩) hP hK hD hX hS (by decide) kr_MD (by decide) rfl rfl hl.1 rfl (Nat.le_of_ble_eq_true rfl) d_MD_call_28 (fun H locs hP hS => ?_)
        refine lv_goto (tgt := 35) hx hb d_MD_call_31 (by decide) ?_
        exact hj35 s8 v4 r10 h _ _ _ hP hS (lv_sub hl [1, 2, 0] rfl)
  · replace h := xw_ifT hc2 h
    refine lv_aload_n hx hb d_MD_call_9 rfl (lv_at hl 0 rfl) ?_
    refine lv_iconst (v := xw_i 3) hx hb d_MD_call_10 rfl ?_
    refine xw_putI (C := "AdviceWeaverModel") (T := T_MD) hx hb hts hin_MD ty_MD ty_MD_ok nm_MD hown hK hP hD hS (by decide) kr_MD (by decide) rfl 37 (by decide) (hts _ hw_568) (fun _ h9 => h9) rfl (by decide +kernel) rfl d_MD_call_11 (fun s29 e30 H locs hP hS => ?_)
    replace h := xw_letI e30 h
    exact xw_vretE hx hb hr hlk hP hK hD hX hS h d_MD_call_14
def f_MD_giveBack (fu : Nat) (s0 : xw_S) (p1 : Int) : Option xw_S :=
 xw_let (xw_st s0 0 31 ((s0.1 0 31) - 1)) (fun s1 => xw_grd (xw_r (s1.1 0 31)) (xw_if (s1.1 0 31 = 0) (xw_let (xw_st s1 0 37 0) (fun s11 => xw_let (xw_st s11 0 38 p1) (fun s13 => some s13)))
 (xw_bnd (f_MD_push fu s1 p1) (fun s5 => xw_grd ((0 ≤ (s5.1 0 31) - 1 ∧ (s5.1 0 31) - 1 < ((8 : Nat) : Int))) (xw_let (xw_st s5 23 ((s5.1 0 31) - 1).toNat ((s5.1 23 ((s5.1 0 31) - 1).toNat) + 2)) (fun s9 => some s9))))))
set_option maxRecDepth 100000 in
set_option maxHeartbeats 4000000 in
theorem c_MD_giveBack (l : Launch) (D : va_G) (A : Nat → Prop) (ad : Nat → Nat) (cs : Nat → ClassId) (Z : va_W) (tt : Nat → Nat) (fu : Nat) (s0 sZ : xw_S) (p1 : Int) (h : f_MD_giveBack fu s0 p1 = some sZ) : Met l y_MD_giveBack w_MD_giveBack ({ frames := 1, cells := 0, slots := 0, locals := 22 }) (va_Pc [.ref (ad 0), .int (xw_i p1)] (xw_H D vwCl A kdR 29 ad cs Z tt s0)) (va_Qv (fun u => u = sZ) (xw_H D vwCl A kdR 29 ad cs Z tt) A) 0 0 A := by
  refine Met.ofW (cc := b_MD_giveBack) (maxL := 2) (ret := none) (by decide) rfl ?_
  intro p e s m args below meth c s₁ B hml hv
  obtain ⟨rfl, hP, hK, hD, hX⟩ := hv
  have hx := B.exec
  have hb := B.bytes
  have hr := B.returns
  have hts0 := atoms_spec (ws := w_MD_giveBack) B.pre
  have hts := fun w (hw : w ∈ wAll) => hts0 w (List.mem_cons_of_mem _ hw)
  have hown : s.vm.findClass "AdviceWeaverModel" = some m.cls := findClass_of_methodNamed B.named
  have hlk := B.notSynchronized
  clear hts0 B
  have hS : va_S A s.heap s.heap [] := va_S.rf
  have hl := lv_entry [.ref (ad 0), .int (xw_i p1)] (n := 2) (Nat.le_of_ble_eq_true rfl)
  rw [lg_entry_eq]
  generalize (lg_sl [.ref (ad 0), .int (xw_i p1)] ++ List.replicate (2 - (lg_sl [.ref (ad 0), .int (xw_i p1)]).length) Slot.unset).toArray = ls at hl ⊢
  have hl : lv_has ls 2 [(0, .ref (ad 0)), (1, .int (xw_i p1))] := hl
  unfold f_MD_giveBack at h
  refine lv_aload_n hx hb d_MD_giveBack_0 rfl (lv_at hl 0 rfl) ?_
  refine lv_dup hx hb d_MD_giveBack_1 rfl ?_
  refine xw_getI (C := "AdviceWeaverModel") (T := T_MD) hx hb hts hin_MD hown hK hP (by decide) kr_MD (by decide) rfl 31 (by decide) (hts _ hw_555) (fun _ h9 => h9) rfl d_MD_giveBack_2 ?_
  refine lv_iconst (v := xw_i 1) hx hb d_MD_giveBack_5 rfl ?_
  refine xw_isub hx hb d_MD_giveBack_6 ?_
  refine xw_putI (C := "AdviceWeaverModel") (T := T_MD) hx hb hts hin_MD ty_MD ty_MD_ok nm_MD hown hK hP hD hS (by decide) kr_MD (by decide) rfl 31 (by decide) (hts _ hw_555) (fun _ h9 => h9) rfl (by decide +kernel) rfl d_MD_giveBack_7 (fun s1 e2 H locs hP hS => ?_)
  replace h := xw_letI e2 h
  refine lv_aload_n hx hb d_MD_giveBack_10 rfl (lv_at hl 0 rfl) ?_
  refine xw_getI (C := "AdviceWeaverModel") (T := T_MD) hx hb hts hin_MD hown hK hP (by decide) kr_MD (by decide) rfl 31 (by decide) (hts _ hw_555) (fun _ h9 => h9) rfl d_MD_giveBack_11 ?_
  obtain ⟨hg3, h⟩ := xw_grdI h
  refine xw_if_ne (tgt := 28) hx hb hg3 d_MD_giveBack_14 (by decide) (fun hc4 => ?_) (fun hc4 => ?_)
  · replace h := xw_ifF hc4 h
    refine lv_aload_n hx hb d_MD_giveBack_28 rfl (lv_at hl 0 rfl) ?_
    refine lv_iload_n hx hb d_MD_giveBack_29 rfl (lv_at hl 1 rfl) ?_
    obtain ⟨s5, hc6, h⟩ := xw_bndI h
    refine xw_callVv (C := "AdviceWeaverModel") (T := T_MD) ⟨hx, hb, hml, hown, hts⟩ (c_MD_push l D A ad cs Z tt fu s1 s5 p1 hc6) (cwV 1 hts (gd_V hw_564 hw_565 hw_566 hw_433 hw_567) rfl rfl rfl (by decide +kernel) ⟨Nat.le_of_ble_eq_true rfl, Nat.le_of_ble_eq_true rfl⟩) hP hK hD hX hS (by decide) kr_MD (by decide) rfl rfl hl.1 rfl (Nat.le_of_ble_eq_true rfl) d_MD_giveBack_30 (fun H locs hP hS => ?_)
    refine lv_aload_n hx hb d_MD_giveBack_33 rfl (lv_at hl 0 rfl) ?_
    refine xw_getR (C := "AdviceWeaverModel") (T := T_MD) hx hb hts hin_MD hown hK hP (by decide) kr_MD (by decide) rfl 33 (by decide) (hts _ hw_556) (fun _ h9 => h9) rfl d_MD_giveBack_34 ?_
    refine lv_aload_n hx hb d_MD_giveBack_37 rfl (lv_at hl 0 rfl) ?_
    refine xw_getI (C := "AdviceWeaverModel") (T := T_MD) hx hb hts hin_MD hown hK hP (by decide) kr_MD (by decide) rfl 31 (by decide) (hts _ hw_555) (fun _ h9 => h9) rfl d_MD_giveBack_38 ?_
    refine lv_iconst (v := xw_i 1) hx hb d_MD_giveBack_41 rfl ?_
    refine xw_isub hx hb d_MD_giveBack_42 ?_
    refine lv_dup2_11 hx hb d_MD_giveBack_43 rfl rfl ?_
    obtain ⟨hg8, h⟩ := xw_grdI h
    refine xw_iald hx hb hK hP (by decide) kr_m_place (by decide) hg8 d_MD_giveBack_44 ?_
    refine lv_iconst (v := xw_i 2) hx hb d_MD_giveBack_45 rfl ?_
    refine xw_iadd hx hb d_MD_giveBack_46 ?_
    refine xw_iast hx hb hK hP hD hS (by decide) kr_m_place (by decide) hg8 d_MD_giveBack_47 (fun s9 e10 H locs hP hS => ?_)
    replace h := xw_letI e10 h
    exact xw_vretE hx hb hr hlk hP hK hD hX hS h d_MD_giveBack_48
  · replace h := xw_ifT hc4 h
    refine lv_aload_n hx hb d_MD_giveBack_17 rfl (lv_at hl 0 rfl) ?_
    refine lv_iconst (v := xw_i 0) hx hb d_MD_giveBack_18 rfl ?_
    refine xw_putI (C := "AdviceWeaverModel") (T := T_MD) hx hb hts hin_MD ty_MD ty_MD_ok nm_MD hown hK hP hD hS (by decide) kr_MD (by decide) rfl 37 (by decide) (hts _ hw_568) (fun _ h9 => h9) rfl (by decide +kernel) rfl d_MD_giveBack_19 (fun s11 e12 H locs hP hS => ?_)
    replace h := xw_letI e12 h
    refine lv_aload_n hx hb d_MD_giveBack_22 rfl (lv_at hl 0 rfl) ?_
    refine lv_iload_n hx hb d_MD_giveBack_23 rfl (lv_at hl 1 rfl) ?_
    refine xw_putI (C := "AdviceWeaverModel") (T := T_MD) hx hb hts hin_MD ty_MD ty_MD_ok nm_MD hown hK hP hD hS (by decide) kr_MD (by decide) rfl 38 (by decide) (hts _ hw_569) (fun _ h9 => h9) rfl (by decide +kernel) rfl d_MD_giveBack_24 (fun s13 e14 H locs hP hS => ?_)
    replace h := xw_letI e14 h
    exact xw_vretE hx hb hr hlk hP hK hD hX hS h d_MD_giveBack_27
def f_MD_plain (fu : Nat) (s0 : xw_S) (p1 : Int) (p2 : Int) (p3 : Int) : Option xw_S :=
 xw_grd ((0 ≤ p2 ∧ p2 < ((8 : Nat) : Int))) (xw_grd ((0 ≤ p1 ∧ p1 < ((12 : Nat) : Int))) (xw_jn (fun (s5 : xw_S) (t0_31 : Int) (t1_31 : Int) => xw_bn2 (f_MD_op fu s5 t1_31 t0_31) (fun s6 r8 => xw_jn (fun (s18 : xw_S) (i4_58 : Int) => xw_jn (fun (s25 : xw_S) (i4_79 : Int) => xw_jn (fun (s34 : xw_S) (i4_100 : Int) => xw_jn (fun (s46 : xw_S) (i4_124 : Int) => xw_jn (fun (s52 : xw_S) (i4_135 : Int) => xw_jn (fun (s62 : xw_S) (i4_169 : Int) => xw_jn (fun (s73 : xw_S) (i4_212 : Int) => xw_jn (fun (s79 : xw_S) => xw_grd ((0 ≤ p2 ∧ p2 < ((8 : Nat) : Int))) (xw_bn2 (f_MD_sizeOf fu s79 p3) (fun s81 r83 => xw_let (xw_st s81 23 (p2).toNat ((s79.1 23 (p2).toNat) + r83)) (fun s84 => some s84))))
 (fun (j237 : xw_S → Option xw_S) => xw_grd (xw_r p3) (xw_if (p3 = 31) (xw_grd ((0 ≤ (256 * (xw_rm p1 4)) + i4_212 ∧ (256 * (xw_rm p1 4)) + i4_212 < ((1024 : Nat) : Int))) (xw_let (xw_st s73 28 ((256 * (xw_rm p1 4)) + i4_212).toNat ((s73.1 28 ((256 * (xw_rm p1 4)) + i4_212).toNat) + 1)) (fun s77 => j237 s77)))
 (j237 s73))))
 (fun (j212 : xw_S → Int → Option xw_S) => xw_grd (xw_r p3) (xw_if (p3 = 30) (xw_jn (fun (s70 : xw_S) (i4_202 : Int) => xw_let (xw_st s70 0 40 ((s70.1 0 40) + 1)) (fun s71 => j212 s71 i4_202))
 (fun (j202 : xw_S → Int → Option xw_S) => xw_grd (xw_r (s62.1 0 40)) (xw_if (100 ≤ s62.1 0 40) (j202 s62 i4_169)
 (xw_grd ((0 ≤ s62.1 0 40 ∧ s62.1 0 40 < ((100 : Nat) : Int))) (xw_let (xw_st s62 27 (s62.1 0 40).toNat ((16 * (xw_rm p1 4)) + i4_169)) (fun s68 => j202 s68 i4_169))))))
 (j212 s62 i4_169))))
 (fun (j169 : xw_S → Int → Option xw_S) => xw_grd (xw_r p3) (xw_if (p3 = 16) (xw_grd ((0 ≤ (6 * p2) + i4_135 ∧ (6 * p2) + i4_135 < ((48 : Nat) : Int))) (xw_grd ((0 ≤ p2 ∧ p2 < ((8 : Nat) : Int))) (xw_bn2 (f_MD_signed fu s52 p1 ((s52.1 23 (p2).toNat) + 2)) (fun s57 r59 => xw_let (xw_st s57 25 ((6 * p2) + i4_135).toNat (xw_wr ((s52.1 25 ((6 * p2) + i4_135).toNat) + r59))) (fun s60 => j169 s60 i4_135)))))
 (j169 s52 i4_135))))
 (fun (j135 : xw_S → Int → Option xw_S) => xw_grd (xw_r p3) (xw_if (p3 = 9) (xw_bn2 (f_MD_pop fu s46) (fun s49 r51 => j135 s49 i4_124))
 (j135 s46 i4_124))))
 (fun (j124 : xw_S → Int → Option xw_S) => xw_grd (xw_r p3) (xw_if (p3 = 8) (xw_bn2 (f_MD_pop fu s34) (fun s37 r39 => xw_bnd (f_MD_push fu s37 r39) (fun s40 => xw_bnd (f_MD_push fu s40 r39) (fun s43 => j124 s43 i4_100))))
 (j124 s34 i4_100))))
 (fun (j100 : xw_S → Int → Option xw_S) => xw_grd (xw_r p3) (xw_if (p3 = 3) (xw_bn2 (f_MD_pop fu s25) (fun s28 r30 => xw_grd ((0 ≤ (6 * p2) + i4_79 ∧ (6 * p2) + i4_79 < ((48 : Nat) : Int))) (xw_let (xw_st s28 25 ((6 * p2) + i4_79).toNat r30) (fun s32 => j100 s32 i4_79))))
 (j100 s25 i4_79))))
 (fun (j79 : xw_S → Int → Option xw_S) => xw_grd (xw_r p3) (xw_if (p3 = 2) (xw_grd ((0 ≤ (6 * p2) + i4_58 ∧ (6 * p2) + i4_58 < ((48 : Nat) : Int))) (xw_bnd (f_MD_push fu s18 (s18.1 25 ((6 * p2) + i4_58).toNat)) (fun s22 => j79 s22 i4_58)))
 (j79 s18 i4_58))))
 (fun (j58 : xw_S → Int → Option xw_S) => xw_grd (xw_r p3) (xw_if (p3 = 1) (xw_grd ((0 ≤ p2 ∧ p2 < ((8 : Nat) : Int))) (xw_bn2 (f_MD_signed fu s6 p1 ((s6.1 23 (p2).toNat) + 1)) (fun s12 r14 => xw_bnd (f_MD_push fu s12 r14) (fun s15 => j58 s15 r8))))
 (j58 s6 r8)))))
 (fun (j31 : xw_S → Int → Int → Option xw_S) => xw_grd (xw_r ((s0.1 23 (p2).toNat) + 1) ∧ xw_r (s0.1 6 (p1).toNat)) (xw_if (s0.1 6 (p1).toNat ≤ (s0.1 23 (p2).toNat) + 1) (j31 s0 0 p1)
 (j31 s0 ((s0.1 23 (p2).toNat) + 1) p1)))))
set_option maxRecDepth 100000 in
set_option maxHeartbeats 4000000 in
theorem c_MD_plain (l : Launch) (D : va_G) (A : Nat → Prop) (ad : Nat → Nat) (cs : Nat → ClassId) (Z : va_W) (tt : Nat → Nat) (fu : Nat) (s0 sZ : xw_S) (p1 : Int) (p2 : Int) (p3 : Int) (h : f_MD_plain fu s0 p1 p2 p3 = some sZ) : Met l y_MD_plain w_MD_plain ({ frames := 1, cells := 0, slots := 0, locals := 22 }) (va_Pc [.ref (ad 0), .int (xw_i p1), .int (xw_i p2), .int (xw_i p3)] (xw_H D vwCl A kdR 29 ad cs Z tt s0)) (va_Qv (fun u => u = sZ) (xw_H D vwCl A kdR 29 ad cs Z tt) A) 0 0 A := by
  refine Met.ofW (cc := b_MD_plain) (maxL := 6) (ret := none) (by decide) rfl ?_
  intro p e s m args below meth c s₁ B hml hv
  obtain ⟨rfl, hP, hK, hD, hX⟩ := hv
  have hx := B.exec
  have hb := B.bytes
  have hr := B.returns
  have hts0 := atoms_spec (ws := w_MD_plain) B.pre
  have hts := fun w (hw : w ∈ wAll) => hts0 w (List.mem_cons_of_mem _ hw)
  have hown : s.vm.findClass "AdviceWeaverModel" = some m.cls := findClass_of_methodNamed B.named
  have hlk := B.notSynchronized
  clear hts0 B
  have hS : va_S A s.heap s.heap [] := va_S.rf
  have hl := lv_entry [.ref (ad 0), .int (xw_i p1), .int (xw_i p2), .int (xw_i p3)] (n := 6) (Nat.le_of_ble_eq_true rfl)
  rw [lg_entry_eq]
  generalize (lg_sl [.ref (ad 0), .int (xw_i p1), .int (xw_i p2), .int (xw_i p3)] ++ List.replicate (6 - (lg_sl [.ref (ad 0), .int (xw_i p1), .int (xw_i p2), .int (xw_i p3)]).length) Slot.unset).toArray = ls at hl ⊢
  have hl : lv_has ls 6 [(0, .ref (ad 0)), (1, .int (xw_i p1)), (2, .int (xw_i p2)), (3, .int (xw_i p3))] := hl
  unfold f_MD_plain at h
  refine lv_aload_n hx hb d_MD_plain_0 rfl (lv_at hl 0 rfl) ?_
  refine lv_iload_n hx hb d_MD_plain_1 rfl (lv_at hl 1 rfl) ?_
  refine lv_aload_n hx hb d_MD_plain_2 rfl (lv_at hl 0 rfl) ?_
  refine xw_getR (C := "AdviceWeaverModel") (T := T_MD) hx hb hts hin_MD hown hK hP (by decide) kr_MD (by decide) rfl 33 (by decide) (hts _ hw_556) (fun _ h9 => h9) rfl d_MD_plain_3 ?_
  refine lv_iload_n hx hb d_MD_plain_6 rfl (lv_at hl 2 rfl) ?_
  obtain ⟨hg1, h⟩ := xw_grdI h
  refine xw_iald hx hb hK hP (by decide) kr_m_place (by decide) hg1 d_MD_plain_7 ?_
  refine lv_iconst (v := xw_i 1) hx hb d_MD_plain_8 rfl ?_
  refine xw_iadd hx hb d_MD_plain_9 ?_
  refine lv_aload_n hx hb d_MD_plain_10 rfl (lv_at hl 0 rfl) ?_
  refine xw_getR (C := "AdviceWeaverModel") (T := T_MD) hx hb hts hin_MD hown hK hP (by decide) kr_MD (by decide) rfl 6 (by decide) (hts _ hw_447) (fun _ h9 => h9) rfl d_MD_plain_11 ?_
  refine lv_iload_n hx hb d_MD_plain_14 rfl (lv_at hl 1 rfl) ?_
  obtain ⟨hg2, h⟩ := xw_grdI h
  refine xw_iald hx hb hK hP (by decide) kr_m_length (by decide) hg2 d_MD_plain_15 ?_
  refine xw_jnI (fun j => ∀ (sq : xw_S) (t0_31 : Int) (t1_31 : Int), j sq t0_31 t1_31 = some sZ → ∀ (H : Heap) (locs : List Loc) (ls : Array Slot), va_P D vwCl (xw_ws kdR 29 ad cs Z sq) H → va_S A s.heap H locs → lv_has ls 6 [(0, .ref (ad 0)), (1, .int (xw_i p1)), (2, .int (xw_i p2)), (3, .int (xw_i p3))] → W p l e (headSpec w_MD_plain ({ frames := 1, cells := 0, slots := 0, locals := 22 })).room s m [.ref (ad 0), .int (xw_i p1), .int (xw_i p2), .int (xw_i p3)].toArray below meth c H locs 0 0 (MQ below (va_Qv (fun u => u = sZ) (xw_H D vwCl A kdR 29 ad cs Z tt) A) [.ref (ad 0), .int (xw_i p1), .int (xw_i p2), .int (xw_i p3)].toArray s 0 0 A) (F0 m 31 ls [.int (xw_i t0_31), .int (xw_i t1_31), .ref (ad 0)])) h ?_ ?_
  · intro s5 t0_31 t1_31 h H locs ls hP hS hl
    obtain ⟨s6, r8, hc7, h⟩ := xw_bn2I h
    refine xw_callVi (C := "AdviceWeaverModel") (T := T_MD) ⟨hx, hb, hml, hown, hts⟩ (c_MD_op l D A ad cs Z tt fu s5 s6 t1_31 t0_31 r8 hc7) (cwV 2 hts (gd_V hw_452 hw_453 hw_454 hw_433 hw_455) rfl rfl rfl (by decide +kernel) ⟨Nat.le_of_ble_eq_true rfl, Nat.le_of_ble_eq_true rfl⟩) hP hK hD hX hS (by decide) kr_MD (by decide) rfl rfl hl.1 rfl (Nat.le_of_ble_eq_true rfl) d_MD_plain_31 (fun H locs hP hS => ?_)
    refine lv_istore hx hb d_MD_plain_34 hl (by decide) rfl (fun ls hl => ?_)
    refine lv_iload_n hx hb d_MD_plain_36 rfl (lv_at hl 4 rfl) ?_
    refine lv_iconst (v := xw_i 1) hx hb d_MD_plain_37 rfl ?_
    refine xw_jnI (fun j => ∀ (sq : xw_S) (i4_58 : Int), j sq i4_58 = some sZ → ∀ (H : Heap) (locs : List Loc) (ls : Array Slot), va_P D vwCl (xw_ws kdR 29 ad cs Z sq) H → va_S A s.heap H locs → lv_has ls 6 [(0, .ref (ad 0)), (1, .int (xw_i p1)), (2, .int (xw_i p2)), (3, .int (xw_i p3)), (4, .int (xw_i i4_58))] → W p l e (headSpec w_MD_plain ({ frames := 1, cells := 0, slots := 0, locals := 22 })).room s m [.ref (ad 0), .int (xw_i p1), .int (xw_i p2), .int (xw_i p3)].toArray below meth c H locs 0 0 (MQ below (va_Qv (fun u => u = sZ) (xw_H D vwCl A kdR 29 ad cs Z tt) A) [.ref (ad 0), .int (xw_i p1), .int (xw_i p2), .int (xw_i p3)].toArray s 0 0 A) (F0 m 58 ls [])) h ?_ ?_
    · intro s18 i4_58 h H locs ls hP hS hl
      refine lv_iload_n hx hb d_MD_plain_58 rfl (lv_at hl 3 rfl) ?_
      refine lv_iconst (v := xw_i 2) hx hb d_MD_plain_59 rfl ?_
      refine xw_jnI (fun j => ∀ (sq : xw_S) (i4_79 : Int), j sq i4_79 = some sZ → ∀ (H : Heap) (locs : List Loc) (ls : Array Slot), va_P D vwCl (xw_ws kdR 29 ad cs Z sq) H → va_S A s.heap H locs → lv_has ls 6 [(0, .ref (ad 0)), (1, .int (xw_i p1)), (2, .int (xw_i p2)), (3, .int (xw_i p3)), (4, .int (xw_i i4_79))] → W p l e (headSpec w_MD_plain ({ frames := 1, cells := 0, slots := 0, locals := 22 })).room s m [.ref (ad 0), .int (xw_i p1), .int (xw_i p2), .int (xw_i p3)].toArray below meth c H locs 0 0 (MQ below (va_Qv (fun u => u = sZ) (xw_H D vwCl A kdR 29 ad cs Z tt) A) [.ref (ad 0), .int (xw_i p1), .int (xw_i p2), .int (xw_i p3)].toArray s 0 0 A) (F0 m 79 ls [])) h ?_ ?_
      · intro s25 i4_79 h H locs ls hP hS hl
        refine lv_iload_n hx hb d_MD_plain_79 rfl (lv_at hl 3 rfl) ?_
        refine lv_iconst (v := xw_i 3) hx hb d_MD_plain_80 rfl ?_
        refine xw_jnI (fun j => ∀ (sq : xw_S) (i4_100 : Int), j sq i4_100 = some sZ → ∀ (H : Heap) (locs : List Loc) (ls : Array Slot), va_P D vwCl (xw_ws kdR 29 ad cs Z sq) H → va_S A s.heap H locs → lv_has ls 6 [(0, .ref (ad 0)), (1, .int (xw_i p1)), (2, .int (xw_i p2)), (3, .int (xw_i p3)), (4, .int (xw_i i4_100))] → W p l e (headSpec w_MD_plain ({ frames := 1, cells := 0, slots := 0, locals := 22 })).room s m [.ref (ad 0), .int (xw_i p1), .int (xw_i p2), .int (xw_i p3)].toArray below meth c H locs 0 0 (MQ below (va_Qv (fun u => u = sZ) (xw_H D vwCl A kdR 29 ad cs Z tt) A) [.ref (ad 0), .int (xw_i p1), .int (xw_i p2), .int (xw_i p3)].toArray s 0 0 A) (F0 m 100 ls [])) h ?_ ?_
        · intro s34 i4_100 h H locs ls hP hS hl
          refine lv_iload_n hx hb d_MD_plain_100 rfl (lv_at hl 3 rfl) ?_
          refine lv_bipush (v := xw_i 8) hx hb d_MD_plain_101 (by decide) ?_
          refine xw_jnI (fun j => ∀ (sq : xw_S) (i4_124 : Int), j sq i4_124 = some sZ → ∀ (H : Heap) (locs : List Loc) (ls : Array Slot), va_P D vwCl (xw_ws kdR 29 ad cs Z sq) H → va_S A s.heap H locs → lv_has ls 6 [(0, .ref (ad 0)), (1, .int (xw_i p1)), (2, .int (xw_i p2)), (3, .int (xw_i p3)), (4, .int (xw_i i4_124))] → W p l e (headSpec w_MD_plain ({ frames := 1, cells := 0, slots := 0, locals := 22 })).room s m [.ref (ad 0), .int (xw_i p1), .int (xw_i p2), .int (xw_i p3)].toArray below meth c H locs 0 0 (MQ below (va_Qv (fun u => u = sZ) (xw_H D vwCl A kdR 29 ad cs Z tt) A) [.ref (ad 0), .int (xw_i p1), .int (xw_i p2), .int (xw_i p3)].toArray s 0 0 A) (F0 m 124 ls [])) h ?_ ?_
          · intro s46 i4_124 h H locs ls hP hS hl
            refine lv_iload_n hx hb d_MD_plain_124 rfl (lv_at hl 3 rfl) ?_
            refine lv_bipush (v := xw_i 9) hx hb d_MD_plain_125 (by decide) ?_
            refine xw_jnI (fun j => ∀ (sq : xw_S) (i4_135 : Int), j sq i4_135 = some sZ → ∀ (H : Heap) (locs : List Loc) (ls : Array Slot), va_P D vwCl (xw_ws kdR 29 ad cs Z sq) H → va_S A s.heap H locs → lv_has ls 6 [(0, .ref (ad 0)), (1, .int (xw_i p1)), (2, .int (xw_i p2)), (3, .int (xw_i p3)), (4, .int (xw_i i4_135))] → W p l e (headSpec w_MD_plain ({ frames := 1, cells := 0, slots := 0, locals := 22 })).room s m [.ref (ad 0), .int (xw_i p1), .int (xw_i p2), .int (xw_i p3)].toArray below meth c H locs 0 0 (MQ below (va_Qv (fun u => u = sZ) (xw_H D vwCl A kdR 29 ad cs Z tt) A) [.ref (ad 0), .int (xw_i p1), .int (xw_i p2), .int (xw_i p3)].toArray s 0 0 A) (F0 m 135 ls [])) h ?_ ?_
            · intro s52 i4_135 h H locs ls hP hS hl
              refine lv_iload_n hx hb d_MD_plain_135 rfl (lv_at hl 3 rfl) ?_
              refine lv_bipush (v := xw_i 16) hx hb d_MD_plain_136 (by decide) ?_
              refine xw_jnI (fun j => ∀ (sq : xw_S) (i4_169 : Int), j sq i4_169 = some sZ → ∀ (H : Heap) (locs : List Loc) (ls : Array Slot), va_P D vwCl (xw_ws kdR 29 ad cs Z sq) H → va_S A s.heap H locs → lv_has ls 6 [(0, .ref (ad 0)), (1, .int (xw_i p1)), (2, .int (xw_i p2)), (3, .int (xw_i p3)), (4, .int (xw_i i4_169))] → W p l e (headSpec w_MD_plain ({ frames := 1, cells := 0, slots := 0, locals := 22 })).room s m [.ref (ad 0), .int (xw_i p1), .int (xw_i p2), .int (xw_i p3)].toArray below meth c H locs 0 0 (MQ below (va_Qv (fun u => u = sZ) (xw_H D vwCl A kdR 29 ad cs Z tt) A) [.ref (ad 0), .int (xw_i p1), .int (xw_i p2), .int (xw_i p3)].toArray s 0 0 A) (F0 m 169 ls [])) h ?_ ?_
              · intro s62 i4_169 h H locs ls hP hS hl
                refine lv_iload_n hx hb d_MD_plain_169 rfl (lv_at hl 3 rfl) ?_
                refine lv_bipush (v := xw_i 30) hx hb d_MD_plain_170 (by decide) ?_
                refine xw_jnI (fun j => ∀ (sq : xw_S) (i4_212 : Int), j sq i4_212 = some sZ → ∀ (H : Heap) (locs : List Loc) (ls : Array Slot), va_P D vwCl (xw_ws kdR 29 ad cs Z sq) H → va_S A s.heap H locs → lv_has ls 6 [(0, .ref (ad 0)), (1, .int (xw_i p1)), (2, .int (xw_i p2)), (3, .int (xw_i p3)), (4, .int (xw_i i4_212))] → W p l e (headSpec w_MD_plain ({ frames := 1, cells := 0, slots := 0, locals := 22 })).room s m [.ref (ad 0), .int (xw_i p1), .int (xw_i p2), .int (xw_i p3)].toArray below meth c H locs 0 0 (MQ below (va_Qv (fun u => u = sZ) (xw_H D vwCl A kdR 29 ad cs Z tt) A) [.ref (ad 0), .int (xw_i p1), .int (xw_i p2), .int (xw_i p3)].toArray s 0 0 A) (F0 m 212 ls [])) h ?_ ?_
                · intro s73 i4_212 h H locs ls hP hS hl
                  refine lv_iload_n hx hb d_MD_plain_212 rfl (lv_at hl 3 rfl) ?_
                  refine lv_bipush (v := xw_i 31) hx hb d_MD_plain_213 (by decide) ?_
                  refine xw_jnI (fun j => ∀ (sq : xw_S), j sq = some sZ → ∀ (H : Heap) (locs : List Loc) (ls : Array Slot), va_P D vwCl (xw_ws kdR 29 ad cs Z sq) H → va_S A s.heap H locs → lv_has ls 6 [(0, .ref (ad 0)), (2, .int (xw_i p2)), (3, .int (xw_i p3))] → W p l e (headSpec w_MD_plain ({ frames := 1, cells := 0, slots := 0, locals := 22 })).room s m [.ref (ad 0), .int (xw_i p1), .int (xw_i p2), .int (xw_i p3)].toArray below meth c H locs 0 0 (MQ below (va_Qv (fun u => u = sZ) (xw_H D vwCl A kdR 29 ad cs Z tt) A) [.ref (ad 0), .int (xw_i p1), .int (xw_i p2), .int (xw_i p3)].toArray s 0 0 A) (F0 m 237 ls [])) h ?_ ?_
                  · intro s79 h H locs ls hP hS hl
                    refine lv_aload_n hx hb d_MD_plain_237 rfl (lv_at hl 0 rfl) ?_
                    refine xw_getR (C := "AdviceWeaverModel") (T := T_MD) hx hb hts hin_MD hown hK hP (by decide) kr_MD (by decide) rfl 33 (by decide) (hts _ hw_556) (fun _ h9 => h9) rfl d_MD_plain_238 ?_
                    refine lv_iload_n hx hb d_MD_plain_241 rfl (lv_at hl 1 rfl) ?_
                    refine lv_dup2_11 hx hb d_MD_plain_242 rfl rfl ?_
                    obtain ⟨hg80, h⟩ := xw_grdI h
                    refine xw_iald hx hb hK hP (by decide) kr_m_place (by decide) hg80 d_MD_plain_243 ?_
                    refine lv_iload_n hx hb d_MD_plain_244 rfl (lv_at hl 2 rfl) ?_
                    obtain ⟨s81, r83, hc82, h⟩ := xw_bn2I h
                    refine xw_callSi ⟨hx, hb, hml, hown, hts⟩ (c_MD_sizeOf l D A ad cs Z tt fu s79 s81 p3 r83 hc82) (va_cwS 1 hts (gd_S hw_456 hw_457 hw_433 hw_458) rfl rfl rfl (by decide +kernel) ⟨Nat.le_of_ble_eq_true rfl, Nat.le_of_ble_eq_true rfl⟩) hP hK hD hX hS rfl hl.1 rfl (Nat.le_of_ble_eq_true rfl) d_MD_plain_245 (fun H locs hP hS => ?_)
                    refine xw_iadd hx hb d_MD_plain_248 ?_
                    refine xw_iast hx hb hK hP hD hS (by decide) kr_m_place (by decide) hg80 d_MD_plain_249 (fun s84 e85 H locs hP hS => ?_)
                    replace h := xw_letI e85 h
                    exact xw_vretE hx hb hr hlk hP hK hD hX hS h d_MD_plain_250
                  · intro j237 hj237 h
                    obtain ⟨hg74, h⟩ := xw_grdI h
                    refine xw_icmp_ne (tgt := 237) hx hb hg74 (by decide) d_MD_plain_215 (by decide) (fun hc75 => ?_) (fun hc75 => ?_)
                    · replace h := xw_ifF hc75 h
                      exact hj237 s73 h _ _ _ hP hS (lv_sub hl [0, 2, 3] rfl)
                    · replace h := xw_ifT hc75 h
                      refine lv_aload_n hx hb d_MD_plain_218 rfl (lv_at hl 0 rfl) ?_
                      refine xw_getR (C := "AdviceWeaverModel") (T := T_MD) hx hb hts hin_MD hown hK hP (by decide) kr_MD (by decide) rfl 42 (by decide) (hts _ hw_580) (fun _ h9 => h9) rfl d_MD_plain_219 ?_
                      refine lv_sipush (v := xw_i 256) hx hb d_MD_plain_222 (by decide) ?_
                      refine lv_iload_n hx hb d_MD_plain_225 rfl (lv_at hl 1 rfl) ?_
                      refine lv_iconst (v := xw_i 4) hx hb d_MD_plain_226 rfl ?_
                      refine xw_irem hx hb (by decide) (by decide) d_MD_plain_227 ?_
                      refine xw_imul hx hb d_MD_plain_228 ?_
                      refine lv_iload hx hb d_MD_plain_229 (lv_at hl 4 rfl) ?_
                      refine xw_iadd hx hb d_MD_plain_231 ?_
                      refine lv_dup2_11 hx hb d_MD_plain_232 rfl rfl ?_
                      obtain ⟨hg76, h⟩ := xw_grdI h
                      refine xw_iald hx hb hK hP (by decide) kr_m_probe (by decide) hg76 d_MD_plain_233 ?_
                      refine lv_iconst (v := xw_i 1) hx hb d_MD_plain_234 rfl ?_
                      refine xw_iadd hx hb d_MD_plain_235 ?_
                      refine xw_iast hx hb hK hP hD hS (by decide) kr_m_probe (by decide) hg76 d_MD_plain_236 (fun s77 e78 H locs hP hS => ?_)
                      replace h := xw_letI e78 h
                      exact hj237 s77 h _ _ _ hP hS (lv_sub hl [0, 2, 3] rfl)
                · intro j212 hj212 h
                  obtain ⟨hg63, h⟩ := xw_grdI h
                  refine xw_icmp_ne (tgt := 212) hx hb hg63 (by decide) d_MD_plain_172 (by decide) (fun hc64 => ?_) (fun hc64 => ?_)
                  · replace h := xw_ifF hc64 h
                    exact hj212 s62 i4_169 h _ _ _ hP hS (lv_sub hl [0, 1, 2, 3, 4] rfl)
                  · replace h := xw_ifT hc64 h
                    refine lv_aload_n hx hb d_MD_plain_175 rfl (lv_at hl 0 rfl) ?_
                    refine xw_getI (C := "AdviceWeaverModel") (T := T_MD) hx hb hts hin_MD hown hK hP (by decide) kr_MD (by decide) rfl 40 (by decide) (hts _ hw_578) (fun _ h9 => h9) rfl d_MD_plain_176 ?_
                    refine lv_bipush (v := xw_i 100) hx hb d_MD_plain_179 (by decide) ?_
                    refine xw_jnI (fun j => ∀ (sq : xw_S) (i4_202 : Int), j sq i4_202 = some sZ → ∀ (H : Heap) (locs : List Loc) (ls : Array Slot), va_P D vwCl (xw_ws kdR 29 ad cs Z sq) H → va_S A s.heap H locs → lv_has ls 6 [(0, .ref (ad 0)), (1, .int (xw_i p1)), (2, .int (xw_i p2)), (3, .int (xw_i p3)), (4, .int (xw_i i4_202))] → W p l e (headSpec w_MD_plain ({ frames := 1, cells := 0, slots := 0, locals := 22 })).room s m [.ref (ad 0), .int (xw_i p1), .int (xw_i p2), .int (xw_i p3)].toArray below meth c H locs 0 0 (MQ below (va_Qv (fun u => u = sZ) (xw_H D vwCl A kdR 29 ad cs Z tt) A) [.ref (ad 0), .int (xw_i p1), .int (xw_i p2), .int (xw_i p3)].toArray s 0 0 A) (F0 m 202 ls [])) h ?_ ?_
                    · intro s70 i4_202 h H locs ls hP hS hl
                      refine lv_aload_n hx hb d_MD_plain_202 rfl (lv_at hl 0 rfl) ?_
                      refine lv_dup hx hb d_MD_plain_203 rfl ?_
                      refine xw_getI (C := "AdviceWeaverModel") (T := T_MD) hx hb hts hin_MD hown hK hP (by decide) kr_MD (by decide) rfl 40 (by decide) (hts _ hw_578) (fun _ h9 => h9) rfl d_MD_plain_204 ?_
                      refine lv_iconst (v := xw_i 1) hx hb d_MD_plain_207 rfl ?_
                      refine xw_iadd hx hb d_MD_plain_208 ?_
                      refine xw_putI (C := "AdviceWeaverModel") (T := T_MD) hx hb hts hin_MD ty_MD ty_MD_ok nm_MD hown hK hP hD hS (by decide) kr_MD (by decide) rfl 40 (by decide) (hts _ hw_578) (fun _ h9 => h9) rfl (by decide +kernel) rfl d_MD_plain_209 (fun s71 e72 H locs hP hS => ?_)
                      replace h := xw_letI e72 h
                      exact hj212 s71 i4_202 h _ _ _ hP hS (lv_sub hl [0, 1, 2, 3, 4] rfl)
                    · intro j202 hj202 h
                      obtain ⟨hg65, h⟩ := xw_grdI h
                      refine xw_icmp_ge (tgt := 202) hx hb hg65 (by decide) d_MD_plain_181 (by decide) (fun hc66 => ?_) (fun hc66 => ?_)
                      · replace h := xw_ifT hc66 h
                        exact hj202 s62 i4_169 h _ _ _ hP hS (lv_sub hl [0, 1, 2, 3, 4] rfl)
                      · replace h := xw_ifF hc66 h
                        refine lv_aload_n hx hb d_MD_plain_184 rfl (lv_at hl 0 rfl) ?_
                        refine xw_getR (C := "AdviceWeaverModel") (T := T_MD) hx hb hts hin_MD hown hK hP (by decide) kr_MD (by decide) rfl 41 (by decide) (hts _ hw_579) (fun _ h9 => h9) rfl d_MD_plain_185 ?_
                        refine lv_aload_n hx hb d_MD_plain_188 rfl (lv_at hl 0 rfl) ?_
                        refine xw_getI (C := "AdviceWeaverModel") (T := T_MD) hx hb hts hin_MD hown hK hP (by decide) kr_MD (by decide) rfl 40 (by decide) (hts _ hw_578) (fun _ h9 => h9) rfl d_MD_plain_189 ?_
                        refine lv_bipush (v := xw_i 16) hx hb d_MD_plain_192 (by decide) ?_
                        refine lv_iload_n hx hb d_MD_plain_194 rfl (lv_at hl 1 rfl) ?_
                        refine lv_iconst (v := xw_i 4) hx hb d_MD_plain_195 rfl ?_
                        refine xw_irem hx hb (by decide) (by decide) d_MD_plain_196 ?_
                        refine xw_imul hx hb d_MD_plain_197 ?_
                        refine lv_iload hx hb d_MD_plain_198 (lv_at hl 4 rfl) ?_
                        refine xw_iadd hx hb d_MD_plain_200 ?_
                        obtain ⟨hg67, h⟩ := xw_grdI h
                        refine xw_iast hx hb hK hP hD hS (by decide) kr_m_mark (by decide) hg67 d_MD_plain_201 (fun s68 e69 H locs hP hS => ?_)
                        replace h := xw_letI e69 h
                        exact hj202 s68 i4_169 h _ _ _ hP hS (lv_sub hl [0, 1, 2, 3, 4] rfl)
              · intro j169 hj169 h
                obtain ⟨hg53, h⟩ := xw_grdI h
                refine xw_icmp_ne (tgt := 169) hx hb hg53 (by decide) d_MD_plain_138 (by decide) (fun hc54 => ?_) (fun hc54 => ?_)
                · replace h := xw_ifF hc54 h
                  exact hj169 s52 i4_135 h _ _ _ hP hS (lv_sub hl [0, 1, 2, 3, 4] rfl)
                · replace h := xw_ifT hc54 h
                  refine lv_aload_n hx hb d_MD_plain_141 rfl (lv_at hl 0 rfl) ?_
                  refine xw_getR (C := "AdviceWeaverModel") (T := T_MD) hx hb hts hin_MD hown hK hP (by decide) kr_MD (by decide) rfl 35 (by decide) (hts _ hw_558) (fun _ h9 => h9) rfl d_MD_plain_142 ?_
                  refine lv_bipush (v := xw_i 6) hx hb d_MD_plain_145 (by decide) ?_
                  refine lv_iload_n hx hb d_MD_plain_147 rfl (lv_at hl 2 rfl) ?_
                  refine xw_imul hx hb d_MD_plain_148 ?_
                  refine lv_iload hx hb d_MD_plain_149 (lv_at hl 4 rfl) ?_
                  refine xw_iadd hx hb d_MD_plain_151 ?_
                  refine lv_dup2_11 hx hb d_MD_plain_152 rfl rfl ?_
                  obtain ⟨hg55, h⟩ := xw_grdI h
                  refine xw_iald hx hb hK hP (by decide) kr_m_local (by decide) hg55 d_MD_plain_153 ?_
                  refine lv_aload_n hx hb d_MD_plain_154 rfl (lv_at hl 0 rfl) ?_
                  refine lv_iload_n hx hb d_MD_plain_155 rfl (lv_at hl 1 rfl) ?_
                  refine lv_aload_n hx hb d_MD_plain_156 rfl (lv_at hl 0 rfl) ?_
                  refine xw_getR (C := "AdviceWeaverModel") (T := T_MD) hx hb hts hin_MD hown hK hP (by decide) kr_MD (by decide) rfl 33 (by decide) (hts _ hw_556) (fun _ h9 => h9) rfl d_MD_plain_157 ?_
                  refine lv_iload_n hx hb d_MD_plain_160 rfl (lv_at hl 2 rfl) ?_
                  obtain ⟨hg56, h⟩ := xw_grdI h
                  refine xw_iald hx hb hK hP (by decide) kr_m_place (by decide) hg56 d_MD_plain_161 ?_
                  refine lv_iconst (v := xw_i 2) hx hb d_MD_plain_162 rfl ?_
                  refine xw_iadd hx hb d_MD_plain_163 ?_
                  obtain ⟨s57, r59, hc58, h⟩ := xw_bn2I h
                  refine xw_callVi (C := "AdviceWeaverModel") (T := T_MD) ⟨hx, hb, hml, hown, hts⟩ (c_MD_signed l D A ad cs Z tt fu s52 s57 p1 ((s52.1 23 (p2).toNat) + 2) r59 hc58) (cwV 2 hts (gd_V hw_459 hw_460 hw_461 hw_433 hw_462) rfl rfl rfl (by decide +kernel) ⟨Nat.le_of_ble_eq_true rfl, Nat.le_of_ble_eq_true rfl⟩) hP hK hD hX hS (by decide) kr_MD (by decide) rfl rfl hl.1 rfl (Nat.le_of_ble_eq_true rfl) d_MD_plain_164 (fun H locs hP hS => ?_)
                  refine xw_iadd hx hb d_MD_plain_167 ?_
                  refine xw_wrap ?_
                  refine xw_iast hx hb hK hP hD hS (by decide) kr_m_local (by decide) hg55 d_MD_plain_168 (fun s60 e61 H locs hP hS => ?_)
                  replace h := xw_letI e61 h
                  exact hj169 s60 i4_135 h _ _ _ hP hS (lv_sub hl [0, 1, 2, 3, 4] rfl)
            · intro j135 hj135 h
              obtain ⟨hg47, h⟩ := xw_grdI h
              refine xw_icmp_ne (tgt := 135) hx hb hg47 (by decide) d_MD_plain_127 (by decide) (fun hc48 => ?_) (fun hc48 => ?_)
              · replace h := xw_ifF hc48 h
                exact hj135 s46 i4_124 h _ _ _ hP hS (lv_sub hl [0, 1, 2, 3, 4] rfl)
              · replace h := xw_ifT hc48 h
                refine lv_aload_n hx hb d_MD_plain_130 rfl (lv_at hl 0 rfl) ?_
                obtain ⟨s49, r51, hc50, h⟩ := xw_bn2I h
                refine xw_callVi (C := "AdviceWeaverModel") (T := T_MD) ⟨hx, hb, hml, hown, hts⟩ (c_MD_pop l D A ad cs Z tt fu s46 s49 r51 hc50) (cwV 0 hts (gd_V hw_560 hw_561 hw_562 hw_433 hw_563) rfl rfl rfl (by decide +kernel) ⟨Nat.le_of_ble_eq_true rfl, Nat.le_of_ble_eq_true rfl⟩) hP hK hD hX hS (by decide) kr_MD (by decide) rfl rfl hl.1 rfl (Nat.le_of_ble_eq_true rfl) d_MD_plain_131 (fun H locs hP hS => ?_)
                refine lv_pop hx hb d_MD_plain_134 rfl ?_
                exact hj135 s49 i4_124 h _ _ _ hP hS (lv_sub hl [0, 1, 2, 3, 4] rfl)
          · intro j124 hj124 h
            obtain ⟨hg35, h⟩ := xw_grdI h
            refine xw_icmp_ne (tgt := 124) hx hb hg35 (by decide) d_MD_plain_103 (by decide) (fun hc36 => ?_) (fun hc36 => ?_)
            · replace h := xw_ifF hc36 h
              exact hj124 s34 i4_100 h _ _ _ hP hS (lv_sub hl [0, 1, 2, 3, 4] rfl)
            · replace h := xw_ifT hc36 h
              refine lv_aload_n hx hb d_MD_plain_106 rfl (lv_at hl 0 rfl) ?_
              obtain ⟨s37, r39, hc38, h⟩ := xw_bn2I h
              refine xw_callVi (C := "AdviceWeaverModel") (T := T_MD) ⟨hx, hb, hml, hown, hts⟩ (c_MD_pop l D A ad cs Z tt fu s34 s37 r39 hc38) (cwV 0 hts (gd_V hw_560 hw_561 hw_562 hw_433 hw_563) rfl rfl rfl (by decide +kernel) ⟨Nat.le_of_ble_eq_true rfl, Nat.le_of_ble_eq_true rfl⟩) hP hK hD hX hS (by decide) kr_MD (by decide) rfl rfl hl.1 rfl (Nat.le_of_ble_eq_true rfl) d_MD_plain_107 (fun H locs hP hS => ?_)
              refine lv_istore hx hb d_MD_plain_110 hl (by decide) rfl (fun ls hl => ?_)
              refine lv_aload_n hx hb d_MD_plain_112 rfl (lv_at hl 1 rfl) ?_
              refine lv_iload hx hb d_MD_plain_113 (lv_at hl 0 rfl) ?_
              obtain ⟨s40, hc41, h⟩ := xw_bndI h
              refine xw_callVv (C := "AdviceWeaverModel") (T := T_MD) ⟨hx, hb, hml, hown, hts⟩ (c_MD_push l D A ad cs Z tt fu s37 s40 r39 hc41) (cwV 1 hts (gd_V hw_564 hw_565 hw_566 hw_433 hw_567) rfl rfl rfl (by decide +kernel) ⟨Nat.le_of_ble_eq_true rfl, Nat.le_of_ble_eq_true rfl⟩) hP hK hD hX hS (by decide) kr_MD (by decide) rfl rfl hl.1 rfl (Nat.le_of_ble_eq_true rfl) d_MD_plain_115 (fun H locs hP hS => ?_)
              refine lv_aload_n hx hb d_MD_plain_118 rfl (lv_at hl 1 rfl) ?_
              refine lv_iload hx hb d_MD_plain_119 (lv_at hl 0 rfl) ?_
              obtain ⟨s43, hc44, h⟩ := xw_bndI h
              refine xw_callVv (C := "AdviceWeaverModel") (T := T_MD) ⟨hx, hb, hml, hown, hts⟩ (c_MD_push l D A ad cs Z tt fu s40 s43 r39 hc44) (cwV 1 hts (gd_V hw_564 hw_565 hw_566 hw_433 hw_567) rfl rfl rfl (by decide +kernel) ⟨Nat.le_of_ble_eq_true rfl, Nat.le_of_ble_eq_true rfl⟩) hP hK hD hX hS (by decide) kr_MD (by decide) rfl rfl hl.1 rfl (Nat.le_of_ble_eq_true rfl) d_MD_plain_121 (fun H locs hP hS => ?_)
              exact hj124 s43 i4_100 h _ _ _ hP hS (lv_sub hl [1, 2, 3, 4, 5] rfl)
        · intro j100 hj100 h
          obtain ⟨hg26, h⟩ := xw_grdI h
          refine xw_icmp_ne (tgt := 100) hx hb hg26 (by decide) d_MD_plain_81 (by decide) (fun hc27 => ?_) (fun hc27 => ?_)
          · replace h := xw_ifF hc27 h
            exact hj100 s25 i4_79 h _ _ _ hP hS (lv_sub hl [0, 1, 2, 3, 4] rfl)
          · replace h := xw_ifT hc27 h
            refine lv_aload_n hx hb d_MD_plain_84 rfl (lv_at hl 0 rfl) ?_
            refine xw_getR (C := "AdviceWeaverModel") (T := T_MD) hx hb hts hin_MD hown hK hP (by decide) kr_MD (by decide) rfl 35 (by decide) (hts _ hw_558) (fun _ h9 => h9) rfl d_MD_plain_85 ?_
            refine lv_bipush (v := xw_i 6) hx hb d_MD_plain_88 (by decide) ?_
            refine lv_iload_n hx hb d_MD_plain_90 rfl (lv_at hl 2 rfl) ?_
            refine xw_imul hx hb d_MD_plain_91 ?_
            refine lv_iload hx hb d_MD_plain_92 (lv_at hl 4 rfl) ?_
            refine xw_iadd hx hb d_MD_plain_94 ?_
            refine lv_aload_n hx hb d_MD_plain_95 rfl (lv_at hl 0 rfl) ?_
            obtain ⟨s28, r30, hc29, h⟩ := xw_bn2I h
            refine xw_callVi (C := "AdviceWeaverModel") (T := T_MD) ⟨hx, hb, hml, hown, hts⟩ (c_MD_pop l D A ad cs Z tt fu s25 s28 r30 hc29) (cwV 0 hts (gd_V hw_560 hw_561 hw_562 hw_433 hw_563) rfl rfl rfl (by decide +kernel) ⟨Nat.le_of_ble_eq_true rfl, Nat.le_of_ble_eq_true rfl⟩) hP hK hD hX hS (by decide) kr_MD (by decide) rfl rfl hl.1 rfl (Nat.le_of_ble_eq_true rfl) d_MD_plain_96 (fun H locs hP hS => ?_)
            obtain ⟨hg31, h⟩ := xw_grdI h
            refine xw_iast hx hb hK hP hD hS (by decide) kr_m_local (by decide) hg31 d_MD_plain_99 (fun s32 e33 H locs hP hS => ?_)
            replace h := xw_letI e33 h
            exact hj100 s32 i4_79 h _ _ _ hP hS (lv_sub hl [0, 1, 2, 3, 4] rfl)
      · intro j79 hj79 h
        obtain ⟨hg19, h⟩ := xw_grdI h
        refine xw_icmp_ne (tgt := 79) hx hb hg19 (by decide) d_MD_plain_60 (by decide) (fun hc20 => ?_) (fun hc20 => ?_)
        · replace h := xw_ifF hc20 h
          exact hj79 s18 i4_58 h _ _ _ hP hS (lv_sub hl [0, 1, 2, 3, 4] rfl)
        · replace h := xw_ifT hc20 h
          refine lv_aload_n hx hb d_MD_plain_63 rfl (lv_at hl 0 rfl) ?_
          refine lv_aload_n hx hb d_MD_plain_64 rfl (lv_at hl 0 rfl) ?_
          refine xw_getR (C := "AdviceWeaverModel") (T := T_MD) hx hb hts hin_MD hown hK hP (by decide) kr_MD (by decide) rfl 35 (by decide) (hts _ hw_558) (fun _ h9 => h9) rfl d_MD_plain_65 ?_
          refine lv_bipush (v := xw_i 6) hx hb d_MD_plain_68 (by decide) ?_
          refine lv_iload_n hx hb d_MD_plain_70 rfl (lv_at hl 2 rfl) ?_
          refine xw_imul hx hb d_MD_plain_71 ?_
          refine lv_iload hx hb d_MD_plain_72 (lv_at hl 4 rfl) ?_
          refine xw_iadd hx hb d_MD_plain_74 ?_
          obtain ⟨hg21, h⟩ := xw_grdI h
          refine xw_iald hx hb hK hP (by decide) kr_m_local (by decide) hg21 d_MD_plain_75 ?_
          obtain ⟨s22, hc23, h⟩ := xw_bndI h
          refine xw_callVv (C := "AdviceWeaverModel") (T := T_MD) ⟨hx, hb, hml, hown, hts⟩ (c_MD_push l D A ad cs Z tt fu s18 s22 (s18.1 25 ((6 * p2) + i4_58).toNat) hc23) (cwV 1 hts (gd_V hw_564 hw_565 hw_566 hw_433 hw_567) rfl rfl rfl (by decide +kernel) ⟨Nat.le_of_ble_eq_true rfl, Nat.le_of_ble_eq_true rfl⟩) hP hK hD hX hS (by decide) kr_MD (by decide) rfl rfl hl.1 rfl (Nat.le_of_ble_eq_true rfl) d_MD_plain_76 (fun H locs hP hS => ?_)
          exact hj79 s22 i4_58 h _ _ _ hP hS (lv_sub hl [0, 1, 2, 3, 4] rfl)
    · intro j58 hj58 h
      obtain ⟨hg9, h⟩ := xw_grdI h
      refine xw_icmp_ne (tgt := 58) hx hb hg9 (by decide) d_MD_plain_38 (by decide) (fun hc10 => ?_) (fun hc10 => ?_)
      · replace h := xw_ifF hc10 h
        exact hj58 s6 r8 h _ _ _ hP hS (lv_sub hl [1, 2, 3, 4, 0] rfl)
      · replace h := xw_ifT hc10 h
        refine lv_aload_n hx hb d_MD_plain_41 rfl (lv_at hl 1 rfl) ?_
        refine lv_aload_n hx hb d_MD_plain_42 rfl (lv_at hl 1 rfl) ?_
        refine lv_iload_n hx hb d_MD_plain_43 rfl (lv_at hl 2 rfl) ?_
        refine lv_aload_n hx hb d_MD_plain_44 rfl (lv_at hl 1 rfl) ?_
        refine xw_getR (C := "AdviceWeaverModel") (T := T_MD) hx hb hts hin_MD hown hK hP (by decide) kr_MD (by decide) rfl 33 (by decide) (hts _ hw_556) (fun _ h9 => h9) rfl d_MD_plain_45 ?_
        refine lv_iload_n hx hb d_MD_plain_48 rfl (lv_at hl 3 rfl) ?_
        obtain ⟨hg11, h⟩ := xw_grdI h
        refine xw_iald hx hb hK hP (by decide) kr_m_place (by decide) hg11 d_MD_plain_49 ?_
        refine lv_iconst (v := xw_i 1) hx hb d_MD_plain_50 rfl ?_
        refine xw_iadd hx hb d_MD_plain_51 ?_
        obtain ⟨s12, r14, hc13, h⟩ := xw_bn2I h
        refine xw_callVi (C := "AdviceWeaverModel") (T := T_MD) ⟨hx, hb, hml, hown, hts⟩ (c_MD_signed l D A ad cs Z tt fu s6 s12 p1 ((s6.1 23 (p2).toNat) + 1) r14 hc13) (cwV 2 hts (gd_V hw_459 hw_460 hw_461 hw_433 hw_462) rfl rfl rfl (by decide +kernel) ⟨Nat.le_of_ble_eq_true rfl, Nat.le_of_ble_eq_true rfl⟩) hP hK hD hX hS (by decide) kr_MD (by decide) rfl rfl hl.1 rfl (Nat.le_of_ble_eq_true rfl) d_MD_plain_52 (fun H locs hP hS => ?_)
        obtain ⟨s15, hc16, h⟩ := xw_bndI h
        refine xw_callVv (C := "AdviceWeaverModel") (T := T_MD) ⟨hx, hb, hml, hown, hts⟩ (c_MD_push l D A ad cs Z tt fu s12 s15 r14 hc16) (cwV 1 hts (gd_V hw_564 hw_565 hw_566 hw_433 hw_567) rfl rfl rfl (by decide +kernel) ⟨Nat.le_of_ble_eq_true rfl, Nat.le_of_ble_eq_true rfl⟩) hP hK hD hX hS (by decide) kr_MD (by decide) rfl rfl hl.1 rfl (Nat.le_of_ble_eq_true rfl) d_MD_plain_55 (fun H locs hP hS => ?_)
        exact hj58 s15 r8 h _ _ _ hP hS (lv_sub hl [1, 2, 3, 4, 0] rfl)
  · intro j31 hj31 h
    obtain ⟨hg3, h⟩ := xw_grdI h
    refine xw_icmp_ge (tgt := 30) hx hb hg3.1 hg3.2 d_MD_plain_16 (by decide) (fun hc4 => ?_) (fun hc4 => ?_)
    · replace h := xw_ifT hc4 h
      refine lv_iconst (v := xw_i 0) hx hb d_MD_plain_30 rfl ?_
      exact hj31 s0 0 p1 h _ _ _ hP hS (lv_sub hl [0, 1, 2, 3] rfl)
    · replace h := xw_ifF hc4 h
      refine lv_aload_n hx hb d_MD_plain_19 rfl (lv_at hl 0 rfl) ?_
      refine xw_getR (C := "AdviceWeaverModel") (T := T_MD) hx hb hts hin_MD hown hK hP (by decide) kr_MD (by decide) rfl 33 (by decide) (hts _ hw_556) (fun _ h9 => h9) rfl d_MD_plain_20 ?_
      refine lv_iload_n hx hb d_MD_plain_23 rfl (lv_at hl 2 rfl) ?_
      refine xw_iald hx hb hK hP (by decide) kr_m_place (by decide) hg1 d_MD_plain_24 ?_
      refine lv_iconst (v := xw_i 1) hx hb d_MD_plain_25 rfl ?_
      refine xw_iadd hx hb d_MD_plain_26 ?_
      refine lv_goto (tgt := 31) hx hb d_MD_plain_27 (by decide) ?_
      exact hj31 s0 ((s0.1 23 (p2).toNat) + 1) p1 h _ _ _ hP hS (lv_sub hl [0, 1, 2, 3] rfl)
