/-! 16.flow -/
theorem d_FL_arrive_0 : decode b_FL_arrive 0 = .ok (.aload_n 1, 1) := by decide +kernel
theorem d_FL_arrive_1 : decode b_FL_arrive 1 = .ok (.iload_n 2, 1) := by decide +kernel
theorem d_FL_arrive_2 : decode b_FL_arrive 2 = .ok (.invokevirtual 96, 3) := by decide +kernel
theorem d_FL_arrive_5 : decode b_FL_arrive 5 = .ok (.ifCond .ne 11, 3) := by decide +kernel
theorem d_FL_arrive_8 : decode b_FL_arrive 8 = .ok (.aload_n 0, 1) := by decide +kernel
theorem d_FL_arrive_9 : decode b_FL_arrive 9 = .ok (.iconst 0, 1) := by decide +kernel
theorem d_FL_arrive_10 : decode b_FL_arrive 10 = .ok (.putfield 25, 3) := by decide +kernel
theorem d_FL_arrive_13 : decode b_FL_arrive 13 = .ok (.goto 86, 3) := by decide +kernel
theorem d_FL_arrive_16 : decode b_FL_arrive 16 = .ok (.aload_n 1, 1) := by decide +kernel
theorem d_FL_arrive_17 : decode b_FL_arrive 17 = .ok (.iload_n 2, 1) := by decide +kernel
theorem d_FL_arrive_18 : decode b_FL_arrive 18 = .ok (.invokevirtual 39, 3) := by decide +kernel
theorem d_FL_arrive_21 : decode b_FL_arrive 21 = .ok (.ifCond .ne 26, 3) := by decide +kernel
theorem d_FL_arrive_24 : decode b_FL_arrive 24 = .ok (.aload_n 1, 1) := by decide +kernel
theorem d_FL_arrive_25 : decode b_FL_arrive 25 = .ok (.getfield 50, 3) := by decide +kernel
theorem d_FL_arrive_28 : decode b_FL_arrive 28 = .ok (.iload_n 2, 1) := by decide +kernel
theorem d_FL_arrive_29 : decode b_FL_arrive 29 = .ok (.iload_n 3, 1) := by decide +kernel
theorem d_FL_arrive_30 : decode b_FL_arrive 30 = .ok (.iastore, 1) := by decide +kernel
theorem d_FL_arrive_31 : decode b_FL_arrive 31 = .ok (.aload_n 0, 1) := by decide +kernel
theorem d_FL_arrive_32 : decode b_FL_arrive 32 = .ok (.getfield 9, 3) := by decide +kernel
theorem d_FL_arrive_35 : decode b_FL_arrive 35 = .ok (.iload_n 2, 1) := by decide +kernel
theorem d_FL_arrive_36 : decode b_FL_arrive 36 = .ok (.iload 4, 2) := by decide +kernel
theorem d_FL_arrive_38 : decode b_FL_arrive 38 = .ok (.iastore, 1) := by decide +kernel
theorem d_FL_arrive_39 : decode b_FL_arrive 39 = .ok (.aload_n 0, 1) := by decide +kernel
theorem d_FL_arrive_40 : decode b_FL_arrive 40 = .ok (.iconst 1, 1) := by decide +kernel
theorem d_FL_arrive_41 : decode b_FL_arrive 41 = .ok (.putfield 21, 3) := by decide +kernel
theorem d_FL_arrive_44 : decode b_FL_arrive 44 = .ok (.goto 55, 3) := by decide +kernel
theorem d_FL_arrive_47 : decode b_FL_arrive 47 = .ok (.aload_n 1, 1) := by decide +kernel
theorem d_FL_arrive_48 : decode b_FL_arrive 48 = .ok (.getfield 50, 3) := by decide +kernel
theorem d_FL_arrive_51 : decode b_FL_arrive 51 = .ok (.iload_n 2, 1) := by decide +kernel
theorem d_FL_arrive_52 : decode b_FL_arrive 52 = .ok (.iaload, 1) := by decide +kernel
theorem d_FL_arrive_53 : decode b_FL_arrive 53 = .ok (.iload_n 3, 1) := by decide +kernel
theorem d_FL_arrive_54 : decode b_FL_arrive 54 = .ok (.if_icmp .eq 11, 3) := by decide +kernel
theorem d_FL_arrive_57 : decode b_FL_arrive 57 = .ok (.aload_n 0, 1) := by decide +kernel
theorem d_FL_arrive_58 : decode b_FL_arrive 58 = .ok (.iconst 0, 1) := by decide +kernel
theorem d_FL_arrive_59 : decode b_FL_arrive 59 = .ok (.putfield 25, 3) := by decide +kernel
theorem d_FL_arrive_62 : decode b_FL_arrive 62 = .ok (.goto 37, 3) := by decide +kernel
theorem d_FL_arrive_65 : decode b_FL_arrive 65 = .ok (.aload_n 0, 1) := by decide +kernel
theorem d_FL_arrive_66 : decode b_FL_arrive 66 = .ok (.getfield 9, 3) := by decide +kernel
theorem d_FL_arrive_69 : decode b_FL_arrive 69 = .ok (.iload_n 2, 1) := by decide +kernel
theorem d_FL_arrive_70 : decode b_FL_arrive 70 = .ok (.iaload, 1) := by decide +kernel
theorem d_FL_arrive_71 : decode b_FL_arrive 71 = .ok (.iload 4, 2) := by decide +kernel
theorem d_FL_arrive_73 : decode b_FL_arrive 73 = .ok (.iand, 1) := by decide +kernel
theorem d_FL_arrive_74 : decode b_FL_arrive 74 = .ok (.aload_n 0, 1) := by decide +kernel
theorem d_FL_arrive_75 : decode b_FL_arrive 75 = .ok (.getfield 9, 3) := by decide +kernel
theorem d_FL_arrive_78 : decode b_FL_arrive 78 = .ok (.iload_n 2, 1) := by decide +kernel
theorem d_FL_arrive_79 : decode b_FL_arrive 79 = .ok (.iaload, 1) := by decide +kernel
theorem d_FL_arrive_80 : decode b_FL_arrive 80 = .ok (.if_icmp .eq 19, 3) := by decide +kernel
theorem d_FL_arrive_83 : decode b_FL_arrive 83 = .ok (.aload_n 0, 1) := by decide +kernel
theorem d_FL_arrive_84 : decode b_FL_arrive 84 = .ok (.getfield 9, 3) := by decide +kernel
theorem d_FL_arrive_87 : decode b_FL_arrive 87 = .ok (.iload_n 2, 1) := by decide +kernel
theorem d_FL_arrive_88 : decode b_FL_arrive 88 = .ok (.dup2, 1) := by decide +kernel
theorem d_FL_arrive_89 : decode b_FL_arrive 89 = .ok (.iaload, 1) := by decide +kernel
theorem d_FL_arrive_90 : decode b_FL_arrive 90 = .ok (.iload 4, 2) := by decide +kernel
theorem d_FL_arrive_92 : decode b_FL_arrive 92 = .ok (.iand, 1) := by decide +kernel
theorem d_FL_arrive_93 : decode b_FL_arrive 93 = .ok (.iastore, 1) := by decide +kernel
theorem d_FL_arrive_94 : decode b_FL_arrive 94 = .ok (.aload_n 0, 1) := by decide +kernel
theorem d_FL_arrive_95 : decode b_FL_arrive 95 = .ok (.iconst 1, 1) := by decide +kernel
theorem d_FL_arrive_96 : decode b_FL_arrive 96 = .ok (.putfield 21, 3) := by decide +kernel
theorem d_FL_arrive_99 : decode b_FL_arrive 99 = .ok (.return_, 1) := by decide +kernel
theorem d_FL_leave_0 : decode b_FL_leave 0 = .ok (.aload_n 1, 1) := by decide +kernel
theorem d_FL_leave_1 : decode b_FL_leave 1 = .ok (.iload_n 2, 1) := by decide +kernel
theorem d_FL_leave_2 : decode b_FL_leave 2 = .ok (.invokevirtual 59, 3) := by decide +kernel
theorem d_FL_leave_5 : decode b_FL_leave 5 = .ok (.istore 4, 2) := by decide +kernel
theorem d_FL_leave_7 : decode b_FL_leave 7 = .ok (.aload_n 1, 1) := by decide +kernel
theorem d_FL_leave_8 : decode b_FL_leave 8 = .ok (.iload_n 2, 1) := by decide +kernel
theorem d_FL_leave_9 : decode b_FL_leave 9 = .ok (.iconst 1, 1) := by decide +kernel
theorem d_FL_leave_10 : decode b_FL_leave 10 = .ok (.iadd, 1) := by decide +kernel
theorem d_FL_leave_11 : decode b_FL_leave 11 = .ok (.invokevirtual 59, 3) := by decide +kernel
theorem d_FL_leave_14 : decode b_FL_leave 14 = .ok (.istore 5, 2) := by decide +kernel
theorem d_FL_leave_16 : decode b_FL_leave 16 = .ok (.aload_n 0, 1) := by decide +kernel
theorem d_FL_leave_17 : decode b_FL_leave 17 = .ok (.getfield 9, 3) := by decide +kernel
theorem d_FL_leave_20 : decode b_FL_leave 20 = .ok (.iload_n 2, 1) := by decide +kernel
theorem d_FL_leave_21 : decode b_FL_leave 21 = .ok (.iaload, 1) := by decide +kernel
theorem d_FL_leave_22 : decode b_FL_leave 22 = .ok (.istore 6, 2) := by decide +kernel
theorem d_FL_leave_24 : decode b_FL_leave 24 = .ok (.iload 4, 2) := by decide +kernel
theorem d_FL_leave_26 : decode b_FL_leave 26 = .ok (.bipush 13, 2) := by decide +kernel
theorem d_FL_leave_28 : decode b_FL_leave 28 = .ok (.if_icmp .ne 13, 3) := by decide +kernel
theorem d_FL_leave_31 : decode b_FL_leave 31 = .ok (.aload_n 3, 1) := by decide +kernel
theorem d_FL_leave_32 : decode b_FL_leave 32 = .ok (.iload 5, 2) := by decide +kernel
theorem d_FL_leave_34 : decode b_FL_leave 34 = .ok (.aaload, 1) := by decide +kernel
theorem d_FL_leave_35 : decode b_FL_leave 35 = .ok (.getfield 28, 3) := by decide +kernel
theorem d_FL_leave_38 : decode b_FL_leave 38 = .ok (.goto 8, 3) := by decide +kernel
theorem d_FL_leave_41 : decode b_FL_leave 41 = .ok (.iload 4, 2) := by decide +kernel
theorem d_FL_leave_43 : decode b_FL_leave 43 = .ok (.invokestatic 65, 3) := by decide +kernel
theorem d_FL_leave_46 : decode b_FL_leave 46 = .ok (.istore 7, 2) := by decide +kernel
theorem d_FL_leave_48 : decode b_FL_leave 48 = .ok (.aload_n 1, 1) := by decide +kernel
theorem d_FL_leave_49 : decode b_FL_leave 49 = .ok (.getfield 50, 3) := by decide +kernel
theorem d_FL_leave_52 : decode b_FL_leave 52 = .ok (.iload_n 2, 1) := by decide +kernel
theorem d_FL_leave_53 : decode b_FL_leave 53 = .ok (.iaload, 1) := by decide +kernel
theorem d_FL_leave_54 : decode b_FL_leave 54 = .ok (.istore 8, 2) := by decide +kernel
theorem d_FL_leave_56 : decode b_FL_leave 56 = .ok (.iload 8, 2) := by decide +kernel
theorem d_FL_leave_58 : decode b_FL_leave 58 = .ok (.iload 7, 2) := by decide +kernel
theorem d_FL_leave_60 : decode b_FL_leave 60 = .ok (.isub, 1) := by decide +kernel
theorem d_FL_leave_61 : decode b_FL_leave 61 = .ok (.iload 4, 2) := by decide +kernel
theorem d_FL_leave_63 : decode b_FL_leave 63 = .ok (.invokestatic 68, 3) := by decide +kernel
theorem d_FL_leave_66 : decode b_FL_leave 66 = .ok (.iadd, 1) := by decide +kernel
theorem d_FL_leave_67 : decode b_FL_leave 67 = .ok (.istore 9, 2) := by decide +kernel
theorem d_FL_leave_69 : decode b_FL_leave 69 = .ok (.iload 4, 2) := by decide +kernel
theorem d_FL_leave_71 : decode b_FL_leave 71 = .ok (.iconst 2, 1) := by decide +kernel
theorem d_FL_leave_72 : decode b_FL_leave 72 = .ok (.if_icmp .eq 10, 3) := by decide +kernel
theorem d_FL_leave_75 : decode b_FL_leave 75 = .ok (.iload 4, 2) := by decide +kernel
theorem d_FL_leave_77 : decode b_FL_leave 77 = .ok (.bipush 16, 2) := by decide +kernel
theorem d_FL_leave_79 : decode b_FL_leave 79 = .ok (.if_icmp .ne 17, 3) := by decide +kernel
theorem d_FL_leave_82 : decode b_FL_leave 82 = .ok (.iload 6, 2) := by decide +kernel
theorem d_FL_leave_84 : decode b_FL_leave 84 = .ok (.iload 5, 2) := by decide +kernel
theorem d_FL_leave_86 : decode b_FL_leave 86 = .ok (.ishr, 1) := by decide +kernel
theorem d_FL_leave_87 : decode b_FL_leave 87 = .ok (.iconst 1, 1) := by decide +kernel
theorem d_FL_leave_88 : decode b_FL_leave 88 = .ok (.iand, 1) := by decide +kernel
theorem d_FL_leave_89 : decode b_FL_leave 89 = .ok (.ifCond .ne 7, 3) := by decide +kernel
theorem d_FL_leave_92 : decode b_FL_leave 92 = .ok (.iconst 1, 1) := by decide +kernel
theorem d_FL_leave_93 : decode b_FL_leave 93 = .ok (.goto 4, 3) := by decide +kernel
theorem d_FL_leave_96 : decode b_FL_leave 96 = .ok (.iconst 0, 1) := by decide +kernel
theorem d_FL_leave_97 : decode b_FL_leave 97 = .ok (.istore 10, 2) := by decide +kernel
theorem d_FL_leave_99 : decode b_FL_leave 99 = .ok (.iload 8, 2) := by decide +kernel
theorem d_FL_leave_101 : decode b_FL_leave 101 = .ok (.iload 7, 2) := by decide +kernel
theorem d_FL_leave_103 : decode b_FL_leave 103 = .ok (.if_icmp .lt 17, 3) := by decide +kernel
theorem d_FL_leave_106 : decode b_FL_leave 106 = .ok (.iload 9, 2) := by decide +kernel
theorem d_FL_leave_108 : decode b_FL_leave 108 = .ok (.aload_n 1, 1) := by decide +kernel
theorem d_FL_leave_109 : decode b_FL_leave 109 = .ok (.getfield 71, 3) := by decide +kernel
theorem d_FL_leave_112 : decode b_FL_leave 112 = .ok (.if_icmp .gt 8, 3) := by decide +kernel
theorem d_FL_leave_115 : decode b_FL_leave 115 = .ok (.iload 10, 2) := by decide +kernel
theorem d_FL_leave_117 : decode b_FL_leave 117 = .ok (.ifCond .eq 9, 3) := by decide +kernel
theorem d_FL_leave_120 : decode b_FL_leave 120 = .ok (.aload_n 0, 1) := by decide +kernel
theorem d_FL_leave_121 : decode b_FL_leave 121 = .ok (.iconst 0, 1) := by decide +kernel
theorem d_FL_leave_122 : decode b_FL_leave 122 = .ok (.putfield 25, 3) := by decide +kernel
theorem d_FL_leave_125 : decode b_FL_leave 125 = .ok (.return_, 1) := by decide +kernel
theorem d_FL_leave_126 : decode b_FL_leave 126 = .ok (.iload 4, 2) := by decide +kernel
theorem d_FL_leave_128 : decode b_FL_leave 128 = .ok (.iconst 3, 1) := by decide +kernel
theorem d_FL_leave_129 : decode b_FL_leave 129 = .ok (.if_icmp .ne 13, 3) := by decide +kernel
theorem d_FL_leave_132 : decode b_FL_leave 132 = .ok (.iload 6, 2) := by decide +kernel
theorem d_FL_leave_134 : decode b_FL_leave 134 = .ok (.iconst 1, 1) := by decide +kernel
theorem d_FL_leave_135 : decode b_FL_leave 135 = .ok (.iload 5, 2) := by decide +kernel
theorem d_FL_leave_137 : decode b_FL_leave 137 = .ok (.ishl, 1) := by decide +kernel
theorem d_FL_leave_138 : decode b_FL_leave 138 = .ok (.ior, 1) := by decide +kernel
theorem d_FL_leave_139 : decode b_FL_leave 139 = .ok (.goto 5, 3) := by decide +kernel
theorem d_FL_leave_142 : decode b_FL_leave 142 = .ok (.iload 6, 2) := by decide +kernel
theorem d_FL_leave_144 : decode b_FL_leave 144 = .ok (.istore 11, 2) := by decide +kernel
theorem d_FL_leave_146 : decode b_FL_leave 146 = .ok (.iload 4, 2) := by decide +kernel
theorem d_FL_leave_148 : decode b_FL_leave 148 = .ok (.invokestatic 74, 3) := by decide +kernel
theorem d_FL_leave_151 : decode b_FL_leave 151 = .ok (.ifCond .eq 19, 3) := by decide +kernel
theorem d_FL_leave_154 : decode b_FL_leave 154 = .ok (.aload_n 0, 1) := by decide +kernel
theorem d_FL_leave_155 : decode b_FL_leave 155 = .ok (.aload_n 1, 1) := by decide +kernel
theorem d_FL_leave_156 : decode b_FL_leave 156 = .ok (.iload_n 2, 1) := by decide +kernel
theorem d_FL_leave_157 : decode b_FL_leave 157 = .ok (.iload 4, 2) := by decide +kernel
theorem d_FL_leave_159 : decode b_FL_leave 159 = .ok (.invokestatic 77, 3) := by decide +kernel
theorem d_FL_leave_162 : decode b_FL_leave 162 = .ok (.iadd, 1) := by decide +kernel
theorem d_FL_leave_163 : decode b_FL_leave 163 = .ok (.iload 9, 2) := by decide +kernel
theorem d_FL_leave_165 : decode b_FL_leave 165 = .ok (.iload 11, 2) := by decide +kernel
theorem d_FL_leave_167 : decode b_FL_leave 167 = .ok (.invokevirtual 32, 3) := by decide +kernel
theorem d_FL_leave_170 : decode b_FL_leave 170 = .ok (.iload 4, 2) := by decide +kernel
theorem d_FL_leave_172 : decode b_FL_leave 172 = .ok (.invokestatic 80, 3) := by decide +kernel
theorem d_FL_leave_175 : decode b_FL_leave 175 = .ok (.ifCond .eq 19, 3) := by decide +kernel
theorem d_FL_leave_178 : decode b_FL_leave 178 = .ok (.aload_n 0, 1) := by decide +kernel
theorem d_FL_leave_179 : decode b_FL_leave 179 = .ok (.aload_n 1, 1) := by decide +kernel
theorem d_FL_leave_180 : decode b_FL_leave 180 = .ok (.iload_n 2, 1) := by decide +kernel
theorem d_FL_leave_181 : decode b_FL_leave 181 = .ok (.aload_n 1, 1) := by decide +kernel
theorem d_FL_leave_182 : decode b_FL_leave 182 = .ok (.iload_n 2, 1) := by decide +kernel
theorem d_FL_leave_183 : decode b_FL_leave 183 = .ok (.invokevirtual 83, 3) := by decide +kernel
theorem d_FL_leave_186 : decode b_FL_leave 186 = .ok (.iadd, 1) := by decide +kernel
theorem d_FL_leave_187 : decode b_FL_leave 187 = .ok (.iload 9, 2) := by decide +kernel
theorem d_FL_leave_189 : decode b_FL_leave 189 = .ok (.iload 11, 2) := by decide +kernel
theorem d_FL_leave_191 : decode b_FL_leave 191 = .ok (.invokevirtual 32, 3) := by decide +kernel
theorem d_FL_leave_194 : decode b_FL_leave 194 = .ok (.iconst 0, 1) := by decide +kernel
theorem d_FL_leave_195 : decode b_FL_leave 195 = .ok (.istore 12, 2) := by decide +kernel
theorem d_FL_leave_197 : decode b_FL_leave 197 = .ok (.iload 12, 2) := by decide +kernel
theorem d_FL_leave_199 : decode b_FL_leave 199 = .ok (.aload_n 1, 1) := by decide +kernel
theorem d_FL_leave_200 : decode b_FL_leave 200 = .ok (.getfield 86, 3) := by decide +kernel
theorem d_FL_leave_203 : decode b_FL_leave 203 = .ok (.if_icmp .ge 34, 3) := by decide +kernel
theorem d_FL_leave_206 : decode b_FL_leave 206 = .ok (.aload_n 1, 1) := by decide +kernel
theorem d_FL_leave_207 : decode b_FL_leave 207 = .ok (.iload 12, 2) := by decide +kernel
theorem d_FL_leave_209 : decode b_FL_leave 209 = .ok (.iload_n 2, 1) := by decide +kernel
theorem d_FL_leave_210 : decode b_FL_leave 210 = .ok (.invokevirtual 89, 3) := by decide +kernel
theorem d_FL_leave_213 : decode b_FL_leave 213 = .ok (.ifCond .eq 18, 3) := by decide +kernel
theorem d_FL_leave_216 : decode b_FL_leave 216 = .ok (.aload_n 0, 1) := by decide +kernel
theorem d_FL_leave_217 : decode b_FL_leave 217 = .ok (.aload_n 1, 1) := by decide +kernel
theorem d_FL_leave_218 : decode b_FL_leave 218 = .ok (.aload_n 1, 1) := by decide +kernel
theorem d_FL_leave_219 : decode b_FL_leave 219 = .ok (.iload 12, 2) := by decide +kernel
theorem d_FL_leave_221 : decode b_FL_leave 221 = .ok (.iconst 2, 1) := by decide +kernel
theorem d_FL_leave_222 : decode b_FL_leave 222 = .ok (.invokevirtual 93, 3) := by decide +kernel
theorem d_FL_leave_225 : decode b_FL_leave 225 = .ok (.iconst 1, 1) := by decide +kernel
theorem d_FL_leave_226 : decode b_FL_leave 226 = .ok (.iload 6, 2) := by decide +kernel
theorem d_FL_leave_228 : decode b_FL_leave 228 = .ok (.invokevirtual 32, 3) := by decide +kernel
theorem d_FL_leave_231 : decode b_FL_leave 231 = .ok (.iinc 12 1, 3) := by decide +kernel
theorem d_FL_leave_234 : decode b_FL_leave 234 = .ok (.goto (-37), 3) := by decide +kernel
theorem d_FL_leave_237 : decode b_FL_leave 237 = .ok (.return_, 1) := by decide +kernel
theorem d_FL_explore_0 : decode b_FL_explore 0 = .ok (.aload_n 1, 1) := by decide +kernel
theorem d_FL_explore_1 : decode b_FL_explore 1 = .ok (.invokevirtual 15, 3) := by decide +kernel
theorem d_FL_explore_4 : decode b_FL_explore 4 = .ok (.pop, 1) := by decide +kernel
theorem d_FL_explore_5 : decode b_FL_explore 5 = .ok (.aload_n 0, 1) := by decide +kernel
theorem d_FL_explore_6 : decode b_FL_explore 6 = .ok (.iconst 0, 1) := by decide +kernel
theorem d_FL_explore_7 : decode b_FL_explore 7 = .ok (.putfield 21, 3) := by decide +kernel
theorem d_FL_explore_10 : decode b_FL_explore 10 = .ok (.aload_n 0, 1) := by decide +kernel
theorem d_FL_explore_11 : decode b_FL_explore 11 = .ok (.iconst 1, 1) := by decide +kernel
theorem d_FL_explore_12 : decode b_FL_explore 12 = .ok (.putfield 25, 3) := by decide +kernel
theorem d_FL_explore_15 : decode b_FL_explore 15 = .ok (.aload_n 0, 1) := by decide +kernel
theorem d_FL_explore_16 : decode b_FL_explore 16 = .ok (.aload_n 1, 1) := by decide +kernel
theorem d_FL_explore_17 : decode b_FL_explore 17 = .ok (.iconst 0, 1) := by decide +kernel
theorem d_FL_explore_18 : decode b_FL_explore 18 = .ok (.iconst 0, 1) := by decide +kernel
theorem d_FL_explore_19 : decode b_FL_explore 19 = .ok (.iconst 1, 1) := by decide +kernel
theorem d_FL_explore_20 : decode b_FL_explore 20 = .ok (.aload_n 1, 1) := by decide +kernel
theorem d_FL_explore_21 : decode b_FL_explore 21 = .ok (.getfield 28, 3) := by decide +kernel
theorem d_FL_explore_24 : decode b_FL_explore 24 = .ok (.ishl, 1) := by decide +kernel
theorem d_FL_explore_25 : decode b_FL_explore 25 = .ok (.iconst 1, 1) := by decide +kernel
theorem d_FL_explore_26 : decode b_FL_explore 26 = .ok (.isub, 1) := by decide +kernel
theorem d_FL_explore_27 : decode b_FL_explore 27 = .ok (.invokevirtual 32, 3) := by decide +kernel
theorem d_FL_explore_30 : decode b_FL_explore 30 = .ok (.iconst 0, 1) := by decide +kernel
theorem d_FL_explore_31 : decode b_FL_explore 31 = .ok (.istore_n 3, 1) := by decide +kernel
theorem d_FL_explore_32 : decode b_FL_explore 32 = .ok (.iload_n 3, 1) := by decide +kernel
theorem d_FL_explore_33 : decode b_FL_explore 33 = .ok (.sipush 841, 3) := by decide +kernel
theorem d_FL_explore_36 : decode b_FL_explore 36 = .ok (.if_icmp .ge 70, 3) := by decide +kernel
theorem d_FL_explore_39 : decode b_FL_explore 39 = .ok (.aload_n 0, 1) := by decide +kernel
theorem d_FL_explore_40 : decode b_FL_explore 40 = .ok (.getfield 21, 3) := by decide +kernel
theorem d_FL_explore_43 : decode b_FL_explore 43 = .ok (.ifCond .eq 63, 3) := by decide +kernel
theorem d_FL_explore_46 : decode b_FL_explore 46 = .ok (.aload_n 0, 1) := by decide +kernel
theorem d_FL_explore_47 : decode b_FL_explore 47 = .ok (.getfield 25, 3) := by decide +kernel
theorem d_FL_explore_50 : decode b_FL_explore 50 = .ok (.ifCond .eq 56, 3) := by decide +kernel
theorem d_FL_explore_53 : decode b_FL_explore 53 = .ok (.aload_n 0, 1) := by decide +kernel
theorem d_FL_explore_54 : decode b_FL_explore 54 = .ok (.iconst 0, 1) := by decide +kernel
theorem d_FL_explore_55 : decode b_FL_explore 55 = .ok (.putfield 21, 3) := by decide +kernel
theorem d_FL_explore_58 : decode b_FL_explore 58 = .ok (.iconst 0, 1) := by decide +kernel
theorem d_FL_explore_59 : decode b_FL_explore 59 = .ok (.istore 4, 2) := by decide +kernel
theorem d_FL_explore_61 : decode b_FL_explore 61 = .ok (.iload 4, 2) := by decide +kernel
theorem d_FL_explore_63 : decode b_FL_explore 63 = .ok (.aload_n 1, 1) := by decide +kernel
theorem d_FL_explore_64 : decode b_FL_explore 64 = .ok (.getfield 36, 3) := by decide +kernel
theorem d_FL_explore_67 : decode b_FL_explore 67 = .ok (.if_icmp .ge 33, 3) := by decide +kernel
theorem d_FL_explore_70 : decode b_FL_explore 70 = .ok (.aload_n 0, 1) := by decide +kernel
theorem d_FL_explore_71 : decode b_FL_explore 71 = .ok (.getfield 25, 3) := by decide +kernel
theorem d_FL_explore_74 : decode b_FL_explore 74 = .ok (.ifCond .eq 26, 3) := by decide +kernel
theorem d_FL_explore_77 : decode b_FL_explore 77 = .ok (.aload_n 1, 1) := by decide +kernel
theorem d_FL_explore_78 : decode b_FL_explore 78 = .ok (.iload 4, 2) := by decide +kernel
theorem d_FL_explore_80 : decode b_FL_explore 80 = .ok (.invokevirtual 39, 3) := by decide +kernel
theorem d_FL_explore_83 : decode b_FL_explore 83 = .ok (.ifCond .eq 11, 3) := by decide +kernel
theorem d_FL_explore_86 : decode b_FL_explore 86 = .ok (.aload_n 0, 1) := by decide +kernel
theorem d_FL_explore_87 : decode b_FL_explore 87 = .ok (.aload_n 1, 1) := by decide +kernel
theorem d_FL_explore_88 : decode b_FL_explore 88 = .ok (.iload 4, 2) := by decide +kernel
theorem d_FL_explore_90 : decode b_FL_explore 90 = .ok (.aload_n 2, 1) := by decide +kernel
theorem d_FL_explore_91 : decode b_FL_explore 91 = .ok (.invokevirtual 43, 3) := by decide +kernel
theorem d_FL_explore_94 : decode b_FL_explore 94 = .ok (.iinc 4 1, 3) := by decide +kernel
theorem d_FL_explore_97 : decode b_FL_explore 97 = .ok (.goto (-36), 3) := by decide +kernel
theorem d_FL_explore_100 : decode b_FL_explore 100 = .ok (.iinc 3 1, 3) := by decide +kernel
theorem d_FL_explore_103 : decode b_FL_explore 103 = .ok (.goto (-71), 3) := by decide +kernel
theorem d_FL_explore_106 : decode b_FL_explore 106 = .ok (.aload_n 1, 1) := by decide +kernel
theorem d_FL_explore_107 : decode b_FL_explore 107 = .ok (.iconst 0, 1) := by decide +kernel
theorem d_FL_explore_108 : decode b_FL_explore 108 = .ok (.putfield 47, 3) := by decide +kernel
theorem d_FL_explore_111 : decode b_FL_explore 111 = .ok (.iconst 0, 1) := by decide +kernel
theorem d_FL_explore_112 : decode b_FL_explore 112 = .ok (.istore_n 3, 1) := by decide +kernel
theorem d_FL_explore_113 : decode b_FL_explore 113 = .ok (.iload_n 3, 1) := by decide +kernel
theorem d_FL_explore_114 : decode b_FL_explore 114 = .ok (.aload_n 1, 1) := by decide +kernel
theorem d_FL_explore_115 : decode b_FL_explore 115 = .ok (.getfield 36, 3) := by decide +kernel
theorem d_FL_explore_118 : decode b_FL_explore 118 = .ok (.if_icmp .ge 26, 3) := by decide +kernel
theorem d_FL_explore_121 : decode b_FL_explore 121 = .ok (.aload_n 1, 1) := by decide +kernel
theorem d_FL_explore_122 : decode b_FL_explore 122 = .ok (.aload_n 1, 1) := by decide +kernel
theorem d_FL_explore_123 : decode b_FL_explore 123 = .ok (.getfield 47, 3) := by decide +kernel
theorem d_FL_explore_126 : decode b_FL_explore 126 = .ok (.aload_n 1, 1) := by decide +kernel
theorem d_FL_explore_127 : decode b_FL_explore 127 = .ok (.getfield 50, 3) := by decide +kernel
theorem d_FL_explore_130 : decode b_FL_explore 130 = .ok (.iload_n 3, 1) := by decide +kernel
theorem d_FL_explore_131 : decode b_FL_explore 131 = .ok (.iaload, 1) := by decide +kernel
theorem d_FL_explore_132 : decode b_FL_explore 132 = .ok (.invokestatic 53, 3) := by decide +kernel
theorem d_FL_explore_135 : decode b_FL_explore 135 = .ok (.putfield 47, 3) := by decide +kernel
theorem d_FL_explore_138 : decode b_FL_explore 138 = .ok (.iinc 3 1, 3) := by decide +kernel
theorem d_FL_explore_141 : decode b_FL_explore 141 = .ok (.goto (-28), 3) := by decide +kernel
theorem d_FL_explore_144 : decode b_FL_explore 144 = .ok (.aload_n 0, 1) := by decide +kernel
theorem d_FL_explore_145 : decode b_FL_explore 145 = .ok (.getfield 25, 3) := by decide +kernel
theorem d_FL_explore_148 : decode b_FL_explore 148 = .ok (.ireturn, 1) := by decide +kernel
def f_FL_arrive (fu : Nat) (s0 : xw_S) (b1 : Nat) (p2 : Int) (p3 : Int) (p4 : Int) : Option xw_S :=
 xw_bn2 (f_B_begins fu s0 b1 p2) (fun s1 r3 => xw_grd (xw_r r3) (xw_if (r3 = 0) (xw_let (xw_st s1 8 2 0) (fun s31 => some s31))
 (xw_bn2 (f_B_isReached fu s1 b1 p2) (fun s6 r8 => xw_grd (xw_r r8) (xw_if (r8 = 0) (xw_grd ((0 ≤ p2 ∧ p2 < ((xb_cap b1 : Nat) : Int))) (xw_let (xw_st s6 (50 + 4 * b1) (p2).toNat p3) (fun s24 => xw_grd ((0 ≤ p2 ∧ p2 < ((120 : Nat) : Int))) (xw_let (xw_st s24 9 (p2).toNat p4) (fun s27 => xw_let (xw_st s27 8 1 1) (fun s29 => some s29))))))
 (xw_grd ((0 ≤ p2 ∧ p2 < ((xb_cap b1 : Nat) : Int))) (xw_grd (xw_r (s6.1 (50 + 4 * b1) (p2).toNat) ∧ xw_r p3) (xw_if (s6.1 (50 + 4 * b1) (p2).toNat = p3) (xw_grd ((0 ≤ p2 ∧ p2 < ((120 : Nat) : Int))) (xw_grd (xw_r (xw_an (s6.1 9 (p2).toNat) p4) ∧ xw_r (s6.1 9 (p2).toNat)) (xw_if (xw_an (s6.1 9 (p2).toNat) p4 = s6.1 9 (p2).toNat) (some s6)
 (xw_let (xw_st s6 9 (p2).toNat (xw_an (s6.1 9 (p2).toNat) p4)) (fun s17 => xw_let (xw_st s17 8 1 1) (fun s19 => some s19))))))
 (xw_let (xw_st s6 8 2 0) (fun s21 => some s21))))))))))
set_option maxRecDepth 100000 in
set_option maxHeartbeats 4000000 in
theorem c_FL_arrive (l : Launch) (D : va_G) (A : Nat → Prop) (ad : Nat → Nat) (cs : Nat → ClassId) (Z : va_W) (tt : Nat → Nat) (fu : Nat) (s0 sZ : xw_S) (b1 : Nat) (hb_b1 : b1 < 13) (p2 : Int) (p3 : Int) (p4 : Int) (h : f_FL_arrive fu s0 b1 p2 p3 p4 = some sZ) : Met l y_FL_arrive w_FL_arrive ({ frames := 1, cells := 0, slots := 0, locals := 21 }) (va_Pc [.ref (ad 8), .ref (ad (48 + 4 * b1)), .int (xw_i p2), .int (xw_i p3), .int (xw_i p4)] (xw_H D vwCl A kdC 100 ad cs Z tt s0)) (va_Qv (fun u => u = sZ) (xw_H D vwCl A kdC 100 ad cs Z tt) A) 0 0 A := by
  refine Met.ofW (cc := b_FL_arrive) (maxL := 5) (ret := none) (by decide) rfl ?_
  intro p e s m args below meth c s₁ B hml hv
  obtain ⟨rfl, hP, hK, hD, hX⟩ := hv
  have hx := B.exec
  have hb := B.bytes
  have hr := B.returns
  have hts0 := atoms_spec (ws := w_FL_arrive) B.pre
  have hts := fun w (hw : w ∈ wAll) => hts0 w (List.mem_cons_of_mem _ hw)
  have hown : s.vm.findClass "AdviceWeaver$Flow" = some m.cls := findClass_of_methodNamed B.named
  have hlk := B.notSynchronized
  clear hts0 B
  have hS : va_S A s.heap s.heap [] := va_S.rf
  have hl := lv_entry [.ref (ad 8), .ref (ad (48 + 4 * b1)), .int (xw_i p2), .int (xw_i p3), .int (xw_i p4)] (n := 5) (Nat.le_of_ble_eq_true rfl)
  rw [lg_entry_eq]
  generalize (lg_sl [.ref (ad 8), .ref (ad (48 + 4 * b1)), .int (xw_i p2), .int (xw_i p3), .int (xw_i p4)] ++ List.replicate (5 - (lg_sl [.ref (ad 8), .ref (ad (48 + 4 * b1)), .int (xw_i p2), .int (xw_i p3), .int (xw_i p4)]).length) Slot.unset).toArray = ls at hl ⊢
  have hl : lv_has ls 5 [(0, .ref (ad 8)), (1, .ref (ad (48 + 4 * b1))), (2, .int (xw_i p2)), (3, .int (xw_i p3)), (4, .int (xw_i p4))] := hl
  unfold f_FL_arrive at h
  refine lv_aload_n hx hb d_FL_arrive_0 rfl (lv_at hl 1 rfl) ?_
  refine lv_iload_n hx hb d_FL_arrive_1 rfl (lv_at hl 2 rfl) ?_
  obtain ⟨s1, r3, hc2, h⟩ := xw_bn2I h
  refine xw_callVi (C := "AdviceWeaver$Body") (T := T_B) ⟨hx, hb, hml, hown, hts⟩ (c_B_begins l D A ad cs Z tt fu s0 s1 b1 (by omega) p2 r3 hc2) (cwV 1 hts (gd_V hw_94 hw_76 hw_77 hw_25 hw_78) rfl rfl rfl (by decide +kernel) ⟨Nat.le_of_ble_eq_true rfl, Nat.le_of_ble_eq_true rfl⟩) hP hK hD hX hS (by omega) (kc_Body b1 (by omega)) (by decide) rfl rfl hl.1 rfl (Nat.le_of_ble_eq_true rfl) d_FL_arrive_2 (fun H locs hP hS => ?_)
  obtain ⟨hg4, h⟩ := xw_grdI h
  refine xw_if_ne (tgt := 16) hx hb hg4 d_FL_arrive_5 (by decide) (fun hc5 => ?_) (fun hc5 => ?_)
  · replace h := xw_ifF hc5 h
    refine lv_aload_n hx hb d_FL_arrive_16 rfl (lv_at hl 1 rfl) ?_
    refine lv_iload_n hx hb d_FL_arrive_17 rfl (lv_at hl 2 rfl) ?_
    obtain ⟨s6, r8, hc7, h⟩ := xw_bn2I h
    refine xw_callVi (C := "AdviceWeaver$Body") (T := T_B) ⟨hx, hb, hml, hown, hts⟩ (c_B_isReached l D A ad cs Z tt fu s1 s6 b1 (by omega) p2 r8 hc7) (cwV 1 hts (gd_V hw_95 hw_96 hw_97 hw_25 hw_98) rfl rfl rfl (by decide +kernel) ⟨Nat.le_of_ble_eq_true rfl, Nat.le_of_ble_eq_true rfl⟩) hP hK hD hX hS (by omega) (kc_Body b1 (by omega)) (by decide) rfl rfl hl.1 rfl (Nat.le_of_ble_eq_true rfl) d_FL_arrive_18 (fun H locs hP hS => ?_)
    obtain ⟨hg9, h⟩ := xw_grdI h
    refine xw_if_ne (tgt := 47) hx hb hg9 d_FL_arrive_21 (by decide) (fun hc10 => ?_) (fun hc10 => ?_)
    · replace h := xw_ifF hc10 h
      refine lv_aload_n hx hb d_FL_arrive_47 rfl (lv_at hl 1 rfl) ?_
      refine xw_getR (C := "AdviceWeaver$Body") (T := T_B) hx hb hts hin_B hown hK hP (by omega) (kc_Body b1 (by omega)) (by decide) rfl 1 (by decide) (hts _ hw_99) (fun _ h9 => h9) rfl d_FL_arrive_48 ?_
      refine lv_iload_n hx hb d_FL_arrive_51 rfl (lv_at hl 2 rfl) ?_
      obtain ⟨hg11, h⟩ := xw_grdI h
      refine xw_iald hx hb hK hP (by omega) (kc_bdepths b1 (by omega)) (xb_capL _) hg11 d_FL_arrive_52 ?_
      refine lv_iload_n hx hb d_FL_arrive_53 rfl (lv_at hl 3 rfl) ?_
      obtain ⟨hg12, h⟩ := xw_grdI h
      refine xw_icmp_eq (tgt := 65) hx hb hg12.1 hg12.2 d_FL_arrive_54 (by decide) (fun hc13 => ?_) (fun hc13 => ?_)
      · replace h := xw_ifT hc13 h
        refine lv_aload_n hx hb d_FL_arrive_65 rfl (lv_at hl 0 rfl) ?_
        refine xw_getR (C := "AdviceWeaver$Flow") (T := T_FL) hx hb hts hin_FL hown hK hP (by decide) kc_Flow (by decide) rfl 0 (by decide) (hts _ hw_100) (fun _ h9 => h9) rfl d_FL_arrive_66 ?_
        refine lv_iload_n hx hb d_FL_arrive_69 rfl (lv_at hl 2 rfl) ?_
        obtain ⟨hg14, h⟩ := xw_grdI h
        refine xw_iald hx hb hK hP (by decide) kc_sets (by decide) hg14 d_FL_arrive_70 ?_
        refine lv_iload hx hb d_FL_arrive_71 (lv_at hl 4 rfl) ?_
        refine xw_iand hx hb d_FL_arrive_73 ?_
        refine lv_aload_n hx hb d_FL_arrive_74 rfl (lv_at hl 0 rfl) ?_
        refine xw_getR (C := "AdviceWeaver$Flow") (T := T_FL) hx hb hts hin_FL hown hK hP (by decide) kc_Flow (by decide) rfl 0 (by decide) (hts _ hw_100) (fun _ h9 => h9) rfl d_FL_arrive_75 ?_
        refine lv_iload_n hx hb d_FL_arrive_78 rfl (lv_at hl 2 rfl) ?_
        refine xw_iald hx hb hK hP (by decide) kc_sets (by decide) hg14 d_FL_arrive_79 ?_
        obtain ⟨hg15, h⟩ := xw_grdI h
        refine xw_icmp_eq (tgt := 99) hx hb hg15.1 hg15.2 d_FL_arrive_80 (by decide) (fun hc16 => ?_) (fun hc16 => ?_)
        · replace h := xw_ifT hc16 h
          exact xw_vretE hx hb hr hlk hP hK hD hX hS h d_FL_arrive_99
        · replace h := xw_ifF hc16 h
          refine lv_aload_n hx hb d_FL_arrive_83 rfl (lv_at hl 0 rfl) ?_
          refine xw_getR (C := "AdviceWeaver$Flow") (T := T_FL) hx hb hts hin_FL hown hK hP (by decide) kc_Flow (by decide) rfl 0 (by decide) (hts _ hw_100) (fun _ h9 => h9) rfl d_FL_arrive_84 ?_
          refine lv_iload_n hx hb d_FL_arrive_87 rfl (lv_at hl 2 rfl) ?_
          refine lv_dup2_11 hx hb d_FL_arrive_88 rfl rfl ?_
          refine xw_iald hx hb hK hP (by decide) kc_sets (by decide) hg14 d_FL_arrive_89 ?_
          refine lv_iload hx hb d_FL_arrive_90 (lv_at hl 4 rfl) ?_
          refine xw_iand hx hb d_FL_arrive_92 ?_
          refine xw_iast hx hb hK hP hD hS (by decide) kc_sets (by decide) hg14 d_FL_arrive_93 (fun s17 e18 H locs hP hS => ?_)
          replace h := xw_letI e18 h
          refine lv_aload_n hx hb d_FL_arrive_94 rfl (lv_at hl 0 rfl) ?_
          refine lv_iconst (v := xw_i 1) hx hb d_FL_arrive_95 rfl ?_
          refine xw_putB (C := "AdviceWeaver$Flow") (T := T_FL) hx hb hts hin_FL ty_FL ty_FL_ok nm_FL hown hK hP hD hS (by decide) kc_Flow (by decide) rfl 1 (by decide) (hts _ hw_101) (fun _ h9 => h9) rfl (by decide +kernel) rfl d_FL_arrive_96 (by decide) (fun s19 e20 H locs hP hS => ?_)
          replace h := xw_letI e20 h
          exact xw_vretE hx hb hr hlk hP hK hD hX hS h d_FL_arrive_99
      · replace h := xw_ifF hc13 h
        refine lv_aload_n hx hb d_FL_arrive_57 rfl (lv_at hl 0 rfl) ?_
        refine lv_iconst (v := xw_i 0) hx hb d_FL_arrive_58 rfl ?_
        refine xw_putB (C := "AdviceWeaver$Flow") (T := T_FL) hx hb hts hin_FL ty_FL ty_FL_ok nm_FL hown hK hP hD hS (by decide) kc_Flow (by decide) rfl 2 (by decide) (hts _ hw_102) (fun _ h9 => h9) rfl (by decide +kernel) rfl d_FL_arrive_59 (by decide) (fun s21 e22 H locs hP hS => ?_)
        replace h := xw_letI e22 h
        refine lv_goto (tgt := 99) hx hb d_FL_arrive_62 (by decide) ?_
        exact xw_vretE hx hb hr hlk hP hK hD hX hS h d_FL_arrive_99
    · replace h := xw_ifT hc10 h
      refine lv_aload_n hx hb d_FL_arrive_24 rfl (lv_at hl 1 rfl) ?_
      refine xw_getR (C := "AdviceWeaver$Body") (T := T_B) hx hb hts hin_B hown hK hP (by omega) (kc_Body b1 (by omega)) (by decide) rfl 1 (by decide) (hts _ hw_99) (fun _ h9 => h9) rfl d_FL_arrive_25 ?_
      refine lv_iload_n hx hb d_FL_arrive_28 rfl (lv_at hl 2 rfl) ?_
      refine lv_iload_n hx hb d_FL_arrive_29 rfl (lv_at hl 3 rfl) ?_
      obtain ⟨hg23, h⟩ := xw_grdI h
      refine xw_iast hx hb hK hP hD hS (by omega) (kc_bdepths b1 (by omega)) (xb_capL _) hg23 d_FL_arrive_30 (fun s24 e25 H locs hP hS => ?_)
      replace h := xw_letI e25 h
      refine lv_aload_n hx hb d_FL_arrive_31 rfl (lv_at hl 0 rfl) ?_
      refine xw_getR (C := "AdviceWeaver$Flow") (T := T_FL) hx hb hts hin_FL hown hK hP (by decide) kc_Flow (by decide) rfl 0 (by decide) (hts _ hw_100) (fun _ h9 => h9) rfl d_FL_arrive_32 ?_
      refine lv_iload_n hx hb d_FL_arrive_35 rfl (lv_at hl 2 rfl) ?_
      refine lv_iload hx hb d_FL_arrive_36 (lv_at hl 4 rfl) ?_
      obtain ⟨hg26, h⟩ := xw_grdI h
      refine xw_iast hx hb hK hP hD hS (by decide) kc_sets (by decide) hg26 d_FL_arrive_38 (fun s27 e28 H locs hP hS => ?_)
      replace h := xw_letI e28 h
      refine lv_aload_n hx hb d_FL_arrive_39 rfl (lv_at hl 0 rfl) ?_
      refine lv_iconst (v := xw_i 1) hx hb d_FL_arrive_40 rfl ?_
      refine xw_putB (C := "AdviceWeaver$Flow") (T := T_FL) hx hb hts hin_FL ty_FL ty_FL_ok nm_FL hown hK hP hD hS (by decide) kc_Flow (by decide) rfl 1 (by decide) (hts _ hw_101) (fun _ h9 => h9) rfl (by decide +kernel) rfl d_FL_arrive_41 (by decide) (fun s29 e30 H locs hP hS => ?_)
      replace h := xw_letI e30 h
      refine lv_goto (tgt := 99) hx hb d_FL_arrive_44 (by decide) ?_
      exact xw_vretE hx hb hr hlk hP hK hD hX hS h d_FL_arrive_99
  · replace h := xw_ifT hc5 h
    refine lv_aload_n hx hb d_FL_arrive_8 rfl (lv_at hl 0 rfl) ?_
    refine lv_iconst (v := xw_i 0) hx hb d_FL_arrive_9 rfl ?_
    refine xw_putB (C := "AdviceWeaver$Flow") (T := T_FL) hx hb hts hin_FL ty_FL ty_FL_ok nm_FL hown hK hP hD hS (by decide) kc_Flow (by decide) rfl 2 (by decide) (hts _ hw_102) (fun _ h9 => h9) rfl (by decide +kernel) rfl d_FL_arrive_10 (by decide) (fun s31 e32 H locs hP hS => ?_)
    replace h := xw_letI e32 h
    refine lv_goto (tgt := 99) hx hb d_FL_arrive_13 (by decide) ?_
    exact xw_vretE hx hb hr hlk hP hK hD hX hS h d_FL_arrive_99
def lp_FL_leave_197 (fu : Nat) (b1 : Nat) (a3 : Nat) (c2_197 : Int) (c6_197 : Int) (k237 : xw_S → Option xw_S) : Nat → xw_S → Int → Option xw_S
  | 0, _, _ => none
  | n + 1, s66, i12_197 =>
    xw_grd (xw_r i12_197 ∧ xw_r (s66.1 (48 + 4 * b1) 9)) (xw_if (s66.1 (48 + 4 * b1) 9 ≤ i12_197) (k237 s66)
     (xw_bn2 (f_B_covers fu s66 b1 i12_197 c2_197) (fun s69 r71 => xw_jn (fun (s80 : xw_S) (i12_231 : Int) => xw_let (i12_231 + 1) (fun v81 => lp_FL_leave_197 fu b1 a3 c2_197 c6_197 k237 n s80 v81))
     (fun (j231 : xw_S → Int → Option xw_S) => xw_grd (xw_r r71) (xw_if (r71 = 0) (j231 s69 i12_197)
     (xw_bn2 (f_B_part fu s69 b1 i12_197 2) (fun s74 r76 => xw_bnd (f_FL_arrive fu s74 b1 r76 1 c6_197) (fun s77 => j231 s77 i12_197))))))))
def f_FL_leave (fu : Nat) (s0 : xw_S) (b1 : Nat) (p2 : Int) (a3 : Nat) : Option xw_S :=
 xw_bn2 (f_B_byteAt fu s0 b1 p2) (fun s1 r3 => xw_bn2 (f_B_byteAt fu s1 b1 (p2 + 1)) (fun s4 r6 => xw_grd ((0 ≤ p2 ∧ p2 < ((120 : Nat) : Int))) (xw_let (s4.1 9 (p2).toNat) (fun v8 => xw_jn (fun (s16 : xw_S) (i4_46 : Int) (i5_46 : Int) (i6_46 : Int) (t0_46 : Int) => xw_grd ((0 ≤ p2 ∧ p2 < ((xb_cap b1 : Nat) : Int))) (xw_let (s16.1 (50 + 4 * b1) (p2).toNat) (fun v18 => xw_bn2 (f_OP_puts fu s16 i4_46) (fun s20 r22 => xw_let ((v18 - t0_46) + r22) (fun v23 => xw_jn (fun (s32 : xw_S) (i4_97 : Int) (i5_97 : Int) (i6_97 : Int) (i7_97 : Int) (i8_97 : Int) (i9_97 : Int) (t0_97 : Int) => xw_jn (fun (s84 : xw_S) => xw_let (xw_st s84 8 2 0) (fun s85 => some s85))
 (fun (j120 : xw_S → Option xw_S) => xw_grd (xw_r i8_97 ∧ xw_r i7_97) (xw_if (i8_97 < i7_97) (j120 s32)
 (xw_grd (xw_r i9_97 ∧ xw_r (s32.1 (48 + 4 * b1) 7)) (xw_if (s32.1 (48 + 4 * b1) 7 < i9_97) (j120 s32)
 (xw_grd (xw_r t0_97) (xw_if (t0_97 = 0) (xw_jn (fun (s41 : xw_S) (i4_144 : Int) (i6_144 : Int) (i9_144 : Int) (t0_144 : Int) => xw_bn2 (f_OP_goesOn fu s41 i4_144) (fun s42 r44 => xw_jn (fun (s53 : xw_S) (i4_170 : Int) (i6_170 : Int) (i9_170 : Int) (i11_170 : Int) => xw_bn2 (f_OP_isBranch fu s53 i4_170) (fun s54 r56 => xw_jn (fun (s65 : xw_S) (i6_194 : Int) => xw_jn (fun (s83 : xw_S) => some s83)
 (fun (k237 : xw_S → Option xw_S) => lp_FL_leave_197 fu b1 a3 p2 i6_194 k237 fu s65 0))
 (fun (j194 : xw_S → Int → Option xw_S) => xw_grd (xw_r r56) (xw_if (r56 = 0) (j194 s54 i6_170)
 (xw_bn2 (f_B_wayAt fu s54 b1 p2) (fun s59 r61 => xw_bnd (f_FL_arrive fu s59 b1 (p2 + r61) i9_170 i11_170) (fun s62 => j194 s62 i6_170)))))))
 (fun (j170 : xw_S → Int → Int → Int → Int → Option xw_S) => xw_grd (xw_r r44) (xw_if (r44 = 0) (j170 s42 i4_144 i6_144 i9_144 t0_144)
 (xw_bn2 (f_OP_size fu s42 i4_144) (fun s47 r49 => xw_bnd (f_FL_arrive fu s47 b1 (p2 + r49) i9_144 t0_144) (fun s50 => j170 s50 i4_144 i6_144 i9_144 t0_144)))))))
 (fun (j144 : xw_S → Int → Int → Int → Int → Option xw_S) => xw_grd (xw_r i4_97) (xw_if (i4_97 = 3) (j144 s32 i4_97 i6_97 i9_97 (xw_or i6_97 (xw_hl 1 i5_97)))
 (j144 s32 i4_97 i6_97 i9_97 i6_97))))
 (j120 s32))))))))
 (fun (j97 : xw_S → Int → Int → Int → Int → Int → Int → Int → Option xw_S) => xw_jn (fun (s31 : xw_S) (i4_96 : Int) (i5_96 : Int) (i6_96 : Int) (i7_96 : Int) (i8_96 : Int) (i9_96 : Int) => j97 s31 i4_96 i5_96 i6_96 i7_96 i8_96 i9_96 0)
 (fun (j96 : xw_S → Int → Int → Int → Int → Int → Int → Option xw_S) => xw_jn (fun (s28 : xw_S) (i4_82 : Int) (i5_82 : Int) (i6_82 : Int) (i7_82 : Int) (i8_82 : Int) (i9_82 : Int) => xw_grd (xw_r (xw_an (xw_hr i6_82 i5_82) 1)) (xw_if (xw_an (xw_hr i6_82 i5_82) 1 = 0) (j97 s28 i4_82 i5_82 i6_82 i7_82 i8_82 i9_82 1)
 (j96 s28 i4_82 i5_82 i6_82 i7_82 i8_82 i9_82)))
 (fun (j82 : xw_S → Int → Int → Int → Int → Int → Int → Option xw_S) => xw_grd (xw_r i4_46) (xw_if (i4_46 = 2) (j82 s20 i4_46 i5_46 i6_46 t0_46 v18 v23)
 (xw_if (i4_46 = 16) (j82 s20 i4_46 i5_46 i6_46 t0_46 v18 v23)
 (j96 s20 i4_46 i5_46 i6_46 t0_46 v18 v23)))))))))))
 (fun (j46 : xw_S → Int → Int → Int → Int → Option xw_S) => xw_grd (xw_r r3) (xw_if (r3 = 13) (xw_grd ((0 ≤ r6 ∧ r6 < ((4 : Nat) : Int))) (j46 s4 r3 r6 v8 (s4.1 (48 + 4 * (4 * a3 + (r6).toNat)) 5)))
 (xw_bn2 (f_OP_takes fu s4 r3) (fun s12 r14 => j46 s12 r3 r6 v8 r14))))))))
set_option maxRecDepth 100000 in
set_option maxHeartbeats 4000000 in
theorem c_FL_leave (l : Launch) (D : va_G) (A : Nat → Prop) (ad : Nat → Nat) (cs : Nat → ClassId) (Z : va_W) (tt : Nat → Nat) (fu : Nat) (s0 sZ : xw_S) (b1 : Nat) (hb_b1 : b1 < 13) (p2 : Int) (a3 : Nat) (hb_a3 : a3 < 3) (h : f_FL_leave fu s0 b1 p2 a3 = some sZ) : Met l y_FL_leave w_FL_leave ({ frames := 2, cells := 0, slots := 0, locals := 45 }) (va_Pc [.ref (ad 8), .ref (ad (48 + 4 * b1)), .int (xw_i p2), .ref (ad (3 + a3))] (xw_H D vwCl A kdC 100 ad cs Z tt s0)) (va_Qv (fun u => u = sZ) (xw_H D vwCl A kdC 100 ad cs Z tt) A) 0 0 A := by
  refine Met.ofW (cc := b_FL_leave) (maxL := 13) (ret := none) (by decide) rfl ?_
  intro p e s m args below meth c s₁ B hml hv
  obtain ⟨rfl, hP, hK, hD, hX⟩ := hv
  have hx := B.exec
  have hb := B.bytes
  have hr := B.returns
  have hts0 := atoms_spec (ws := w_FL_leave) B.pre
  have hts := fun w (hw : w ∈ wAll) => hts0 w (List.mem_cons_of_mem _ hw)
  have hown : s.vm.findClass "AdviceWeaver$Flow" = some m.cls := findClass_of_methodNamed B.named
  have hlk := B.notSynchronized
  clear hts0 B
  have hS : va_S A s.heap s.heap [] := va_S.rf
  have hl := lv_entry [.ref (ad 8), .ref (ad (48 + 4 * b1)), .int (xw_i p2), .ref (ad (3 + a3))] (n := 13) (Nat.le_of_ble_eq_true rfl)
  rw [lg_entry_eq]
  generalize (lg_sl [.ref (ad 8), .ref (ad (48 + 4 * b1)), .int (xw_i p2), .ref (ad (3 + a3))] ++ List.replicate (13 - (lg_sl [.ref (ad 8), .ref (ad (48 + 4 * b1)), .int (xw_i p2), .ref (ad (3 + a3))]).length) Slot.unset).toArray = ls at hl ⊢
  have hl : lv_has ls 13 [(0, .ref (ad 8)), (1, .ref (ad (48 + 4 * b1))), (2, .int (xw_i p2)), (3, .ref (ad (3 + a3)))] := hl
  have hlp197 : ∀ (c2_197 : Int) (c6_197 : Int) (k237 : xw_S → Option xw_S) (hk237 : ∀ (sq : xw_S), k237 sq = some sZ → ∀ (H : Heap) (locs : List Loc) (ls : Array Slot), va_P D vwCl (xw_ws kdC 100 ad cs Z sq) H → va_S A s.heap H locs → lv_has ls 13 [] → W p l e (headSpec w_FL_leave ({ frames := 2, cells := 0, slots := 0, locals := 45 })).room s m [.ref (ad 8), .ref (ad (48 + 4 * b1)), .int (xw_i p2), .ref (ad (3 + a3))].toArray below meth c H locs 0 0 (MQ below (va_Qv (fun u => u = sZ) (xw_H D vwCl A kdC 100 ad cs Z tt) A) [.ref (ad 8), .ref (ad (48 + 4 * b1)), .int (xw_i p2), .ref (ad (3 + a3))].toArray s 0 0 A) (F0 m 237 ls [])) (n : Nat), ∀ (sq : xw_S) (i12_197 : Int), lp_FL_leave_197 fu b1 a3 c2_197 c6_197 k237 n sq i12_197 = some sZ → ∀ (H : Heap) (locs : List Loc) (ls : Array Slot), va_P D vwCl (xw_ws kdC 100 ad cs Z sq) H → va_S A s.heap H locs → lv_has ls 13 [(0, .ref (ad 8)), (1, .ref (ad (48 + 4 * b1))), (2, .int (xw_i c2_197)), (6, .int (xw_i c6_197)), (12, .int (xw_i i12_197))] → W p l e (headSpec w_FL_leave ({ frames := 2, cells := 0, slots := 0, locals := 45 })).room s m [.ref (ad 8), .ref (ad (48 + 4 * b1)), .int (xw_i p2), .ref (ad (3 + a3))].toArray below meth c H locs 0 0 (MQ below (va_Qv (fun u => u = sZ) (xw_H D vwCl A kdC 100 ad cs Z tt) A) [.ref (ad 8), .ref (ad (48 + 4 * b1)), .int (xw_i p2), .ref (ad (3 + a3))].toArray s 0 0 A) (F0 m 197 ls []) := by
    intro c2_197 c6_197 k237 hk237 n
    induction n with
    | zero =>
      intro sq i12_197 h
      cases (show (none : Option xw_S) = some sZ from h)
    | succ n ih197 =>
      intro s66 i12_197 h H locs ls hP hS hl
      unfold lp_FL_leave_197 at h
      refine lv_iload hx hb d_FL_leave_197 (lv_at hl 4 rfl) ?_
      refine lv_aload_n hx hb d_FL_leave_199 rfl (lv_at hl 1 rfl) ?_
      refine xw_getI (C := "AdviceWeaver$Body") (T := T_B) hx hb hts hin_B hown hK hP (by omega) (kc_Body b1 (by omega)) (by decide) rfl 9 (by decide) (hts _ hw_125) (fun _ h9 => h9) rfl d_FL_leave_200 ?_
      obtain ⟨hg67, h⟩ := xw_grdI h
      refine xw_icmp_ge (tgt := 237) hx hb hg67.1 hg67.2 d_FL_leave_203 (by decide) (fun hc68 => ?_) (fun hc68 => ?_)
      · replace h := xw_ifT hc68 h
        exact hk237 s66 h _ _ _ hP hS (lv_sub hl [] rfl)
      · replace h := xw_ifF hc68 h
        refine lv_aload_n hx hb d_FL_leave_206 rfl (lv_at hl 1 rfl) ?_
        refine lv_iload hx hb d_FL_leave_207 (lv_at hl 4 rfl) ?_
        refine lv_iload_n hx hb d_FL_leave_209 rfl (lv_at hl 2 rfl) ?_
        obtain ⟨s69, r71, hc70, h⟩ := xw_bn2I h
        refine xw_callVi (C := "AdviceWeaver$Body") (T := T_B) ⟨hx, hb, hml, hown, hts⟩ (c_B_covers l D A ad cs Z tt fu s66 s69 b1 (by omega) i12_197 c2_197 r71 hc70) (cwV 2 hts (gd_V hw_126 hw_127 hw_128 hw_25 hw_129) rfl rfl rfl (by decide +kernel) ⟨Nat.le_of_ble_eq_true rfl, Nat.le_of_ble_eq_true rfl⟩) hP hK hD hX hS (by omega) (kc_Body b1 (by omega)) (by decide) rfl rfl hl.1 rfl (Nat.le_of_ble_eq_true rfl) d_FL_leave_210 (fun H locs hP hS => ?_)
        refine xw_jnI (fun j => ∀ (sq : xw_S) (i12_231 : Int), j sq i12_231 = some sZ → ∀ (H : Heap) (locs : List Loc) (ls : Array Slot), va_P D vwCl (xw_ws kdC 100 ad cs Z sq) H → va_S A s.heap H locs → lv_has ls 13 [(0, .ref (ad 8)), (1, .ref (ad (48 + 4 * b1))), (2, .int (xw_i c2_197)), (6, .int (xw_i c6_197)), (12, .int (xw_i i12_231))] → W p l e (headSpec w_FL_leave ({ frames := 2, cells := 0, slots := 0, locals := 45 })).room s m [.ref (ad 8), .ref (ad (48 + 4 * b1)), .int (xw_i p2), .ref (ad (3 + a3))].toArray below meth c H locs 0 0 (MQ below (va_Qv (fun u => u = sZ) (xw_H D vwCl A kdC 100 ad cs Z tt) A) [.ref (ad 8), .ref (ad (48 + 4 * b1)), .int (xw_i p2), .ref (ad (3 + a3))].toArray s 0 0 A) (F0 m 231 ls [])) h ?_ ?_
        · intro s80 i12_231 h H locs ls hP hS hl
          obtain ⟨v81, e82⟩ : ∃ z, z = i12_231 + 1 := ⟨_, rfl⟩
          replace h := xw_letI e82 h
          refine xw_iinc (lv' := [(12, .int (xw_i v81)), (0, .ref (ad 8)), (1, .ref (ad (48 + 4 * b1))), (2, .int (xw_i c2_197)), (6, .int (xw_i c6_197))]) hx hb d_FL_leave_231 hl (k := 4) rfl (by decide) (by rw [e82]; rfl) (fun ls hl => ?_)
          refine lv_goto (tgt := 197) hx hb d_FL_leave_234 (by decide) ?_
          exact ih197 s80 v81 h _ _ _ hP hS (lv_sub hl [1, 2, 3, 4, 0] rfl)
        · intro j231 hj231 h
          obtain ⟨hg72, h⟩ := xw_grdI h
          refine xw_if_eq (tgt := 231) hx hb hg72 d_FL_leave_213 (by decide) (fun hc73 => ?_) (fun hc73 => ?_)
          · replace h := xw_ifT hc73 h
            exact hj231 s69 i12_197 h _ _ _ hP hS (lv_sub hl [0, 1, 2, 3, 4] rfl)
          · replace h := xw_ifF hc73 h
            refine lv_aload_n hx hb d_FL_leave_216 rfl (lv_at hl 0 rfl) ?_
            refine lv_aload_n hx hb d_FL_leave_217 rfl (lv_at hl 1 rfl) ?_
            refine lv_aload_n hx hb d_FL_leave_218 rfl (lv_at hl 1 rfl) ?_
            refine lv_iload hx hb d_FL_leave_219 (lv_at hl 4 rfl) ?_
            refine lv_iconst (v := xw_i 2) hx hb d_FL_leave_221 rfl ?_
            obtain ⟨s74, r76, hc75, h⟩ := xw_bn2I h
            refine xw_callVi (C := "AdviceWeaver$Body") (T := T_B) ⟨hx, hb, hml, hown, hts⟩ (c_B_part l D A ad cs Z tt fu s69 s74 b1 (by omega) i12_197 2 r76 hc75) (cwV 2 hts (gd_V hw_130 hw_91 hw_92 hw_25 hw_93) rfl rfl rfl (by decide +kernel) ⟨Nat.le_of_ble_eq_true rfl, Nat.le_of_ble_eq_true rfl⟩) hP hK hD hX hS (by omega) (kc_Body b1 (by omega)) (by decide) rfl rfl hl.1 rfl (Nat.le_of_ble_eq_true rfl) d_FL_leave_222 (fun H locs hP hS => ?_)
            refine lv_iconst (v := xw_i 1) hx hb d_FL_leave_225 rfl ?_
            refine lv_iload hx hb d_FL_leave_226 (lv_at hl 3 rfl) ?_
            obtain ⟨s77, hc78, h⟩ := xw_bndI h
            refine xw_callVv (C := "AdviceWeaver$Flow") (T := T_FL) ⟨hx, hb, hml, hown, hts⟩ (c_FL_arrive l D A ad cs Z tt fu s74 s77 b1 (by omega) r76 1 c6_197 hc78) (cwV 4 hts (gd_V hw_118 hw_119 hw_120 hw_121 hw_122) rfl rfl rfl (by decide +kernel) ⟨Nat.le_of_ble_eq_true rfl, Nat.le_of_ble_eq_true rfl⟩) hP hK hD hX hS (by decide) kc_Flow (by decide) rfl rfl hl.1 rfl (Nat.le_of_ble_eq_true rfl) d_FL_leave_228 (fun H locs hP hS => ?_)
            exact hj231 s77 i12_197 h _ _ _ hP hS (lv_sub hl [0, 1, 2, 3, 4] rfl)
  unfold f_FL_leave at h
  refine lv_aload_n hx hb d_FL_leave_0 rfl (lv_at hl 1 rfl) ?_
  refine lv_iload_n hx hb d_FL_leave_1 rfl (lv_at hl 2 rfl) ?_
  obtain ⟨s1, r3, hc2, h⟩ := xw_bn2I h
  refine xw_callVi (C := "AdviceWeaver$Body") (T := T_B) ⟨hx, hb, hml, hown, hts⟩ (c_B_byteAt l D A ad cs Z tt fu s0 s1 b1 (by omega) p2 r3 hc2) (cwV 1 hts (gd_V hw_105 hw_57 hw_58 hw_25 hw_59) rfl rfl rfl (by decide +kernel) ⟨Nat.le_of_ble_eq_true rfl, Nat.le_of_ble_eq_true rfl⟩) hP hK hD hX hS (by omega) (kc_Body b1 (by omega)) (by decide) rfl rfl hl.1 rfl (Nat.le_of_ble_eq_true rfl) d_FL_leave_2 (fun H locs hP hS => ?_)
  refine lv_istore hx hb d_FL_leave_5 hl (by decide) rfl (fun ls hl => ?_)
  refine lv_aload_n hx hb d_FL_leave_7 rfl (lv_at hl 2 rfl) ?_
  refine lv_iload_n hx hb d_FL_leave_8 rfl (lv_at hl 3 rfl) ?_
  refine lv_iconst (v := xw_i 1) hx hb d_FL_leave_9 rfl ?_
  refine xw_iadd hx hb d_FL_leave_10 ?_
  obtain ⟨s4, r6, hc5, h⟩ := xw_bn2I h
  refine xw_callVi (C := "AdviceWeaver$Body") (T := T_B) ⟨hx, hb, hml, hown, hts⟩ (c_B_byteAt l D A ad cs Z tt fu s1 s4 b1 (by omega) (p2 + 1) r6 hc5) (cwV 1 hts (gd_V hw_105 hw_57 hw_58 hw_25 hw_59) rfl rfl rfl (by decide +kernel) ⟨Nat.le_of_ble_eq_true rfl, Nat.le_of_ble_eq_true rfl⟩) hP hK hD hX hS (by omega) (kc_Body b1 (by omega)) (by decide) rfl rfl hl.1 rfl (Nat.le_of_ble_eq_true rfl) d_FL_leave_11 (fun H locs hP hS => ?_)
  refine lv_istore hx hb d_FL_leave_14 hl (by decide) rfl (fun ls hl => ?_)
  refine lv_aload_n hx hb d_FL_leave_16 rfl (lv_at hl 2 rfl) ?_
  refine xw_getR (C := "AdviceWeaver$Flow") (T := T_FL) hx hb hts hin_FL hown hK hP (by decide) kc_Flow (by decide) rfl 0 (by decide) (hts _ hw_100) (fun _ h9 => h9) rfl d_FL_leave_17 ?_
  refine lv_iload_n hx hb d_FL_leave_20 rfl (lv_at hl 4 rfl) ?_
  obtain ⟨hg7, h⟩ := xw_grdI h
  refine xw_iald hx hb hK hP (by decide) kc_sets (by decide) hg7 d_FL_leave_21 ?_
  refine xw_topi (fun v8 e9 => ?_)
  replace h := xw_letI e9 h
  refine lv_istore hx hb d_FL_leave_22 hl (by decide) rfl (fun ls hl => ?_)
  refine lv_iload hx hb d_FL_leave_24 (lv_at hl 2 rfl) ?_
  refine lv_bipush (v := xw_i 13) hx hb d_FL_leave_26 (by decide) ?_
  refine xw_jnI (fun j => ∀ (sq : xw_S) (i4_46 : Int) (i5_46 : Int) (i6_46 : Int) (t0_46 : Int), j sq i4_46 i5_46 i6_46 t0_46 = some sZ → ∀ (H : Heap) (locs : List Loc) (ls : Array Slot), va_P D vwCl (xw_ws kdC 100 ad cs Z sq) H → va_S A s.heap H locs → lv_has ls 13 [(0, .ref (ad 8)), (1, .ref (ad (48 + 4 * b1))), (2, .int (xw_i p2)), (4, .int (xw_i i4_46)), (5, .int (xw_i i5_46)), (6, .int (xw_i i6_46))] → W p l e (headSpec w_FL_leave ({ frames := 2, cells := 0, slots := 0, locals := 45 })).room s m [.ref (ad 8), .ref (ad (48 + 4 * b1)), .int (xw_i p2), .ref (ad (3 + a3))].toArray below meth c H locs 0 0 (MQ below (va_Qv (fun u => u = sZ) (xw_H D vwCl A kdC 100 ad cs Z tt) A) [.ref (ad 8), .ref (ad (48 + 4 * b1)), .int (xw_i p2), .ref (ad (3 + a3))].toArray s 0 0 A) (F0 m 46 ls [.int (xw_i t0_46)])) h ?_ ?_
  · intro s16 i4_46 i5_46 i6_46 t0_46 h H locs ls hP hS hl
    refine lv_istore hx hb d_FL_leave_46 hl (by decide) rfl (fun ls hl => ?_)
    refine lv_aload_n hx hb d_FL_leave_48 rfl (lv_at hl 2 rfl) ?_
    refine xw_getR (C := "AdviceWeaver$Body") (T := T_B) hx hb hts hin_B hown hK hP (by omega) (kc_Body b1 (by omega)) (by decide) rfl 1 (by decide) (hts _ hw_99) (fun _ h9 => h9) rfl d_FL_leave_49 ?_
    refine lv_iload_n hx hb d_FL_leave_52 rfl (lv_at hl 3 rfl) ?_
    obtain ⟨hg17, h⟩ := xw_grdI h
    refine xw_iald hx hb hK hP (by omega) (kc_bdepths b1 (by omega)) (xb_capL _) hg17 d_FL_leave_53 ?_
    refine xw_topi (fun v18 e19 => ?_)
    replace h := xw_letI e19 h
    refine lv_istore hx hb d_FL_leave_54 hl (by decide) rfl (fun ls hl => ?_)
    refine lv_iload hx hb d_FL_leave_56 (lv_at hl 0 rfl) ?_
    refine lv_iload hx hb d_FL_leave_58 (lv_at hl 1 rfl) ?_
    refine xw_isub hx hb d_FL_leave_60 ?_
    refine lv_iload hx hb d_FL_leave_61 (lv_at hl 5 rfl) ?_
    obtain ⟨s20, r22, hc21, h⟩ := xw_bn2I h
    refine xw_callSi ⟨hx, hb, hml, hown, hts⟩ (c_OP_puts l D A ad cs Z tt fu s16 s20 i4_46 r22 hc21) (va_cwS 1 hts (gd_S hw_110 hw_111 hw_48 hw_112) rfl rfl rfl (by decide +kernel) ⟨Nat.le_of_ble_eq_true rfl, Nat.le_of_ble_eq_true rfl⟩) hP hK hD hX hS rfl hl.1 rfl (Nat.le_of_ble_eq_true rfl) d_FL_leave_63 (fun H locs hP hS => ?_)
    refine xw_iadd hx hb d_FL_leave_66 ?_
    refine xw_topi (fun v23 e24 => ?_)
    replace h := xw_letI e24 h
    refine lv_istore hx hb d_FL_leave_67 hl (by decide) rfl (fun ls hl => ?_)
    refine lv_iload hx hb d_FL_leave_69 (lv_at hl 6 rfl) ?_
    refine lv_iconst (v := xw_i 2) hx hb d_FL_leave_71 rfl ?_
    refine xw_jnI (fun j => ∀ (sq : xw_S) (i4_97 : Int) (i5_97 : Int) (i6_97 : Int) (i7_97 : Int) (i8_97 : Int) (i9_97 : Int) (t0_97 : Int), j sq i4_97 i5_97 i6_97 i7_97 i8_97 i9_97 t0_97 = some sZ → ∀ (H : Heap) (locs : List Loc) (ls : Array Slot), va_P D vwCl (xw_ws kdC 100 ad cs Z sq) H → va_S A s.heap H locs → lv_has ls 13 [(0, .ref (ad 8)), (1, .ref (ad (48 + 4 * b1))), (2, .int (xw_i p2)), (4, .int (xw_i i4_97)), (5, .int (xw_i i5_97)), (6, .int (xw_i i6_97)), (7, .int (xw_i i7_97)), (8, .int (xw_i i8_97)), (9, .int (xw_i i9_97))] → W p l e (headSpec w_FL_leave ({ frames := 2, cells := 0, slots := 0, locals := 45 })).room s m [.ref (ad 8), .ref (ad (48 + 4 * b1)), .int (xw_i p2), .ref (ad (3 + a3))].toArray below meth c H locs 0 0 (MQ below (va_Qv (fun u => u = sZ) (xw_H D vwCl A kdC 100 ad cs Z tt) A) [.ref (ad 8), .ref (ad (48 + 4 * b1)), .int (xw_i p2), .ref (ad (3 + a3))].toArray s 0 0 A) (F0 m 97 ls [.int (xw_i t0_97)])) h ?_ ?_
    · intro s32 i4_97 i5_97 i6_97 i7_97 i8_97 i9_97 t0_97 h H locs ls hP hS hl
      refine lv_istore hx hb d_FL_leave_97 hl (by decide) rfl (fun ls hl => ?_)
      refine lv_iload hx hb d_FL_leave_99 (lv_at hl 8 rfl) ?_
      refine lv_iload hx hb d_FL_leave_101 (lv_at hl 7 rfl) ?_
      refine xw_jnI (fun j => ∀ (sq : xw_S), j sq = some sZ → ∀ (H : Heap) (locs : List Loc) (ls : Array Slot), va_P D vwCl (xw_ws kdC 100 ad cs Z sq) H → va_S A s.heap H locs → lv_has ls 13 [(0, .ref (ad 8))] → W p l e (headSpec w_FL_leave ({ frames := 2, cells := 0, slots := 0, locals := 45 })).room s m [.ref (ad 8), .ref (ad (48 + 4 * b1)), .int (xw_i p2), .ref (ad (3 + a3))].toArray below meth c H locs 0 0 (MQ below (va_Qv (fun u => u = sZ) (xw_H D vwCl A kdC 100 ad cs Z tt) A) [.ref (ad 8), .ref (ad (48 + 4 * b1)), .int (xw_i p2), .ref (ad (3 + a3))].toArray s 0 0 A) (F0 m 120 ls [])) h ?_ ?_
      · intro s84 h H locs ls hP hS hl
        refine lv_aload_n hx hb d_FL_leave_120 rfl (lv_at hl 0 rfl) ?_
        refine lv_iconst (v := xw_i 0) hx hb d_FL_leave_121 rfl ?_
        refine xw_putB (C := "AdviceWeaver$Flow") (T := T_FL) hx hb hts hin_FL ty_FL ty_FL_ok nm_FL hown hK hP hD hS (by decide) kc_Flow (by decide) rfl 2 (by decide) (hts _ hw_102) (fun _ h9 => h9) rfl (by decide +kernel) rfl d_FL_leave_122 (by decide) (fun s85 e86 H locs hP hS => ?_)
        replace h := xw_letI e86 h
        exact xw_vretE hx hb hr hlk hP hK hD hX hS h d_FL_leave_125
      · intro j120 hj120 h
        obtain ⟨hg33, h⟩ := xw_grdI h
        refine xw_icmp_lt (tgt := 120) hx hb hg33.1 hg33.2 d_FL_leave_103 (by decide) (fun hc34 => ?_) (fun hc34 => ?_)
        · replace h := xw_ifT hc34 h
          exact hj120 s32 h _ _ _ hP hS (lv_sub hl [1] rfl)
        · replace h := xw_ifF hc34 h
          refine lv_iload hx hb d_FL_leave_106 (lv_at hl 9 rfl) ?_
          refine lv_aload_n hx hb d_FL_leave_108 rfl (lv_at hl 2 rfl) ?_
          refine xw_getI (C := "AdviceWeaver$Body") (T := T_B) hx hb hts hin_B hown hK hP (by omega) (kc_Body b1 (by omega)) (by decide) rfl 7 (by decide) (hts _ hw_113) (fun _ h9 => h9) rfl d_FL_leave_109 ?_
          obtain ⟨hg35, h⟩ := xw_grdI h
          refine xw_icmp_gt (tgt := 120) hx hb hg35.1 hg35.2 d_FL_leave_112 (by decide) (fun hc36 => ?_) (fun hc36 => ?_)
          · replace h := xw_ifT hc36 h
            exact hj120 s32 h _ _ _ hP hS (lv_sub hl [1] rfl)
          · replace h := xw_ifF hc36 h
            refine lv_iload hx hb d_FL_leave_115 (lv_at hl 0 rfl) ?_
            obtain ⟨hg37, h⟩ := xw_grdI h
            refine xw_if_eq (tgt := 126) hx hb hg37 d_FL_leave_117 (by decide) (fun hc38 => ?_) (fun hc38 => ?_)
            · replace h := xw_ifT hc38 h
              refine lv_iload hx hb d_FL_leave_126 (lv_at hl 4 rfl) ?_
              refine lv_iconst (v := xw_i 3) hx hb d_FL_leave_128 rfl ?_
              refine xw_jnI (fun j => ∀ (sq : xw_S) (i4_144 : Int) (i6_144 : Int) (i9_144 : Int) (t0_144 : Int), j sq i4_144 i6_144 i9_144 t0_144 = some sZ → ∀ (H : Heap) (locs : List Loc) (ls : Array Slot), va_P D vwCl (xw_ws kdC 100 ad cs Z sq) H → va_S A s.heap H locs → lv_has ls 13 [(0, .ref (ad 8)), (1, .ref (ad (48 + 4 * b1))), (2, .int (xw_i p2)), (4, .int (xw_i i4_144)), (6, .int (xw_i i6_144)), (9, .int (xw_i i9_144))] → W p l e (headSpec w_FL_leave ({ frames := 2, cells := 0, slots := 0, locals := 45 })).room s m [.ref (ad 8), .ref (ad (48 + 4 * b1)), .int (xw_i p2), .ref (ad (3 + a3))].toArray below meth c H locs 0 0 (MQ below (va_Qv (fun u => u = sZ) (xw_H D vwCl A kdC 100 ad cs Z tt) A) [.ref (ad 8), .ref (ad (48 + 4 * b1)), .int (xw_i p2), .ref (ad (3 + a3))].toArray s 0 0 A) (F0 m 144 ls [.int (xw_i t0_144)])) h ?_ ?_
              · intro s41 i4_144 i6_144 i9_144 t0_144 h H locs ls hP hS hl
                refine lv_istore hx hb d_FL_leave_144 hl (by decide) rfl (fun ls hl => ?_)
                refine lv_iload hx hb d_FL_leave_146 (lv_at hl 4 rfl) ?_
                obtain ⟨s42, r44, hc43, h⟩ := xw_bn2I h
                refine xw_callSi ⟨hx, hb, hml, hown, hts⟩ (c_OP_goesOn l D A ad cs Z tt fu s41 s42 i4_144 r44 hc43) (va_cwS 1 hts (gd_S hw_114 hw_115 hw_48 hw_116) rfl rfl rfl (by decide +kernel) ⟨Nat.le_of_ble_eq_true rfl, Nat.le_of_ble_eq_true rfl⟩) hP hK hD hX hS rfl hl.1 rfl (Nat.le_of_ble_eq_true rfl) d_FL_leave_148 (fun H locs hP hS => ?_)
                refine xw_jnI (fun j => ∀ (sq : xw_S) (i4_170 : Int) (i6_170 : Int) (i9_170 : Int) (i11_170 : Int), j sq i4_170 i6_170 i9_170 i11_170 = some sZ → ∀ (H : Heap) (locs : List Loc) (ls : Array Slot), va_P D vwCl (xw_ws kdC 100 ad cs Z sq) H → va_S A s.heap H locs → lv_has ls 13 [(0, .ref (ad 8)), (1, .ref (ad (48 + 4 * b1))), (2, .int (xw_i p2)), (4, .int (xw_i i4_170)), (6, .int (xw_i i6_170)), (9, .int (xw_i i9_170)), (11, .int (xw_i i11_170))] → W p l e (headSpec w_FL_leave ({ frames := 2, cells := 0, slots := 0, locals := 45 })).room s m [.ref (ad 8), .ref (ad (48 + 4 * b1)), .int (xw_i p2), .ref (ad (3 + a3))].toArray below meth c H locs 0 0 (MQ below (va_Qv (fun u => u = sZ) (xw_H D vwCl A kdC 100 ad cs Z tt) A) [.ref (ad 8), .ref (ad (48 + 4 * b1)), .int (xw_i p2), .ref (ad (3 + a3))].toArray s 0 0 A) (F0 m 170 ls [])) h ?_ ?_
                · intro s53 i4_170 i6_170 i9_170 i11_170 h H locs ls hP hS hl
                  refine lv_iload hx hb d_FL_leave_170 (lv_at hl 3 rfl) ?_
                  obtain ⟨s54, r56, hc55, h⟩ := xw_bn2I h
                  refine xw_callSi ⟨hx, hb, hml, hown, hts⟩ (c_OP_isBranch l D A ad cs Z tt fu s53 s54 i4_170 r56 hc55) (va_cwS 1 hts (gd_S hw_123 hw_65 hw_48 hw_66) rfl rfl rfl (by decide +kernel) ⟨Nat.le_of_ble_eq_true rfl, Nat.le_of_ble_eq_true rfl⟩) hP hK hD hX hS rfl hl.1 rfl (Nat.le_of_ble_eq_true rfl) d_FL_leave_172 (fun H locs hP hS => ?_)
                  refine xw_jnI (fun j => ∀ (sq : xw_S) (i6_194 : Int), j sq i6_194 = some sZ → ∀ (H : Heap) (locs : List Loc) (ls : Array Slot), va_P D vwCl (xw_ws kdC 100 ad cs Z sq) H → va_S A s.heap H locs → lv_has ls 13 [(0, .ref (ad 8)), (1, .ref (ad (48 + 4 * b1))), (2, .int (xw_i p2)), (6, .int (xw_i i6_194))] → W p l e (headSpec w_FL_leave ({ frames := 2, cells := 0, slots := 0, locals := 45 })).room s m [.ref (ad 8), .ref (ad (48 + 4 * b1)), .int (xw_i p2), .ref (ad (3 + a3))].toArray below meth c H locs 0 0 (MQ below (va_Qv (fun u => u = sZ) (xw_H D vwCl A kdC 100 ad cs Z tt) A) [.ref (ad 8), .ref (ad (48 + 4 * b1)), .int (xw_i p2), .ref (ad (3 + a3))].toArray s 0 0 A) (F0 m 194 ls [])) h ?_ ?_
                  · intro s65 i6_194 h H locs ls hP hS hl
                    refine lv_iconst (v := xw_i 0) hx hb d_FL_leave_194 rfl ?_
                    refine lv_istore hx hb d_FL_leave_195 hl (by decide) rfl (fun ls hl => ?_)
                    refine xw_jnI (fun j => ∀ (sq : xw_S), j sq = some sZ → ∀ (H : Heap) (locs : List Loc) (ls : Array Slot), va_P D vwCl (xw_ws kdC 100 ad cs Z sq) H → va_S A s.heap H locs → lv_has ls 13 [] → W p l e (headSpec w_FL_leave ({ frames := 2, cells := 0, slots := 0, locals := 45 })).room s m [.ref (ad 8), .ref (ad (48 + 4 * b1)), .int (xw_i p2), .ref (ad (3 + a3))].toArray below meth c H locs 0 0 (MQ below (va_Qv (fun u => u = sZ) (xw_H D vwCl A kdC 100 ad cs Z tt) A) [.ref (ad 8), .ref (ad (48 + 4 * b1)), .int (xw_i p2), .ref (ad (3 + a3))].toArray s 0 0 A) (F0 m 237 ls [])) h ?_ ?_
                    · intro s83 h H locs ls hP hS hl
                      exact xw_vretE hx hb hr hlk hP hK hD hX hS h d_FL_leave_237
                    · intro k237 hk237 h
                      exact hlp197 p2 i6_194 k237 hk237 fu s65 0 h _ _ _ hP hS (lv_sub hl [1, 2, 3, 4, 0] rfl)
                  · intro j194 hj194 h
                    obtain ⟨hg57, h⟩ := xw_grdI h
                    refine xw_if_eq (tgt := 194) hx hb hg57 d_FL_leave_175 (by decide) (fun hc58 => ?_) (fun hc58 => ?_)
                    · replace h := xw_ifT hc58 h
                      exact hj194 s54 i6_170 h _ _ _ hP hS (lv_sub hl [0, 1, 2, 4] rfl)
                    · replace h := xw_ifF hc58 h
                      refine lv_aload_n hx hb d_FL_leave_178 rfl (lv_at hl 0 rfl) ?_
                      refine lv_aload_n hx hb d_FL_leave_179 rfl (lv_at hl 1 rfl) ?_
                      refine lv_iload_n hx hb d_FL_leave_180 rfl (lv_at hl 2 rfl) ?_
                      refine lv_aload_n hx hb d_FL_leave_181 rfl (lv_at hl 1 rfl) ?_
                      refine lv_iload_n hx hb d_FL_leave_182 rfl (lv_at hl 2 rfl) ?_
                      obtain ⟨s59, r61, hc60, h⟩ := xw_bn2I h
                      refine xw_callVi (C := "AdviceWeaver$Body") (T := T_B) ⟨hx, hb, hml, hown, hts⟩ (c_B_wayAt l D A ad cs Z tt fu s54 s59 b1 (by omega) p2 r61 hc60) (cwV 1 hts (gd_V hw_124 hw_72 hw_73 hw_25 hw_74) rfl rfl rfl (by decide +kernel) ⟨Nat.le_of_ble_eq_true rfl, Nat.le_of_ble_eq_true rfl⟩) hP hK hD hX hS (by omega) (kc_Body b1 (by omega)) (by decide) rfl rfl hl.1 rfl (Nat.le_of_ble_eq_true rfl) d_FL_leave_183 (fun H locs hP hS => ?_)
                      refine xw_iadd hx hb d_FL_leave_186 ?_
                      refine lv_iload hx hb d_FL_leave_187 (lv_at hl 5 rfl) ?_
                      refine lv_iload hx hb d_FL_leave_189 (lv_at hl 6 rfl) ?_
                      obtain ⟨s62, hc63, h⟩ := xw_bndI h
                      refine xw_callVv (C := "AdviceWeaver$Flow") (T := T_FL) ⟨hx, hb, hml, hown, hts⟩ (c_FL_arrive l D A ad cs Z tt fu s59 s62 b1 (by omega) (p2 + r61) i9_170 i11_170 hc63) (cwV 4 hts (gd_V hw_118 hw_119 hw_120 hw_121 hw_122) rfl rfl rfl (by decide +kernel) ⟨Nat.le_of_ble_eq_true rfl, Nat.le_of_ble_eq_true rfl⟩) hP hK hD hX hS (by decide) kc_Flow (by decide) rfl rfl hl.1 rfl (Nat.le_of_ble_eq_true rfl) d_FL_leave_191 (fun H locs hP hS => ?_)
                      exact hj194 s62 i6_170 h _ _ _ hP hS (lv_sub hl [0, 1, 2, 4] rfl)
                · intro j170 hj170 h
                  obtain ⟨hg45, h⟩ := xw_grdI h
                  refine xw_if_eq (tgt := 170) hx hb hg45 d_FL_leave_151 (by decide) (fun hc46 => ?_) (fun hc46 => ?_)
                  · replace h := xw_ifT hc46 h
                    exact hj170 s42 i4_144 i6_144 i9_144 t0_144 h _ _ _ hP hS (lv_sub hl [1, 2, 3, 4, 5, 6, 0] rfl)
                  · replace h := xw_ifF hc46 h
                    refine lv_aload_n hx hb d_FL_leave_154 rfl (lv_at hl 1 rfl) ?_
                    refine lv_aload_n hx hb d_FL_leave_155 rfl (lv_at hl 2 rfl) ?_
                    refine lv_iload_n hx hb d_FL_leave_156 rfl (lv_at hl 3 rfl) ?_
                    refine lv_iload hx hb d_FL_leave_157 (lv_at hl 4 rfl) ?_
                    obtain ⟨s47, r49, hc48, h⟩ := xw_bn2I h
                    refine xw_callSi ⟨hx, hb, hml, hown, hts⟩ (c_OP_size l D A ad cs Z tt fu s42 s47 i4_144 r49 hc48) (va_cwS 1 hts (gd_S hw_117 hw_47 hw_48 hw_49) rfl rfl rfl (by decide +kernel) ⟨Nat.le_of_ble_eq_true rfl, Nat.le_of_ble_eq_true rfl⟩) hP hK hD hX hS rfl hl.1 rfl (Nat.le_of_ble_eq_true rfl) d_FL_leave_159 (fun H locs hP hS => ?_)
                    refine xw_iadd hx hb d_FL_leave_162 ?_
                    refine lv_iload hx hb d_FL_leave_163 (lv_at hl 6 rfl) ?_
                    refine lv_iload hx hb d_FL_leave_165 (lv_at hl 0 rfl) ?_
                    obtain ⟨s50, hc51, h⟩ := xw_bndI h
                    refine xw_callVv (C := "AdviceWeaver$Flow") (T := T_FL) ⟨hx, hb, hml, hown, hts⟩ (c_FL_arrive l D A ad cs Z tt fu s47 s50 b1 (by omega) (p2 + r49) i9_144 t0_144 hc51) (cwV 4 hts (gd_V hw_118 hw_119 hw_120 hw_121 hw_122) rfl rfl rfl (by decide +kernel) ⟨Nat.le_of_ble_eq_true rfl, Nat.le_of_ble_eq_true rfl⟩) hP hK hD hX hS (by decide) kc_Flow (by decide) rfl rfl hl.1 rfl (Nat.le_of_ble_eq_true rfl) d_FL_leave_167 (fun H locs hP hS => ?_)
                    exact hj170 s50 i4_144 i6_144 i9_144 t0_144 h _ _ _ hP hS (lv_sub hl [1, 2, 3, 4, 5, 6, 0] rfl)
              · intro j144 hj144 h
                obtain ⟨hg39, h⟩ := xw_grdI h
                refine xw_icmp_ne (tgt := 142) hx hb hg39 (by decide) d_FL_leave_129 (by decide) (fun hc40 => ?_) (fun hc40 => ?_)
                · replace h := xw_ifF hc40 h
                  refine lv_iload hx hb d_FL_leave_142 (lv_at hl 6 rfl) ?_
                  exact hj144 s32 i4_97 i6_97 i9_97 i6_97 h _ _ _ hP hS (lv_sub hl [1, 2, 3, 4, 6, 9] rfl)
                · replace h := xw_ifT hc40 h
                  refine lv_iload hx hb d_FL_leave_132 (lv_at hl 6 rfl) ?_
                  refine lv_iconst (v := xw_i 1) hx hb d_FL_leave_134 rfl ?_
                  refine lv_iload hx hb d_FL_leave_135 (lv_at hl 5 rfl) ?_
                  refine xw_ishl hx hb d_FL_leave_137 ?_
                  refine xw_ior hx hb d_FL_leave_138 ?_
                  refine lv_goto (tgt := 144) hx hb d_FL_leave_139 (by decide) ?_
                  exact hj144 s32 i4_97 i6_97 i9_97 (xw_or i6_97 (xw_hl 1 i5_97)) h _ _ _ hP hS (lv_sub hl [1, 2, 3, 4, 6, 9] rfl)
            · replace h := xw_ifF hc38 h
              exact hj120 s32 h _ _ _ hP hS (lv_sub hl [1] rfl)
    · intro j97 hj97 h
      refine xw_jnI (fun j => ∀ (sq : xw_S) (i4_96 : Int) (i5_96 : Int) (i6_96 : Int) (i7_96 : Int) (i8_96 : Int) (i9_96 : Int), j sq i4_96 i5_96 i6_96 i7_96 i8_96 i9_96 = some sZ → ∀ (H : Heap) (locs : List Loc) (ls : Array Slot), va_P D vwCl (xw_ws kdC 100 ad cs Z sq) H → va_S A s.heap H locs → lv_has ls 13 [(0, .ref (ad 8)), (1, .ref (ad (48 + 4 * b1))), (2, .int (xw_i p2)), (4, .int (xw_i i4_96)), (5, .int (xw_i i5_96)), (6, .int (xw_i i6_96)), (7, .int (xw_i i7_96)), (8, .int (xw_i i8_96)), (9, .int (xw_i i9_96))] → W p l e (headSpec w_FL_leave ({ frames := 2, cells := 0, slots := 0, locals := 45 })).room s m [.ref (ad 8), .ref (ad (48 + 4 * b1)), .int (xw_i p2), .ref (ad (3 + a3))].toArray below meth c H locs 0 0 (MQ below (va_Qv (fun u => u = sZ) (xw_H D vwCl A kdC 100 ad cs Z tt) A) [.ref (ad 8), .ref (ad (48 + 4 * b1)), .int (xw_i p2), .ref (ad (3 + a3))].toArray s 0 0 A) (F0 m 96 ls [])) h ?_ ?_
      · intro s31 i4_96 i5_96 i6_96 i7_96 i8_96 i9_96 h H locs ls hP hS hl
        refine lv_iconst (v := xw_i 0) hx hb d_FL_leave_96 rfl ?_
        exact hj97 s31 i4_96 i5_96 i6_96 i7_96 i8_96 i9_96 0 h _ _ _ hP hS (lv_sub hl [0, 1, 2, 3, 4, 5, 6, 7, 8] rfl)
      · intro j96 hj96 h
        refine xw_jnI (fun j => ∀ (sq : xw_S) (i4_82 : Int) (i5_82 : Int) (i6_82 : Int) (i7_82 : Int) (i8_82 : Int) (i9_82 : Int), j sq i4_82 i5_82 i6_82 i7_82 i8_82 i9_82 = some sZ → ∀ (H : Heap) (locs : List Loc) (ls : Array Slot), va_P D vwCl (xw_ws kdC 100 ad cs Z sq) H → va_S A s.heap H locs → lv_has ls 13 [(0, .ref (ad 8)), (1, .ref (ad (48 + 4 * b1))), (2, .int (xw_i p2)), (4, .int (xw_i i4_82)), (5, .int (xw_i i5_82)), (6, .int (xw_i i6_82)), (7, .int (xw_i i7_82)), (8, .int (xw_i i8_82)), (9, .int (xw_i i9_82))] → W p l e (headSpec w_FL_leave ({ frames := 2, cells := 0, slots := 0, locals := 45 })).room s m [.ref (ad 8), .ref (ad (48 + 4 * b1)), .int (xw_i p2), .ref (ad (3 + a3))].toArray below meth c H locs 0 0 (MQ below (va_Qv (fun u => u = sZ) (xw_H D vwCl A kdC 100 ad cs Z tt) A) [.ref (ad 8), .ref (ad (48 + 4 * b1)), .int (xw_i p2), .ref (ad (3 + a3))].toArray s 0 0 A) (F0 m 82 ls [])) h ?_ ?_
        · intro s28 i4_82 i5_82 i6_82 i7_82 i8_82 i9_82 h H locs ls hP hS hl
          refine lv_iload hx hb d_FL_leave_82 (lv_at hl 5 rfl) ?_
          refine lv_iload hx hb d_FL_leave_84 (lv_at hl 4 rfl) ?_
          refine xw_ishr hx hb d_FL_leave_86 ?_
          refine lv_iconst (v := xw_i 1) hx hb d_FL_leave_87 rfl ?_
          refine xw_iand hx hb d_FL_leave_88 ?_
          obtain ⟨hg29, h⟩ := xw_grdI h
          refine xw_if_ne (tgt := 96) hx hb hg29 d_FL_leave_89 (by decide) (fun hc30 => ?_) (fun hc30 => ?_)
          · replace h := xw_ifF hc30 h
            exact hj96 s28 i4_82 i5_82 i6_82 i7_82 i8_82 i9_82 h _ _ _ hP hS (lv_sub hl [0, 1, 2, 3, 4, 5, 6, 7, 8] rfl)
          · replace h := xw_ifT hc30 h
            refine lv_iconst (v := xw_i 1) hx hb d_FL_leave_92 rfl ?_
            refine lv_goto (tgt := 97) hx hb d_FL_leave_93 (by decide) ?_
            exact hj97 s28 i4_82 i5_82 i6_82 i7_82 i8_82 i9_82 1 h _ _ _ hP hS (lv_sub hl [0, 1, 2, 3, 4, 5, 6, 7, 8] rfl)
        · intro j82 hj82 h
          obtain ⟨hg25, h⟩ := xw_grdI h
          refine xw_icmp_eq (tgt := 82) hx hb hg25 (by decide) d_FL_leave_72 (by decide) (fun hc26 => ?_) (fun hc26 => ?_)
          · replace h := xw_ifT hc26 h
            exact hj82 s20 i4_46 i5_46 i6_46 t0_46 v18 v23 h _ _ _ hP hS (lv_sub hl [3, 4, 5, 6, 7, 8, 2, 1, 0] rfl)
          · replace h := xw_ifF hc26 h
            refine lv_iload hx hb d_FL_leave_75 (lv_at hl 6 rfl) ?_
            refine lv_bipush (v := xw_i 16) hx hb d_FL_leave_77 (by decide) ?_
            refine xw_icmp_ne (tgt := 96) hx hb hg25 (by decide) d_FL_leave_79 (by decide) (fun hc27 => ?_) (fun hc27 => ?_)
            · replace h := xw_ifF hc27 h
              exact hj96 s20 i4_46 i5_46 i6_46 t0_46 v18 v23 h _ _ _ hP hS (lv_sub hl [3, 4, 5, 6, 7, 8, 2, 1, 0] rfl)
            · replace h := xw_ifT hc27 h
              exact hj82 s20 i4_46 i5_46 i6_46 t0_46 v18 v23 h _ _ _ hP hS (lv_sub hl [3, 4, 5, 6, 7, 8, 2, 1, 0] rfl)
  · intro j46 hj46 h
    obtain ⟨hg10, h⟩ := xw_grdI h
    refine xw_icmp_ne (tgt := 41) hx hb hg10 (by decide) d_FL_leave_28 (by decide) (fun hc11 => ?_) (fun hc11 => ?_)
    · replace h := xw_ifF hc11 h
      refine lv_iload hx hb d_FL_leave_41 (lv_at hl 2 rfl) ?_
      obtain ⟨s12, r14, hc13, h⟩ := xw_bn2I h
      refine xw_callSi ⟨hx, hb, hml, hown, hts⟩ (c_OP_takes l D A ad cs Z tt fu s4 s12 r3 r14 hc13) (va_cwS 1 hts (gd_S hw_106 hw_107 hw_48 hw_108) rfl rfl rfl (by decide +kernel) ⟨Nat.le_of_ble_eq_true rfl, Nat.le_of_ble_eq_true rfl⟩) hP hK hD hX hS rfl hl.1 rfl (Nat.le_of_ble_eq_true rfl) d_FL_leave_43 (fun H locs hP hS => ?_)
      exact hj46 s12 r3 r6 v8 r14 h _ _ _ hP hS (lv_sub hl [3, 4, 5, 2, 1, 0] rfl)
    · replace h := xw_ifT hc11 h
      refine lv_aload_n hx hb d_FL_leave_31 rfl (lv_at hl 6 rfl) ?_
      refine lv_iload hx hb d_FL_leave_32 (lv_at hl 1 rfl) ?_
      obtain ⟨hg15, h⟩ := xw_grdI h
      refine xw_aald23 (r := 48 + 4 * (4 * a3 + (r6).toNat)) hx hb hK hP (by omega) (kc_BodyArr a3 (by omega)) (by decide) hg15 (kc_BodyArrE a3 _ (by omega) (by omega)) d_FL_leave_34 ?_
      refine xw_getI (C := "AdviceWeaver$Body") (T := T_B) hx hb hts hin_B hown hK hP (by omega) (kc_Body (4 * a3 + (r6).toNat) (by omega)) (by decide) rfl 5 (by decide) (hts _ hw_109) (fun _ h9 => h9) rfl d_FL_leave_35 ?_
      refine lv_goto (tgt := 46) hx hb d_FL_leave_38 (by decide) ?_
      exact hj46 s4 r3 r6 v8 (s4.1 (48 + 4 * (4 * a3 + (r6).toNat)) 5) h _ _ _ hP hS (lv_sub hl [3, 4, 5, 2, 1, 0] rfl)
def lp_FL_explore_61 (fu : Nat) (b1 : Nat) (a2 : Nat) (c3_61 : Int) (k100 : xw_S → Int → Option (xw_S × Int)) : Nat → xw_S → Int → Option (xw_S × Int)
  | 0, _, _ => none
  | n + 1, s20, i4_61 =>
    xw_grd (xw_r i4_61 ∧ xw_r (s20.1 (48 + 4 * b1) 8)) (xw_if (s20.1 (48 + 4 * b1) 8 ≤ i4_61) (k100 s20 c3_61)
     (xw_grd (xw_r (s20.1 8 2)) (xw_if (s20.1 8 2 = 0) (k100 s20 c3_61)
     (xw_bn2 (f_B_isReached fu s20 b1 i4_61) (fun s25 r27 => xw_jn (fun (s33 : xw_S) (i4_94 : Int) => xw_let (i4_94 + 1) (fun v34 => lp_FL_explore_61 fu b1 a2 c3_61 k100 n s33 v34))
     (fun (j94 : xw_S → Int → Option (xw_S × Int)) => xw_grd (xw_r r27) (xw_if (r27 = 0) (j94 s25 i4_61)
     (xw_bnd (f_FL_leave fu s25 b1 i4_61 a2) (fun s30 => j94 s30 i4_61)))))))))
def lp_FL_explore_32 (fu : Nat) (b1 : Nat) (a2 : Nat) (k106 : xw_S → Option (xw_S × Int)) : Nat → xw_S → Int → Option (xw_S × Int)
  | 0, _, _ => none
  | n + 1, s11, i3_32 =>
    xw_grd (xw_r i3_32) (xw_if (841 ≤ i3_32) (k106 s11)
     (xw_grd (xw_r (s11.1 8 1)) (xw_if (s11.1 8 1 = 0) (k106 s11)
     (xw_grd (xw_r (s11.1 8 2)) (xw_if (s11.1 8 2 = 0) (k106 s11)
     (xw_let (xw_st s11 8 1 0) (fun s18 => xw_jn (fun (s36 : xw_S) (i3_100 : Int) => xw_let (i3_100 + 1) (fun v37 => lp_FL_explore_32 fu b1 a2 k106 n s36 v37))
     (fun (k100 : xw_S → Int → Option (xw_S × Int)) => lp_FL_explore_61 fu b1 a2 i3_32 k100 fu s18 0))))))))
def lp_FL_explore_113 (fu : Nat) (b1 : Nat) (a2 : Nat) (k144 : xw_S → Option (xw_S × Int)) : Nat → xw_S → Int → Option (xw_S × Int)
  | 0, _, _ => none
  | n + 1, s42, i3_113 =>
    xw_grd (xw_r i3_113 ∧ xw_r (s42.1 (48 + 4 * b1) 8)) (xw_if (s42.1 (48 + 4 * b1) 8 ≤ i3_113) (k144 s42)
     (xw_grd ((0 ≤ i3_113 ∧ i3_113 < ((xb_cap b1 : Nat) : Int))) (xw_grd (xw_r (s42.1 (48 + 4 * b1) 11) ∧ xw_r (s42.1 (50 + 4 * b1) (i3_113).toNat)) (xw_let (xw_st s42 (48 + 4 * b1) 11 (if s42.1 (48 + 4 * b1) 11 < s42.1 (50 + 4 * b1) (i3_113).toNat then s42.1 (50 + 4 * b1) (i3_113).toNat else s42.1 (48 + 4 * b1) 11)) (fun s47 => xw_let (i3_113 + 1) (fun v49 => lp_FL_explore_113 fu b1 a2 k144 n s47 v49))))))
def f_FL_explore (fu : Nat) (s0 : xw_S) (b1 : Nat) (a2 : Nat) : Option (xw_S × Int) :=
 xw_bn2 (f_B_findInstructions fu s0 b1) (fun s1 r3 => xw_let (xw_st s1 8 1 0) (fun s4 => xw_let (xw_st s4 8 2 1) (fun s6 => xw_bnd (f_FL_arrive fu s6 b1 0 0 ((xw_hl 1 (s6.1 (48 + 4 * b1) 5)) - 1)) (fun s8 => xw_jn (fun (s39 : xw_S) => xw_let (xw_st s39 (48 + 4 * b1) 11 0) (fun s40 => xw_jn (fun (s51 : xw_S) => xw_grd ((s51.1 8 2 = 0 ∨ s51.1 8 2 = 1)) (some (s51, s51.1 8 2)))
 (fun (k144 : xw_S → Option (xw_S × Int)) => lp_FL_explore_113 fu b1 a2 k144 fu s40 0)))
 (fun (k106 : xw_S → Option (xw_S × Int)) => lp_FL_explore_32 fu b1 a2 k106 fu s8 0)))))
set_option maxRecDepth 100000 in
set_option maxHeartbeats 4000000 in
theorem c_FL_explore (l : Launch) (D : va_G) (A : Nat → Prop) (ad : Nat → Nat) (cs : Nat → ClassId) (Z : va_W) (tt : Nat → Nat) (fu : Nat) (s0 sZ : xw_S) (b1 : Nat) (hb_b1 : b1 < 13) (a2 : Nat) (hb_a2 : a2 < 3) (r0 : Int) (h : f_FL_explore fu s0 b1 a2 = some (sZ, r0)) : Met l y_FL_explore w_FL_explore ({ frames := 3, cells := 0, slots := 0, locals := 77 }) (va_Pc [.ref (ad 8), .ref (ad (48 + 4 * b1)), .ref (ad (3 + a2))] (xw_H D vwCl A kdC 100 ad cs Z tt s0)) (va_Qi (fun r u => r = xw_i r0 ∧ u = sZ) (xw_H D vwCl A kdC 100 ad cs Z tt) A) 0 0 A := by
  refine Met.ofW (cc := b_FL_explore) (maxL := 5) (ret := (some .boolean)) (by decide) rfl ?_
  intro p e s m args below meth c s₁ B hml hv
  obtain ⟨rfl, hP, hK, hD, hX⟩ := hv
  have hx := B.exec
  have hb := B.bytes
  have hr := B.returns
  have hts0 := atoms_spec (ws := w_FL_explore) B.pre
  have hts := fun w (hw : w ∈ wAll) => hts0 w (List.mem_cons_of_mem _ hw)
  have hown : s.vm.findClass "AdviceWeaver$Flow" = some m.cls := findClass_of_methodNamed B.named
  have hlk := B.notSynchronized
  clear hts0 B
  have hS : va_S A s.heap s.heap [] := va_S.rf
  have hl := lv_entry [.ref (ad 8), .ref (ad (48 + 4 * b1)), .ref (ad (3 + a2))] (n := 5) (Nat.le_of_ble_eq_true rfl)
  rw [lg_entry_eq]
  generalize (lg_sl [.ref (ad 8), .ref (ad (48 + 4 * b1)), .ref (ad (3 + a2))] ++ List.replicate (5 - (lg_sl [.ref (ad 8), .ref (ad (48 + 4 * b1)), .ref (ad (3 + a2))]).length) Slot.unset).toArray = ls at hl ⊢
  have hl : lv_has ls 5 [(0, .ref (ad 8)), (1, .ref (ad (48 + 4 * b1))), (2, .ref (ad (3 + a2)))] := hl
  have hlp61 : ∀ (c3_61 : Int) (k100 : xw_S → Int → Option (xw_S × Int)) (hk100 : ∀ (sq : xw_S) (i3_100 : Int), k100 sq i3_100 = some (sZ, r0) → ∀ (H : Heap) (locs : List Loc) (ls : Array Slot), va_P D vwCl (xw_ws kdC 100 ad cs Z sq) H → va_S A s.heap H locs → lv_has ls 5 [(0, .ref (ad 8)), (1, .ref (ad (48 + 4 * b1))), (2, .ref (ad (3 + a2))), (3, .int (xw_i i3_100))] → W p l e (headSpec w_FL_explore ({ frames := 3, cells := 0, slots := 0, locals := 77 })).room s m [.ref (ad 8), .ref (ad (48 + 4 * b1)), .ref (ad (3 + a2))].toArray below meth c H locs 0 0 (MQ below (va_Qi (fun r u => r = xw_i r0 ∧ u = sZ) (xw_H D vwCl A kdC 100 ad cs Z tt) A) [.ref (ad 8), .ref (ad (48 + 4 * b1)), .ref (ad (3 + a2))].toArray s 0 0 A) (F0 m 100 ls [])) (n : Nat), ∀ (sq : xw_S) (i4_61 : Int), lp_FL_explore_61 fu b1 a2 c3_61 k100 n sq i4_61 = some (sZ, r0) → ∀ (H : Heap) (locs : List Loc) (ls : Array Slot), va_P D vwCl (xw_ws kdC 100 ad cs Z sq) H → va_S A s.heap H locs → lv_has ls 5 [(0, .ref (ad 8)), (1, .ref (ad (48 + 4 * b1))), (2, .ref (ad (3 + a2))), (3, .int (xw_i c3_61)), (4, .int (xw_i i4_61))] → W p l e (headSpec w_FL_explore ({ frames := 3, cells := 0, slots := 0, locals := 77 })).room s m [.ref (ad 8), .ref (ad (48 + 4 * b1)), .ref (ad (3 + a2))].toArray below meth c H locs 0 0 (MQ below (va_Qi (fun r u => r = xw_i r0 ∧ u = sZ) (xw_H D vwCl A kdC 100 ad cs Z tt) A) [.ref (ad 8), .ref (ad (48 + 4 * b1)), .ref (ad (3 + a2))].toArray s 0 0 A) (F0 m 61 ls []) := by
    intro c3_61 k100 hk100 n
    induction n with
    | zero =>
      intro sq i4_61 h
      cases (show (none : Option (xw_S × Int)) = some (sZ, r0) from h)
    | succ n ih61 =>
      intro s20 i4_61 h H locs ls hP hS hl
      unfold lp_FL_explore_61 at h
      refine lv_iload hx hb d_FL_explore_61 (lv_at hl 4 rfl) ?_
      refine lv_aload_n hx hb d_FL_explore_63 rfl (lv_at hl 1 rfl) ?_
      refine xw_getI (C := "AdviceWeaver$Body") (T := T_B) hx hb hts hin_B hown hK hP (by omega) (kc_Body b1 (by omega)) (by decide) rfl 8 (by decide) (hts _ hw_132) (fun _ h9 => h9) rfl d_FL_explore_64 ?_
      obtain ⟨hg21, h⟩ := xw_grdI h
      refine xw_icmp_ge (tgt := 100) hx hb hg21.1 hg21.2 d_FL_explore_67 (by decide) (fun hc22 => ?_) (fun hc22 => ?_)
      · replace h := xw_ifT hc22 h
        exact hk100 s20 c3_61 h _ _ _ hP hS (lv_sub hl [0, 1, 2, 3] rfl)
      · replace h := xw_ifF hc22 h
        refine lv_aload_n hx hb d_FL_explore_70 rfl (lv_at hl 0 rfl) ?_
        refine xw_getI (C := "AdviceWeaver$Flow") (T := T_FL) hx hb hts hin_FL hown hK hP (by decide) kc_Flow (by decide) rfl 2 (by decide) (hts _ hw_102) (fun _ h9 => h9) rfl d_FL_explore_71 ?_
        obtain ⟨hg23, h⟩ := xw_grdI h
        refine xw_if_eq (tgt := 100) hx hb hg23 d_FL_explore_74 (by decide) (fun hc24 => ?_) (fun hc24 => ?_)
        · replace h := xw_ifT hc24 h
          exact hk100 s20 c3_61 h _ _ _ hP hS (lv_sub hl [0, 1, 2, 3] rfl)
        · replace h := xw_ifF hc24 h
          refine lv_aload_n hx hb d_FL_explore_77 rfl (lv_at hl 1 rfl) ?_
          refine lv_iload hx hb d_FL_explore_78 (lv_at hl 4 rfl) ?_
          obtain ⟨s25, r27, hc26, h⟩ := xw_bn2I h
          refine xw_callVi (C := "AdviceWeaver$Body") (T := T_B) ⟨hx, hb, hml, hown, hts⟩ (c_B_isReached l D A ad cs Z tt fu s20 s25 b1 (by omega) i4_61 r27 hc26) (cwV 1 hts (gd_V hw_95 hw_96 hw_97 hw_25 hw_98) rfl rfl rfl (by decide +kernel) ⟨Nat.le_of_ble_eq_true rfl, Nat.le_of_ble_eq_true rfl⟩) hP hK hD hX hS (by omega) (kc_Body b1 (by omega)) (by decide) rfl rfl hl.1 rfl (Nat.le_of_ble_eq_true rfl) d_FL_explore_80 (fun H locs hP hS => ?_)
          refine xw_jnI (fun j => ∀ (sq : xw_S) (i4_94 : Int), j sq i4_94 = some (sZ, r0) → ∀ (H : Heap) (locs : List Loc) (ls : Array Slot), va_P D vwCl (xw_ws kdC 100 ad cs Z sq) H → va_S A s.heap H locs → lv_has ls 5 [(0, .ref (ad 8)), (1, .ref (ad (48 + 4 * b1))), (2, .ref (ad (3 + a2))), (3, .int (xw_i c3_61)), (4, .int (xw_i i4_94))] → W p l e (headSpec w_FL_explore ({ frames := 3, cells := 0, slots := 0, locals := 77 })).room s m [.ref (ad 8), .ref (ad (48 + 4 * b1)), .ref (ad (3 + a2))].toArray below meth c H locs 0 0 (MQ below (va_Qi (fun r u => r = xw_i r0 ∧ u = sZ) (xw_H D vwCl A kdC 100 ad cs Z tt) A) [.ref (ad 8), .ref (ad (48 + 4 * b1)), .ref (ad (3 + a2))].toArray s 0 0 A) (F0 m 94 ls [])) h ?_ ?_
          · intro s33 i4_94 h H locs ls hP hS hl
            obtain ⟨v34, e35⟩ : ∃ z, z = i4_94 + 1 := ⟨_, rfl⟩
            replace h := xw_letI e35 h
            refine xw_iinc (lv' := [(4, .int (xw_i v34)), (0, .ref (ad 8)), (1, .ref (ad (48 + 4 * b1))), (2, .ref (ad (3 + a2))), (3, .int (xw_i c3_61))]) hx hb d_FL_explore_94 hl (k := 4) rfl (by decide) (by rw [e35]; rfl) (fun ls hl => ?_)
            refine lv_goto (tgt := 61) hx hb d_FL_explore_97 (by decide) ?_
            exact ih61 s33 v34 h _ _ _ hP hS (lv_sub hl [1, 2, 3, 4, 0] rfl)
          · intro j94 hj94 h
            obtain ⟨hg28, h⟩ := xw_grdI h
            refine xw_if_eq (tgt := 94) hx hb hg28 d_FL_explore_83 (by decide) (fun hc29 => ?_) (fun hc29 => ?_)
            · replace h := xw_ifT hc29 h
              exact hj94 s25 i4_61 h _ _ _ hP hS (lv_sub hl [0, 1, 2, 3, 4] rfl)
            · replace h := xw_ifF hc29 h
              refine lv_aload_n hx hb d_FL_explore_86 rfl (lv_at hl 0 rfl) ?_
              refine lv_aload_n hx hb d_FL_explore_87 rfl (lv_at hl 1 rfl) ?_
              refine lv_iload hx hb d_FL_explore_88 (lv_at hl 4 rfl) ?_
              refine lv_aload_n hx hb d_FL_explore_90 rfl (lv_at hl 2 rfl) ?_
              obtain ⟨s30, hc31, h⟩ := xw_bndI h
              refine xw_callVv (C := "AdviceWeaver$Flow") (T := T_FL) ⟨hx, hb, hml, hown, hts⟩ (c_FL_leave l D A ad cs Z tt fu s25 s30 b1 (by omega) i4_61 a2 (by omega) hc31) (cwV 3 hts (gd_V hw_133 hw_134 hw_135 hw_121 hw_136) rfl rfl rfl (by decide +kernel) ⟨Nat.le_of_ble_eq_true rfl, Nat.le_of_ble_eq_true rfl⟩) hP hK hD hX hS (by decide) kc_Flow (by decide) rfl rfl hl.1 rfl (Nat.le_of_ble_eq_true rfl) d_FL_explore_91 (fun H locs hP hS => ?_)
              exact hj94 s30 i4_61 h _ _ _ hP hS (lv_sub hl [0, 1, 2, 3, 4] rfl)
  have hlp32 : ∀ (k106 : xw_S → Option (xw_S × Int)) (hk106 : ∀ (sq : xw_S), k106 sq = some (sZ, r0) → ∀ (H : Heap) (locs : List Loc) (ls : Array Slot), va_P D vwCl (xw_ws kdC 100 ad cs Z sq) H → va_S A s.heap H locs → lv_has ls 5 [(0, .ref (ad 8)), (1, .ref (ad (48 + 4 * b1)))] → W p l e (headSpec w_FL_explore ({ frames := 3, cells := 0, slots := 0, locals := 77 })).room s m [.ref (ad 8), .ref (ad (48 + 4 * b1)), .ref (ad (3 + a2))].toArray below meth c H locs 0 0 (MQ below (va_Qi (fun r u => r = xw_i r0 ∧ u = sZ) (xw_H D vwCl A kdC 100 ad cs Z tt) A) [.ref (ad 8), .ref (ad (48 + 4 * b1)), .ref (ad (3 + a2))].toArray s 0 0 A) (F0 m 106 ls [])) (n : Nat), ∀ (sq : xw_S) (i3_32 : Int), lp_FL_explore_32 fu b1 a2 k106 n sq i3_32 = some (sZ, r0) → ∀ (H : Heap) (locs : List Loc) (ls : Array Slot), va_P D vwCl (xw_ws kdC 100 ad cs Z sq) H → va_S A s.heap H locs → lv_has ls 5 [(0, .ref (ad 8)), (1, .ref (ad (48 + 4 * b1))), (2, .ref (ad (3 + a2))), (3, .int (xw_i i3_32))] → W p l e (headSpec w_FL_explore ({ frames := 3, cells := 0, slots := 0, locals := 77 })).room s m [.ref (ad 8), .ref (ad (48 + 4 * b1)), .ref (ad (3 + a2))].toArray below meth c H locs 0 0 (MQ below (va_Qi (fun r u => r = xw_i r0 ∧ u = sZ) (xw_H D vwCl A kdC 100 ad cs Z tt) A) [.ref (ad 8), .ref (ad (48 + 4 * b1)), .ref (ad (3 + a2))].toArray s 0 0 A) (F0 m 32 ls []) := by
    intro k106 hk106 n
    induction n with
    | zero =>
      intro sq i3_32 h
      cases (show (none : Option (xw_S × Int)) = some (sZ, r0) from h)
    | succ n ih32 =>
      intro s11 i3_32 h H locs ls hP hS hl
      unfold lp_FL_explore_32 at h
      refine lv_iload_n hx hb d_FL_explore_32 rfl (lv_at hl 3 rfl) ?_
      refine lv_sipush (v := xw_i 841) hx hb d_FL_explore_33 (by decide) ?_
      obtain ⟨hg12, h⟩ := xw_grdI h
      refine xw_icmp_ge (tgt := 106) hx hb hg12 (by decide) d_FL_explore_36 (by decide) (fun hc13 => ?_) (fun hc13 => ?_)
      · replace h := xw_ifT hc13 h
        exact hk106 s11 h _ _ _ hP hS (lv_sub hl [0, 1] rfl)
      · replace h := xw_ifF hc13 h
        refine lv_aload_n hx hb d_FL_explore_39 rfl (lv_at hl 0 rfl) ?_
        refine xw_getI (C := "AdviceWeaver$Flow") (T := T_FL) hx hb hts hin_FL hown hK hP (by decide) kc_Flow (by decide) rfl 1 (by decide) (hts _ hw_101) (fun _ h9 => h9) rfl d_FL_explore_40 ?_
        obtain ⟨hg14, h⟩ := xw_grdI h
        refine xw_if_eq (tgt := 106) hx hb hg14 d_FL_explore_43 (by decide) (fun hc15 => ?_) (fun hc15 => ?_)
        · replace h := xw_ifT hc15 h
          exact hk106 s11 h _ _ _ hP hS (lv_sub hl [0, 1] rfl)
        · replace h := xw_ifF hc15 h
          refine lv_aload_n hx hb d_FL_explore_46 rfl (lv_at hl 0 rfl) ?_
          refine xw_getI (C := "AdviceWeaver$Flow") (T := T_FL) hx hb hts hin_FL hown hK hP (by decide) kc_Flow (by decide) rfl 2 (by decide) (hts _ hw_102) (fun _ h9 => h9) rfl d_FL_explore_47 ?_
          obtain ⟨hg16, h⟩ := xw_grdI h
          refine xw_if_eq (tgt := 106) hx hb hg16 d_FL_explore_50 (by decide) (fun hc17 => ?_) (fun hc17 => ?_)
          · replace h := xw_ifT hc17 h
            exact hk106 s11 h _ _ _ hP hS (lv_sub hl [0, 1] rfl)
          · replace h := xw_ifF hc17 h
            refine lv_aload_n hx hb d_FL_explore_53 rfl (lv_at hl 0 rfl) ?_
            refine lv_iconst (v := xw_i 0) hx hb d_FL_explore_54 rfl ?_
            refine xw_putB (C := "AdviceWeaver$Flow") (T := T_FL) hx hb hts hin_FL ty_FL ty_FL_ok nm_FL hown hK hP hD hS (by decide) kc_Flow (by decide) rfl 1 (by decide) (hts _ hw_101) (fun _ h9 => h9) rfl (by decide +kernel) rfl d_FL_explore_55 (by decide) (fun s18 e19 H locs hP hS => ?_)
            replace h := xw_letI e19 h
            refine lv_iconst (v := xw_i 0) hx hb d_FL_explore_58 rfl ?_
            refine lv_istore hx hb d_FL_explore_59 hl (by decide) rfl (fun ls hl => ?_)
            refine xw_jnI (fun j => ∀ (sq : xw_S) (i3_100 : Int), j sq i3_100 = some (sZ, r0) → ∀ (H : Heap) (locs : List Loc) (ls : Array Slot), va_P D vwCl (xw_ws kdC 100 ad cs Z sq) H → va_S A s.heap H locs → lv_has ls 5 [(0, .ref (ad 8)), (1, .ref (ad (48 + 4 * b1))), (2, .ref (ad (3 + a2))), (3, .int (xw_i i3_100))] → W p l e (headSpec w_FL_explore ({ frames := 3, cells := 0, slots := 0, locals := 77 })).room s m [.ref (ad 8), .ref (ad (48 + 4 * b1)), .ref (ad (3 + a2))].toArray below meth c H locs 0 0 (MQ below (va_Qi (fun r u => r = xw_i r0 ∧ u = sZ) (xw_H D vwCl A kdC 100 ad cs Z tt) A) [.ref (ad 8), .ref (ad (48 + 4 * b1)), .ref (ad (3 + a2))].toArray s 0 0 A) (F0 m 100 ls [])) h ?_ ?_
            · intro s36 i3_100 h H locs ls hP hS hl
              obtain ⟨v37, e38⟩ : ∃ z, z = i3_100 + 1 := ⟨_, rfl⟩
              replace h := xw_letI e38 h
              refine xw_iinc (lv' := [(3, .int (xw_i v37)), (0, .ref (ad 8)), (1, .ref (ad (48 + 4 * b1))), (2, .ref (ad (3 + a2)))]) hx hb d_FL_explore_100 hl (k := 3) rfl (by decide) (by rw [e38]; rfl) (fun ls hl => ?_)
              refine lv_goto (tgt := 32) hx hb d_FL_explore_103 (by decide) ?_
              exact ih32 s36 v37 h _ _ _ hP hS (lv_sub hl [1, 2, 3, 0] rfl)
            · intro k100 hk100 h
              exact hlp61 i3_32 k100 hk100 fu s18 0 h _ _ _ hP hS (lv_sub hl [1, 2, 3, 4, 0] rfl)
  have hlp113 : ∀ (k144 : xw_S → Option (xw_S × Int)) (hk144 : ∀ (sq : xw_S), k144 sq = some (sZ, r0) → ∀ (H : Heap) (locs : List Loc) (ls : Array Slot), va_P D vwCl (xw_ws kdC 100 ad cs Z sq) H → va_S A s.heap H locs → lv_has ls 5 [(0, .ref (ad 8))] → W p l e (headSpec w_FL_explore ({ frames := 3, cells := 0, slots := 0, locals := 77 })).room s m [.ref (ad 8), .ref (ad (48 + 4 * b1)), .ref (ad (3 + a2))].toArray below meth c H locs 0 0 (MQ below (va_Qi (fun r u => r = xw_i r0 ∧ u = sZ) (xw_H D vwCl A kdC 100 ad cs Z tt) A) [.ref (ad 8), .ref (ad (48 + 4 * b1)), .ref (ad (3 + a2))].toArray s 0 0 A) (F0 m 144 ls [])) (n : Nat), ∀ (sq : xw_S) (i3_113 : Int), lp_FL_explore_113 fu b1 a2 k144 n sq i3_113 = some (sZ, r0) → ∀ (H : Heap) (locs : List Loc) (ls : Array Slot), va_P D vwCl (xw_ws kdC 100 ad cs Z sq) H → va_S A s.heap H locs → lv_has ls 5 [(0, .ref (ad 8)), (1, .ref (ad (48 + 4 * b1))), (3, .int (xw_i i3_113))] → W p l e (headSpec w_FL_explore ({ frames := 3, cells := 0, slots := 0, locals := 77 })).room s m [.ref (ad 8), .ref (ad (48 + 4 * b1)), .ref (ad (3 + a2))].toArray below meth c H locs 0 0 (MQ below (va_Qi (fun r u => r = xw_i r0 ∧ u = sZ) (xw_H D vwCl A kdC 100 ad cs Z tt) A) [.ref (ad 8), .ref (ad (48 + 4 * b1)), .ref (ad (3 + a2))].toArray s 0 0 A) (F0 m 113 ls []) := by
    intro k144 hk144 n
    induction n with
    | zero =>
      intro sq i3_113 h
      cases (show (none : Option (xw_S × Int)) = some (sZ, r0) from h)
    | succ n ih113 =>
      intro s42 i3_113 h H locs ls hP hS hl
      unfold lp_FL_explore_113 at h
      refine lv_iload_n hx hb d_FL_explore_113 rfl (lv_at hl 2 rfl) ?_
      refine lv_aload_n hx hb d_FL_explore_114 rfl (lv_at hl 1 rfl) ?_
      refine xw_getI (C := "AdviceWeaver$Body") (T := T_B) hx hb hts hin_B hown hK hP (by omega) (kc_Body b1 (by omega)) (by decide) rfl 8 (by decide) (hts _ hw_132) (fun _ h9 => h9) rfl d_FL_explore_115 ?_
      obtain ⟨hg43, h⟩ := xw_grdI h
      refine xw_icmp_ge (tgt := 144) hx hb hg43.1 hg43.2 d_FL_explore_118 (by decide) (fun hc44 => ?_) (fun hc44 => ?_)
      · replace h := xw_ifT hc44 h
        exact hk144 s42 h _ _ _ hP hS (lv_sub hl [0] rfl)
      · replace h := xw_ifF hc44 h
        refine lv_aload_n hx hb d_FL_explore_121 rfl (lv_at hl 1 rfl) ?_
        refine lv_aload_n hx hb d_FL_explore_122 rfl (lv_at hl 1 rfl) ?_
        refine xw_getI (C := "AdviceWeaver$Body") (T := T_B) hx hb hts hin_B hown hK hP (by omega) (kc_Body b1 (by omega)) (by decide) rfl 11 (by decide) (hts _ hw_137) (fun _ h9 => h9) rfl d_FL_explore_123 ?_
        refine lv_aload_n hx hb d_FL_explore_126 rfl (lv_at hl 1 rfl) ?_
        refine xw_getR (C := "AdviceWeaver$Body") (T := T_B) hx hb hts hin_B hown hK hP (by omega) (kc_Body b1 (by omega)) (by decide) rfl 1 (by decide) (hts _ hw_99) (fun _ h9 => h9) rfl d_FL_explore_127 ?_
        refine lv_iload_n hx hb d_FL_explore_130 rfl (lv_at hl 2 rfl) ?_
        obtain ⟨hg45, h⟩ := xw_grdI h
        refine xw_iald hx hb hK hP (by omega) (kc_bdepths b1 (by omega)) (xb_capL _) hg45 d_FL_explore_131 ?_
        obtain ⟨hg46, h⟩ := xw_grdI h
        refine xw_mmax hx hb (hml.trans hl.1.symm) hown (hts _ hw_138) (hts _ hw_139) (hts _ hw_140) (hts _ hw_141) (Nat.le_of_ble_eq_true rfl) (Nat.le_of_ble_eq_true rfl) hg46.1 hg46.2 d_FL_explore_132 ?_
        refine xw_putI (C := "AdviceWeaver$Body") (T := T_B) hx hb hts hin_B ty_B ty_B_ok nm_B hown hK hP hD hS (by omega) (kc_Body b1 (by omega)) (by decide) rfl 11 (by decide) (hts _ hw_137) (fun _ h9 => h9) rfl (by decide +kernel) rfl d_FL_explore_135 (fun s47 e48 H locs hP hS => ?_)
        replace h := xw_letI e48 h
        obtain ⟨v49, e50⟩ : ∃ z, z = i3_113 + 1 := ⟨_, rfl⟩
        replace h := xw_letI e50 h
        refine xw_iinc (lv' := [(3, .int (xw_i v49)), (0, .ref (ad 8)), (1, .ref (ad (48 + 4 * b1)))]) hx hb d_FL_explore_138 hl (k := 2) rfl (by decide) (by rw [e50]; rfl) (fun ls hl => ?_)
        refine lv_goto (tgt := 113) hx hb d_FL_explore_141 (by decide) ?_
        exact ih113 s47 v49 h _ _ _ hP hS (lv_sub hl [1, 2, 0] rfl)
  unfold f_FL_explore at h
  refine lv_aload_n hx hb d_FL_explore_0 rfl (lv_at hl 1 rfl) ?_
  obtain ⟨s1, r3, hc2, h⟩ := xw_bn2I h
  refine xw_callVi (C := "AdviceWeaver$Body") (T := T_B) ⟨hx, hb, hml, hown, hts⟩ (c_B_findInstructions l D A ad cs Z tt fu s0 s1 b1 (by omega) r3 hc2) (cwV 0 hts (gd_V hw_131 hw_83 hw_84 hw_25 hw_85) rfl rfl rfl (by decide +kernel) ⟨Nat.le_of_ble_eq_true rfl, Nat.le_of_ble_eq_true rfl⟩) hP hK hD hX hS (by omega) (kc_Body b1 (by omega)) (by decide) rfl rfl hl.1 rfl (Nat.le_of_ble_eq_true rfl) d_FL_explore_1 (fun H locs hP hS => ?_)
  refine lv_pop hx hb d_FL_explore_4 rfl ?_
  refine lv_aload_n hx hb d_FL_explore_5 rfl (lv_at hl 0 rfl) ?_
  refine lv_iconst (v := xw_i 0) hx hb d_FL_explore_6 rfl ?_
  refine xw_putB (C := "AdviceWeaver$Flow") (T := T_FL) hx hb hts hin_FL ty_FL ty_FL_ok nm_FL hown hK hP hD hS (by decide) kc_Flow (by decide) rfl 1 (by decide) (hts _ hw_101) (fun _ h9 => h9) rfl (by decide +kernel) rfl d_FL_explore_7 (by decide) (fun s4 e5 H locs hP hS => ?_)
  replace h := xw_letI e5 h
  refine lv_aload_n hx hb d_FL_explore_10 rfl (lv_at hl 0 rfl) ?_
  refine lv_iconst (v := xw_i 1) hx hb d_FL_explore_11 rfl ?_
  refine xw_putB (C := "AdviceWeaver$Flow") (T := T_FL) hx hb hts hin_FL ty_FL ty_FL_ok nm_FL hown hK hP hD hS (by decide) kc_Flow (by decide) rfl 2 (by decide) (hts _ hw_102) (fun _ h9 => h9) rfl (by decide +kernel) rfl d_FL_explore_12 (by decide) (fun s6 e7 H locs hP hS => ?_)
  replace h := xw_letI e7 h
  refine lv_aload_n hx hb d_FL_explore_15 rfl (lv_at hl 0 rfl) ?_
  refine lv_aload_n hx hb d_FL_explore_16 rfl (lv_at hl 1 rfl) ?_
  refine lv_iconst (v := xw_i 0) hx hb d_FL_explore_17 rfl ?_
  refine lv_iconst (v := xw_i 0) hx hb d_FL_explore_18 rfl ?_
  refine lv_iconst (v := xw_i 1) hx hb d_FL_explore_19 rfl ?_
  refine lv_aload_n hx hb d_FL_explore_20 rfl (lv_at hl 1 rfl) ?_
  refine xw_getI (C := "AdviceWeaver$Body") (T := T_B) hx hb hts hin_B hown hK hP (by omega) (kc_Body b1 (by omega)) (by decide) rfl 5 (by decide) (hts _ hw_109) (fun _ h9 => h9) rfl d_FL_explore_21 ?_
  refine xw_ishl hx hb d_FL_explore_24 ?_
  refine lv_iconst (v := xw_i 1) hx hb d_FL_explore_25 rfl ?_
  refine xw_isub hx hb d_FL_explore_26 ?_
  obtain ⟨s8, hc9, h⟩ := xw_bndI h
  refine xw_callVv (C := "AdviceWeaver$Flow") (T := T_FL) ⟨hx, hb, hml, hown, hts⟩ (c_FL_arrive l D A ad cs Z tt fu s6 s8 b1 (by omega) 0 0 ((xw_hl 1 (s6.1 (48 + 4 * b1) 5)) - 1) hc9) (cwV 4 hts (gd_V hw_118 hw_119 hw_120 hw_121 hw_122) rfl rfl rfl (by decide +kernel) ⟨Nat.le_of_ble_eq_true rfl, Nat.le_of_ble_eq_true rfl⟩) hP hK hD hX hS (by decide) kc_Flow (by decide) rfl rfl hl.1 rfl (Nat.le_of_ble_eq_true rfl) d_FL_explore_27 (fun H locs hP hS => ?_)
  refine lv_iconst (v := xw_i 0) hx hb d_FL_explore_30 rfl ?_
  refine lv_istore_n hx hb d_FL_explore_31 rfl hl (by decide) rfl (fun ls hl => ?_)
  refine xw_jnI (fun j => ∀ (sq : xw_S), j sq = some (sZ, r0) → ∀ (H : Heap) (locs : List Loc) (ls : Array Slot), va_P D vwCl (xw_ws kdC 100 ad cs Z sq) H → va_S A s.heap H locs → lv_has ls 5 [(0, .ref (ad 8)), (1, .ref (ad (48 + 4 * b1)))] → W p l e (headSpec w_FL_explore ({ frames := 3, cells := 0, slots := 0, locals := 77 })).room s m [.ref (ad 8), .ref (ad (48 + 4 * b1)), .ref (ad (3 + a2))].toArray below meth c H locs 0 0 (MQ below (va_Qi (fun r u => r = xw_i r0 ∧ u = sZ) (xw_H D vwCl A kdC 100 ad cs Z tt) A) [.ref (ad 8), .ref (ad (48 + 4 * b1)), .ref (ad (3 + a2))].toArray s 0 0 A) (F0 m 106 ls [])) h ?_ ?_
  · intro s39 h H locs ls hP hS hl
    refine lv_aload_n hx hb d_FL_explore_106 rfl (lv_at hl 1 rfl) ?_
    refine lv_iconst (v := xw_i 0) hx hb d_FL_explore_107 rfl ?_
    refine xw_putI (C := "AdviceWeaver$Body") (T := T_B) hx hb hts hin_B ty_B ty_B_ok nm_B hown hK hP hD hS (by omega) (kc_Body b1 (by omega)) (by decide) rfl 11 (by decide) (hts _ hw_137) (fun _ h9 => h9) rfl (by decide +kernel) rfl d_FL_explore_108 (fun s40 e41 H locs hP hS => ?_)
    replace h := xw_letI e41 h
    refine lv_iconst (v := xw_i 0) hx hb d_FL_explore_111 rfl ?_
    refine lv_istore_n hx hb d_FL_explore_112 rfl hl (by decide) rfl (fun ls hl => ?_)
    refine xw_jnI (fun j => ∀ (sq : xw_S), j sq = some (sZ, r0) → ∀ (H : Heap) (locs : List Loc) (ls : Array Slot), va_P D vwCl (xw_ws kdC 100 ad cs Z sq) H → va_S A s.heap H locs → lv_has ls 5 [(0, .ref (ad 8))] → W p l e (headSpec w_FL_explore ({ frames := 3, cells := 0, slots := 0, locals := 77 })).room s m [.ref (ad 8), .ref (ad (48 + 4 * b1)), .ref (ad (3 + a2))].toArray below meth c H locs 0 0 (MQ below (va_Qi (fun r u => r = xw_i r0 ∧ u = sZ) (xw_H D vwCl A kdC 100 ad cs Z tt) A) [.ref (ad 8), .ref (ad (48 + 4 * b1)), .ref (ad (3 + a2))].toArray s 0 0 A) (F0 m 144 ls [])) h ?_ ?_
    · intro s51 h H locs ls hP hS hl
      refine lv_aload_n hx hb d_FL_explore_144 rfl (lv_at hl 0 rfl) ?_
      refine xw_getI (C := "AdviceWeaver$Flow") (T := T_FL) hx hb hts hin_FL hown hK hP (by decide) kc_Flow (by decide) rfl 2 (by decide) (hts _ hw_102) (fun _ h9 => h9) rfl d_FL_explore_145 ?_
      obtain ⟨hg52, h⟩ := xw_grdI h
      exact xw_zretE hx hb hr hlk hP hK hD hX hS h hg52 d_FL_explore_148
    · intro k144 hk144 h
      exact hlp113 k144 hk144 fu s40 0 h _ _ _ hP hS (lv_sub hl [1, 2, 0] rfl)
  · intro k106 hk106 h
    exact hlp32 k106 hk106 fu s8 0 h _ _ _ hP hS (lv_sub hl [1, 2, 3, 0] rfl)
