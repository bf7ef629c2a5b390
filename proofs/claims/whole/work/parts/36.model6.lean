/-! the reference, piece 6 -/
theorem d_MD_one_0 : decode b_MD_one 0 = .ok (.aload_n 0, 1) := by decide +kernel
theorem d_MD_one_1 : decode b_MD_one 1 = .ok (.getfield 210, 3) := by decide +kernel
theorem d_MD_one_4 : decode b_MD_one 4 = .ok (.iconst 1, 1) := by decide +kernel
theorem d_MD_one_5 : decode b_MD_one 5 = .ok (.isub, 1) := by decide +kernel
theorem d_MD_one_6 : decode b_MD_one 6 = .ok (.istore_n 2, 1) := by decide +kernel
theorem d_MD_one_7 : decode b_MD_one 7 = .ok (.aload_n 0, 1) := by decide +kernel
theorem d_MD_one_8 : decode b_MD_one 8 = .ok (.getfield 75, 3) := by decide +kernel
theorem d_MD_one_11 : decode b_MD_one 11 = .ok (.iload_n 2, 1) := by decide +kernel
theorem d_MD_one_12 : decode b_MD_one 12 = .ok (.iaload, 1) := by decide +kernel
theorem d_MD_one_13 : decode b_MD_one 13 = .ok (.istore_n 3, 1) := by decide +kernel
theorem d_MD_one_14 : decode b_MD_one 14 = .ok (.aload_n 0, 1) := by decide +kernel
theorem d_MD_one_15 : decode b_MD_one 15 = .ok (.iload_n 3, 1) := by decide +kernel
theorem d_MD_one_16 : decode b_MD_one 16 = .ok (.aload_n 0, 1) := by decide +kernel
theorem d_MD_one_17 : decode b_MD_one 17 = .ok (.getfield 78, 3) := by decide +kernel
theorem d_MD_one_20 : decode b_MD_one 20 = .ok (.iload_n 2, 1) := by decide +kernel
theorem d_MD_one_21 : decode b_MD_one 21 = .ok (.iaload, 1) := by decide +kernel
theorem d_MD_one_22 : decode b_MD_one 22 = .ok (.invokevirtual 104, 3) := by decide +kernel
theorem d_MD_one_25 : decode b_MD_one 25 = .ok (.istore 4, 2) := by decide +kernel
theorem d_MD_one_27 : decode b_MD_one 27 = .ok (.iload 4, 2) := by decide +kernel
theorem d_MD_one_29 : decode b_MD_one 29 = .ok (.bipush 30, 2) := by decide +kernel
theorem d_MD_one_31 : decode b_MD_one 31 = .ok (.if_icmp .ge 17, 3) := by decide +kernel
theorem d_MD_one_34 : decode b_MD_one 34 = .ok (.aload_n 0, 1) := by decide +kernel
theorem d_MD_one_35 : decode b_MD_one 35 = .ok (.getfield 235, 3) := by decide +kernel
theorem d_MD_one_38 : decode b_MD_one 38 = .ok (.iload_n 1, 1) := by decide +kernel
theorem d_MD_one_39 : decode b_MD_one 39 = .ok (.if_icmp .ne 9, 3) := by decide +kernel
theorem d_MD_one_42 : decode b_MD_one 42 = .ok (.aload_n 0, 1) := by decide +kernel
theorem d_MD_one_43 : decode b_MD_one 43 = .ok (.iconst 2, 1) := by decide +kernel
theorem d_MD_one_44 : decode b_MD_one 44 = .ok (.putfield 216, 3) := by decide +kernel
theorem d_MD_one_47 : decode b_MD_one 47 = .ok (.return_, 1) := by decide +kernel
theorem d_MD_one_48 : decode b_MD_one 48 = .ok (.aload_n 0, 1) := by decide +kernel
theorem d_MD_one_49 : decode b_MD_one 49 = .ok (.iload 4, 2) := by decide +kernel
theorem d_MD_one_51 : decode b_MD_one 51 = .ok (.bipush 30, 2) := by decide +kernel
theorem d_MD_one_53 : decode b_MD_one 53 = .ok (.if_icmp .ge 12, 3) := by decide +kernel
theorem d_MD_one_56 : decode b_MD_one 56 = .ok (.aload_n 0, 1) := by decide +kernel
theorem d_MD_one_57 : decode b_MD_one 57 = .ok (.getfield 235, 3) := by decide +kernel
theorem d_MD_one_60 : decode b_MD_one 60 = .ok (.iconst 1, 1) := by decide +kernel
theorem d_MD_one_61 : decode b_MD_one 61 = .ok (.iadd, 1) := by decide +kernel
theorem d_MD_one_62 : decode b_MD_one 62 = .ok (.goto 7, 3) := by decide +kernel
theorem d_MD_one_65 : decode b_MD_one 65 = .ok (.aload_n 0, 1) := by decide +kernel
theorem d_MD_one_66 : decode b_MD_one 66 = .ok (.getfield 235, 3) := by decide +kernel
theorem d_MD_one_69 : decode b_MD_one 69 = .ok (.putfield 235, 3) := by decide +kernel
theorem d_MD_one_72 : decode b_MD_one 72 = .ok (.iload 4, 2) := by decide +kernel
theorem d_MD_one_74 : decode b_MD_one 74 = .ok (.invokestatic 119, 3) := by decide +kernel
theorem d_MD_one_77 : decode b_MD_one 77 = .ok (.ifCond .eq 14, 3) := by decide +kernel
theorem d_MD_one_80 : decode b_MD_one 80 = .ok (.aload_n 0, 1) := by decide +kernel
theorem d_MD_one_81 : decode b_MD_one 81 = .ok (.iload_n 3, 1) := by decide +kernel
theorem d_MD_one_82 : decode b_MD_one 82 = .ok (.iload_n 2, 1) := by decide +kernel
theorem d_MD_one_83 : decode b_MD_one 83 = .ok (.iload 4, 2) := by decide +kernel
theorem d_MD_one_85 : decode b_MD_one 85 = .ok (.invokevirtual 238, 3) := by decide +kernel
theorem d_MD_one_88 : decode b_MD_one 88 = .ok (.goto 109, 3) := by decide +kernel
theorem d_MD_one_91 : decode b_MD_one 91 = .ok (.iload 4, 2) := by decide +kernel
theorem d_MD_one_93 : decode b_MD_one 93 = .ok (.iconst 4, 1) := by decide +kernel
theorem d_MD_one_94 : decode b_MD_one 94 = .ok (.if_icmp .lt 19, 3) := by decide +kernel
theorem d_MD_one_97 : decode b_MD_one 97 = .ok (.iload 4, 2) := by decide +kernel
theorem d_MD_one_99 : decode b_MD_one 99 = .ok (.bipush 7, 2) := by decide +kernel
theorem d_MD_one_101 : decode b_MD_one 101 = .ok (.if_icmp .gt 12, 3) := by decide +kernel
theorem d_MD_one_104 : decode b_MD_one 104 = .ok (.aload_n 0, 1) := by decide +kernel
theorem d_MD_one_105 : decode b_MD_one 105 = .ok (.iload 4, 2) := by decide +kernel
theorem d_MD_one_107 : decode b_MD_one 107 = .ok (.invokevirtual 242, 3) := by decide +kernel
theorem d_MD_one_110 : decode b_MD_one 110 = .ok (.goto 87, 3) := by decide +kernel
theorem d_MD_one_113 : decode b_MD_one 113 = .ok (.iload 4, 2) := by decide +kernel
theorem d_MD_one_115 : decode b_MD_one 115 = .ok (.bipush 13, 2) := by decide +kernel
theorem d_MD_one_117 : decode b_MD_one 117 = .ok (.if_icmp .ne 29, 3) := by decide +kernel
theorem d_MD_one_120 : decode b_MD_one 120 = .ok (.aload_n 0, 1) := by decide +kernel
theorem d_MD_one_121 : decode b_MD_one 121 = .ok (.iload_n 3, 1) := by decide +kernel
theorem d_MD_one_122 : decode b_MD_one 122 = .ok (.iconst 4, 1) := by decide +kernel
theorem d_MD_one_123 : decode b_MD_one 123 = .ok (.idiv, 1) := by decide +kernel
theorem d_MD_one_124 : decode b_MD_one 124 = .ok (.iconst 4, 1) := by decide +kernel
theorem d_MD_one_125 : decode b_MD_one 125 = .ok (.imul, 1) := by decide +kernel
theorem d_MD_one_126 : decode b_MD_one 126 = .ok (.aload_n 0, 1) := by decide +kernel
theorem d_MD_one_127 : decode b_MD_one 127 = .ok (.iload_n 3, 1) := by decide +kernel
theorem d_MD_one_128 : decode b_MD_one 128 = .ok (.aload_n 0, 1) := by decide +kernel
theorem d_MD_one_129 : decode b_MD_one 129 = .ok (.getfield 78, 3) := by decide +kernel
theorem d_MD_one_132 : decode b_MD_one 132 = .ok (.iload_n 2, 1) := by decide +kernel
theorem d_MD_one_133 : decode b_MD_one 133 = .ok (.iaload, 1) := by decide +kernel
theorem d_MD_one_134 : decode b_MD_one 134 = .ok (.iconst 1, 1) := by decide +kernel
theorem d_MD_one_135 : decode b_MD_one 135 = .ok (.iadd, 1) := by decide +kernel
theorem d_MD_one_136 : decode b_MD_one 136 = .ok (.invokevirtual 104, 3) := by decide +kernel
theorem d_MD_one_139 : decode b_MD_one 139 = .ok (.iadd, 1) := by decide +kernel
theorem d_MD_one_140 : decode b_MD_one 140 = .ok (.invokevirtual 245, 3) := by decide +kernel
theorem d_MD_one_143 : decode b_MD_one 143 = .ok (.goto 54, 3) := by decide +kernel
theorem d_MD_one_146 : decode b_MD_one 146 = .ok (.iload 4, 2) := by decide +kernel
theorem d_MD_one_148 : decode b_MD_one 148 = .ok (.bipush 14, 2) := by decide +kernel
theorem d_MD_one_150 : decode b_MD_one 150 = .ok (.if_icmp .ne 14, 3) := by decide +kernel
theorem d_MD_one_153 : decode b_MD_one 153 = .ok (.aload_n 0, 1) := by decide +kernel
theorem d_MD_one_154 : decode b_MD_one 154 = .ok (.aload_n 0, 1) := by decide +kernel
theorem d_MD_one_155 : decode b_MD_one 155 = .ok (.invokevirtual 222, 3) := by decide +kernel
theorem d_MD_one_158 : decode b_MD_one 158 = .ok (.invokevirtual 248, 3) := by decide +kernel
theorem d_MD_one_161 : decode b_MD_one 161 = .ok (.goto 36, 3) := by decide +kernel
theorem d_MD_one_164 : decode b_MD_one 164 = .ok (.iload 4, 2) := by decide +kernel
theorem d_MD_one_166 : decode b_MD_one 166 = .ok (.bipush 15, 2) := by decide +kernel
theorem d_MD_one_168 : decode b_MD_one 168 = .ok (.if_icmp .eq 10, 3) := by decide +kernel
theorem d_MD_one_171 : decode b_MD_one 171 = .ok (.iload 4, 2) := by decide +kernel
theorem d_MD_one_173 : decode b_MD_one 173 = .ok (.bipush 32, 2) := by decide +kernel
theorem d_MD_one_175 : decode b_MD_one 175 = .ok (.if_icmp .ne 14, 3) := by decide +kernel
theorem d_MD_one_178 : decode b_MD_one 178 = .ok (.aload_n 0, 1) := by decide +kernel
theorem d_MD_one_179 : decode b_MD_one 179 = .ok (.aload_n 0, 1) := by decide +kernel
theorem d_MD_one_180 : decode b_MD_one 180 = .ok (.invokevirtual 222, 3) := by decide +kernel
theorem d_MD_one_183 : decode b_MD_one 183 = .ok (.invokevirtual 226, 3) := by decide +kernel
theorem d_MD_one_186 : decode b_MD_one 186 = .ok (.goto 11, 3) := by decide +kernel
theorem d_MD_one_189 : decode b_MD_one 189 = .ok (.aload_n 0, 1) := by decide +kernel
theorem d_MD_one_190 : decode b_MD_one 190 = .ok (.iload_n 3, 1) := by decide +kernel
theorem d_MD_one_191 : decode b_MD_one 191 = .ok (.iload_n 2, 1) := by decide +kernel
theorem d_MD_one_192 : decode b_MD_one 192 = .ok (.iload 4, 2) := by decide +kernel
theorem d_MD_one_194 : decode b_MD_one 194 = .ok (.invokevirtual 251, 3) := by decide +kernel
theorem d_MD_one_197 : decode b_MD_one 197 = .ok (.return_, 1) := by decide +kernel
theorem d_MD_run_0 : decode b_MD_run 0 = .ok (.iload_n 2, 1) := by decide +kernel
theorem d_MD_run_1 : decode b_MD_run 1 = .ok (.iconst 0, 1) := by decide +kernel
theorem d_MD_run_2 : decode b_MD_run 2 = .ok (.aload_n 0, 1) := by decide +kernel
theorem d_MD_run_3 : decode b_MD_run 3 = .ok (.getfield 179, 3) := by decide +kernel
theorem d_MD_run_6 : decode b_MD_run 6 = .ok (.iconst 1, 1) := by decide +kernel
theorem d_MD_run_7 : decode b_MD_run 7 = .ok (.isub, 1) := by decide +kernel
theorem d_MD_run_8 : decode b_MD_run 8 = .ok (.invokestatic 96, 3) := by decide +kernel
theorem d_MD_run_11 : decode b_MD_run 11 = .ok (.ifCond .ne 26, 3) := by decide +kernel
theorem d_MD_run_14 : decode b_MD_run 14 = .ok (.iload 5, 2) := by decide +kernel
theorem d_MD_run_16 : decode b_MD_run 16 = .ok (.iconst 1, 1) := by decide +kernel
theorem d_MD_run_17 : decode b_MD_run 17 = .ok (.sipush 1000, 3) := by decide +kernel
theorem d_MD_run_20 : decode b_MD_run 20 = .ok (.invokestatic 96, 3) := by decide +kernel
theorem d_MD_run_23 : decode b_MD_run 23 = .ok (.ifCond .ne 14, 3) := by decide +kernel
theorem d_MD_run_26 : decode b_MD_run 26 = .ok (.iload_n 1, 1) := by decide +kernel
theorem d_MD_run_27 : decode b_MD_run 27 = .ok (.ifCond .eq 12, 3) := by decide +kernel
theorem d_MD_run_30 : decode b_MD_run 30 = .ok (.aload_n 0, 1) := by decide +kernel
theorem d_MD_run_31 : decode b_MD_run 31 = .ok (.getfield 182, 3) := by decide +kernel
theorem d_MD_run_34 : decode b_MD_run 34 = .ok (.ifCond .ne 5, 3) := by decide +kernel
theorem d_MD_run_37 : decode b_MD_run 37 = .ok (.iconst (-1), 1) := by decide +kernel
theorem d_MD_run_38 : decode b_MD_run 38 = .ok (.ireturn, 1) := by decide +kernel
theorem d_MD_run_39 : decode b_MD_run 39 = .ok (.aload_n 0, 1) := by decide +kernel
theorem d_MD_run_40 : decode b_MD_run 40 = .ok (.iconst 0, 1) := by decide +kernel
theorem d_MD_run_41 : decode b_MD_run 41 = .ok (.putfield 210, 3) := by decide +kernel
theorem d_MD_run_44 : decode b_MD_run 44 = .ok (.aload_n 0, 1) := by decide +kernel
theorem d_MD_run_45 : decode b_MD_run 45 = .ok (.iconst (-1), 1) := by decide +kernel
theorem d_MD_run_46 : decode b_MD_run 46 = .ok (.putfield 216, 3) := by decide +kernel
theorem d_MD_run_49 : decode b_MD_run 49 = .ok (.aload_n 0, 1) := by decide +kernel
theorem d_MD_run_50 : decode b_MD_run 50 = .ok (.iconst 0, 1) := by decide +kernel
theorem d_MD_run_51 : decode b_MD_run 51 = .ok (.putfield 219, 3) := by decide +kernel
theorem d_MD_run_54 : decode b_MD_run 54 = .ok (.aload_n 0, 1) := by decide +kernel
theorem d_MD_run_55 : decode b_MD_run 55 = .ok (.iconst 0, 1) := by decide +kernel
theorem d_MD_run_56 : decode b_MD_run 56 = .ok (.putfield 235, 3) := by decide +kernel
theorem d_MD_run_59 : decode b_MD_run 59 = .ok (.aload_n 0, 1) := by decide +kernel
theorem d_MD_run_60 : decode b_MD_run 60 = .ok (.iconst 0, 1) := by decide +kernel
theorem d_MD_run_61 : decode b_MD_run 61 = .ok (.putfield 232, 3) := by decide +kernel
theorem d_MD_run_64 : decode b_MD_run 64 = .ok (.iconst 0, 1) := by decide +kernel
theorem d_MD_run_65 : decode b_MD_run 65 = .ok (.istore 6, 2) := by decide +kernel
theorem d_MD_run_67 : decode b_MD_run 67 = .ok (.iload 6, 2) := by decide +kernel
theorem d_MD_run_69 : decode b_MD_run 69 = .ok (.sipush 1024, 3) := by decide +kernel
theorem d_MD_run_72 : decode b_MD_run 72 = .ok (.if_icmp .ge 17, 3) := by decide +kernel
theorem d_MD_run_75 : decode b_MD_run 75 = .ok (.aload_n 0, 1) := by decide +kernel
theorem d_MD_run_76 : decode b_MD_run 76 = .ok (.getfield 93, 3) := by decide +kernel
theorem d_MD_run_79 : decode b_MD_run 79 = .ok (.iload 6, 2) := by decide +kernel
theorem d_MD_run_81 : decode b_MD_run 81 = .ok (.iconst 0, 1) := by decide +kernel
theorem d_MD_run_82 : decode b_MD_run 82 = .ok (.iastore, 1) := by decide +kernel
theorem d_MD_run_83 : decode b_MD_run 83 = .ok (.iinc 6 1, 3) := by decide +kernel
theorem d_MD_run_86 : decode b_MD_run 86 = .ok (.goto (-19), 3) := by decide +kernel
theorem d_MD_run_89 : decode b_MD_run 89 = .ok (.aload_n 0, 1) := by decide +kernel
theorem d_MD_run_90 : decode b_MD_run 90 = .ok (.iload_n 1, 1) := by decide +kernel
theorem d_MD_run_91 : decode b_MD_run 91 = .ok (.ifCond .eq 9, 3) := by decide +kernel
theorem d_MD_run_94 : decode b_MD_run 94 = .ok (.iconst 4, 1) := by decide +kernel
theorem d_MD_run_95 : decode b_MD_run 95 = .ok (.iload_n 2, 1) := by decide +kernel
theorem d_MD_run_96 : decode b_MD_run 96 = .ok (.iadd, 1) := by decide +kernel
theorem d_MD_run_97 : decode b_MD_run 97 = .ok (.goto 4, 3) := by decide +kernel
theorem d_MD_run_100 : decode b_MD_run 100 = .ok (.iload_n 2, 1) := by decide +kernel
theorem d_MD_run_101 : decode b_MD_run 101 = .ok (.invokevirtual 229, 3) := by decide +kernel
theorem d_MD_run_104 : decode b_MD_run 104 = .ok (.aload_n 0, 1) := by decide +kernel
theorem d_MD_run_105 : decode b_MD_run 105 = .ok (.getfield 84, 3) := by decide +kernel
theorem d_MD_run_108 : decode b_MD_run 108 = .ok (.iconst 0, 1) := by decide +kernel
theorem d_MD_run_109 : decode b_MD_run 109 = .ok (.aload_n 0, 1) := by decide +kernel
theorem d_MD_run_110 : decode b_MD_run 110 = .ok (.getfield 16, 3) := by decide +kernel
theorem d_MD_run_113 : decode b_MD_run 113 = .ok (.iload_n 2, 1) := by decide +kernel
theorem d_MD_run_114 : decode b_MD_run 114 = .ok (.iaload, 1) := by decide +kernel
theorem d_MD_run_115 : decode b_MD_run 115 = .ok (.ifCond .le 7, 3) := by decide +kernel
theorem d_MD_run_118 : decode b_MD_run 118 = .ok (.iload_n 3, 1) := by decide +kernel
theorem d_MD_run_119 : decode b_MD_run 119 = .ok (.goto 4, 3) := by decide +kernel
theorem d_MD_run_122 : decode b_MD_run 122 = .ok (.iconst 0, 1) := by decide +kernel
theorem d_MD_run_123 : decode b_MD_run 123 = .ok (.iastore, 1) := by decide +kernel
theorem d_MD_run_124 : decode b_MD_run 124 = .ok (.aload_n 0, 1) := by decide +kernel
theorem d_MD_run_125 : decode b_MD_run 125 = .ok (.getfield 84, 3) := by decide +kernel
theorem d_MD_run_128 : decode b_MD_run 128 = .ok (.iconst 1, 1) := by decide +kernel
theorem d_MD_run_129 : decode b_MD_run 129 = .ok (.aload_n 0, 1) := by decide +kernel
theorem d_MD_run_130 : decode b_MD_run 130 = .ok (.getfield 16, 3) := by decide +kernel
theorem d_MD_run_133 : decode b_MD_run 133 = .ok (.iload_n 2, 1) := by decide +kernel
theorem d_MD_run_134 : decode b_MD_run 134 = .ok (.iaload, 1) := by decide +kernel
theorem d_MD_run_135 : decode b_MD_run 135 = .ok (.iconst 1, 1) := by decide +kernel
theorem d_MD_run_136 : decode b_MD_run 136 = .ok (.if_icmp .le 8, 3) := by decide +kernel
theorem d_MD_run_139 : decode b_MD_run 139 = .ok (.iload 4, 2) := by decide +kernel
theorem d_MD_run_141 : decode b_MD_run 141 = .ok (.goto 4, 3) := by decide +kernel
theorem d_MD_run_144 : decode b_MD_run 144 = .ok (.iconst 0, 1) := by decide +kernel
theorem d_MD_run_145 : decode b_MD_run 145 = .ok (.iastore, 1) := by decide +kernel
theorem d_MD_run_146 : decode b_MD_run 146 = .ok (.iconst 0, 1) := by decide +kernel
theorem d_MD_run_147 : decode b_MD_run 147 = .ok (.istore 6, 2) := by decide +kernel
theorem d_MD_run_149 : decode b_MD_run 149 = .ok (.iload 6, 2) := by decide +kernel
theorem d_MD_run_151 : decode b_MD_run 151 = .ok (.ldc 254, 2) := by decide +kernel
theorem d_MD_run_153 : decode b_MD_run 153 = .ok (.if_icmp .ge 22, 3) := by decide +kernel
theorem d_MD_run_156 : decode b_MD_run 156 = .ok (.aload_n 0, 1) := by decide +kernel
theorem d_MD_run_157 : decode b_MD_run 157 = .ok (.getfield 216, 3) := by decide +kernel
theorem d_MD_run_160 : decode b_MD_run 160 = .ok (.ifCond .ge 15, 3) := by decide +kernel
theorem d_MD_run_163 : decode b_MD_run 163 = .ok (.aload_n 0, 1) := by decide +kernel
theorem d_MD_run_164 : decode b_MD_run 164 = .ok (.iload 5, 2) := by decide +kernel
theorem d_MD_run_166 : decode b_MD_run 166 = .ok (.invokevirtual 255, 3) := by decide +kernel
theorem d_MD_run_169 : decode b_MD_run 169 = .ok (.iinc 6 1, 3) := by decide +kernel
theorem d_MD_run_172 : decode b_MD_run 172 = .ok (.goto (-23), 3) := by decide +kernel
theorem d_MD_run_175 : decode b_MD_run 175 = .ok (.aload_n 0, 1) := by decide +kernel
theorem d_MD_run_176 : decode b_MD_run 176 = .ok (.getfield 216, 3) := by decide +kernel
theorem d_MD_run_179 : decode b_MD_run 179 = .ok (.ireturn, 1) := by decide +kernel
theorem d_MD_value_0 : decode b_MD_value 0 = .ok (.aload_n 0, 1) := by decide +kernel
theorem d_MD_value_1 : decode b_MD_value 1 = .ok (.getfield 219, 3) := by decide +kernel
theorem d_MD_value_4 : decode b_MD_value 4 = .ok (.ireturn, 1) := by decide +kernel
theorem d_MD_used_0 : decode b_MD_used 0 = .ok (.aload_n 0, 1) := by decide +kernel
theorem d_MD_used_1 : decode b_MD_used 1 = .ok (.getfield 235, 3) := by decide +kernel
theorem d_MD_used_4 : decode b_MD_used 4 = .ok (.ireturn, 1) := by decide +kernel
theorem d_MD_marks_0 : decode b_MD_marks 0 = .ok (.aload_n 0, 1) := by decide +kernel
theorem d_MD_marks_1 : decode b_MD_marks 1 = .ok (.getfield 232, 3) := by decide +kernel
theorem d_MD_marks_4 : decode b_MD_marks 4 = .ok (.ireturn, 1) := by decide +kernel
theorem d_MD_mark_0 : decode b_MD_mark 0 = .ok (.iload_n 1, 1) := by decide +kernel
theorem d_MD_mark_1 : decode b_MD_mark 1 = .ok (.iconst 0, 1) := by decide +kernel
theorem d_MD_mark_2 : decode b_MD_mark 2 = .ok (.bipush 99, 2) := by decide +kernel
theorem d_MD_mark_4 : decode b_MD_mark 4 = .ok (.invokestatic 96, 3) := by decide +kernel
theorem d_MD_mark_7 : decode b_MD_mark 7 = .ok (.ifCond .ne 11, 3) := by decide +kernel
theorem d_MD_mark_10 : decode b_MD_mark 10 = .ok (.iload_n 1, 1) := by decide +kernel
theorem d_MD_mark_11 : decode b_MD_mark 11 = .ok (.aload_n 0, 1) := by decide +kernel
theorem d_MD_mark_12 : decode b_MD_mark 12 = .ok (.getfield 232, 3) := by decide +kernel
theorem d_MD_mark_15 : decode b_MD_mark 15 = .ok (.if_icmp .lt 7, 3) := by decide +kernel
theorem d_MD_mark_18 : decode b_MD_mark 18 = .ok (.iconst (-1), 1) := by decide +kernel
theorem d_MD_mark_19 : decode b_MD_mark 19 = .ok (.goto 9, 3) := by decide +kernel
theorem d_MD_mark_22 : decode b_MD_mark 22 = .ok (.aload_n 0, 1) := by decide +kernel
theorem d_MD_mark_23 : decode b_MD_mark 23 = .ok (.getfield 90, 3) := by decide +kernel
theorem d_MD_mark_26 : decode b_MD_mark 26 = .ok (.iload_n 1, 1) := by decide +kernel
theorem d_MD_mark_27 : decode b_MD_mark 27 = .ok (.iaload, 1) := by decide +kernel
theorem d_MD_mark_28 : decode b_MD_mark 28 = .ok (.ireturn, 1) := by decide +kernel
theorem d_MD_probe_0 : decode b_MD_probe 0 = .ok (.iload_n 1, 1) := by decide +kernel
theorem d_MD_probe_1 : decode b_MD_probe 1 = .ok (.iconst 0, 1) := by decide +kernel
theorem d_MD_probe_2 : decode b_MD_probe 2 = .ok (.iconst 3, 1) := by decide +kernel
theorem d_MD_probe_3 : decode b_MD_probe 3 = .ok (.invokestatic 96, 3) := by decide +kernel
theorem d_MD_probe_6 : decode b_MD_probe 6 = .ok (.ifCond .ne 14, 3) := by decide +kernel
theorem d_MD_probe_9 : decode b_MD_probe 9 = .ok (.iload_n 2, 1) := by decide +kernel
theorem d_MD_probe_10 : decode b_MD_probe 10 = .ok (.iconst 0, 1) := by decide +kernel
theorem d_MD_probe_11 : decode b_MD_probe 11 = .ok (.sipush 255, 3) := by decide +kernel
theorem d_MD_probe_14 : decode b_MD_probe 14 = .ok (.invokestatic 96, 3) := by decide +kernel
theorem d_MD_probe_17 : decode b_MD_probe 17 = .ok (.ifCond .eq 7, 3) := by decide +kernel
theorem d_MD_probe_20 : decode b_MD_probe 20 = .ok (.iconst 0, 1) := by decide +kernel
theorem d_MD_probe_21 : decode b_MD_probe 21 = .ok (.goto 15, 3) := by decide +kernel
theorem d_MD_probe_24 : decode b_MD_probe 24 = .ok (.aload_n 0, 1) := by decide +kernel
theorem d_MD_probe_25 : decode b_MD_probe 25 = .ok (.getfield 93, 3) := by decide +kernel
theorem d_MD_probe_28 : decode b_MD_probe 28 = .ok (.sipush 256, 3) := by decide +kernel
theorem d_MD_probe_31 : decode b_MD_probe 31 = .ok (.iload_n 1, 1) := by decide +kernel
theorem d_MD_probe_32 : decode b_MD_probe 32 = .ok (.imul, 1) := by decide +kernel
theorem d_MD_probe_33 : decode b_MD_probe 33 = .ok (.iload_n 2, 1) := by decide +kernel
theorem d_MD_probe_34 : decode b_MD_probe 34 = .ok (.iadd, 1) := by decide +kernel
theorem d_MD_probe_35 : decode b_MD_probe 35 = .ok (.iaload, 1) := by decide +kernel
theorem d_MD_probe_36 : decode b_MD_probe 36 = .ok (.ireturn, 1) := by decide +kernel
theorem d_MD_slot_0 : decode b_MD_slot 0 = .ok (.iload_n 2, 1) := by decide +kernel
theorem d_MD_slot_1 : decode b_MD_slot 1 = .ok (.iconst 0, 1) := by decide +kernel
theorem d_MD_slot_2 : decode b_MD_slot 2 = .ok (.aload_n 0, 1) := by decide +kernel
theorem d_MD_slot_3 : decode b_MD_slot 3 = .ok (.getfield 179, 3) := by decide +kernel
theorem d_MD_slot_6 : decode b_MD_slot 6 = .ok (.iconst 1, 1) := by decide +kernel
theorem d_MD_slot_7 : decode b_MD_slot 7 = .ok (.isub, 1) := by decide +kernel
theorem d_MD_slot_8 : decode b_MD_slot 8 = .ok (.invokestatic 96, 3) := by decide +kernel
theorem d_MD_slot_11 : decode b_MD_slot 11 = .ok (.ifCond .ne 14, 3) := by decide +kernel
theorem d_MD_slot_14 : decode b_MD_slot 14 = .ok (.iload_n 1, 1) := by decide +kernel
theorem d_MD_slot_15 : decode b_MD_slot 15 = .ok (.ifCond .eq 14, 3) := by decide +kernel
theorem d_MD_slot_18 : decode b_MD_slot 18 = .ok (.aload_n 0, 1) := by decide +kernel
theorem d_MD_slot_19 : decode b_MD_slot 19 = .ok (.getfield 182, 3) := by decide +kernel
theorem d_MD_slot_22 : decode b_MD_slot 22 = .ok (.ifCond .ne 7, 3) := by decide +kernel
theorem d_MD_slot_25 : decode b_MD_slot 25 = .ok (.iconst (-1), 1) := by decide +kernel
theorem d_MD_slot_26 : decode b_MD_slot 26 = .ok (.goto 14, 3) := by decide +kernel
theorem d_MD_slot_29 : decode b_MD_slot 29 = .ok (.iload_n 1, 1) := by decide +kernel
theorem d_MD_slot_30 : decode b_MD_slot 30 = .ok (.ifCond .eq 9, 3) := by decide +kernel
theorem d_MD_slot_33 : decode b_MD_slot 33 = .ok (.iconst 4, 1) := by decide +kernel
theorem d_MD_slot_34 : decode b_MD_slot 34 = .ok (.iload_n 2, 1) := by decide +kernel
theorem d_MD_slot_35 : decode b_MD_slot 35 = .ok (.iadd, 1) := by decide +kernel
theorem d_MD_slot_36 : decode b_MD_slot 36 = .ok (.goto 4, 3) := by decide +kernel
theorem d_MD_slot_39 : decode b_MD_slot 39 = .ok (.iload_n 2, 1) := by decide +kernel
theorem d_MD_slot_40 : decode b_MD_slot 40 = .ok (.ireturn, 1) := by decide +kernel
theorem d_MD_shape_0 : decode b_MD_shape 0 = .ok (.aload_n 0, 1) := by decide +kernel
theorem d_MD_shape_1 : decode b_MD_shape 1 = .ok (.iload_n 1, 1) := by decide +kernel
theorem d_MD_shape_2 : decode b_MD_shape 2 = .ok (.iload_n 2, 1) := by decide +kernel
theorem d_MD_shape_3 : decode b_MD_shape 3 = .ok (.invokevirtual 258, 3) := by decide +kernel
theorem d_MD_shape_6 : decode b_MD_shape 6 = .ok (.istore 4, 2) := by decide +kernel
theorem d_MD_shape_8 : decode b_MD_shape 8 = .ok (.iload 4, 2) := by decide +kernel
theorem d_MD_shape_10 : decode b_MD_shape 10 = .ok (.ifCond .lt 12, 3) := by decide +kernel
theorem d_MD_shape_13 : decode b_MD_shape 13 = .ok (.iload_n 3, 1) := by decide +kernel
theorem d_MD_shape_14 : decode b_MD_shape 14 = .ok (.iconst 0, 1) := by decide +kernel
theorem d_MD_shape_15 : decode b_MD_shape 15 = .ok (.iconst 3, 1) := by decide +kernel
theorem d_MD_shape_16 : decode b_MD_shape 16 = .ok (.invokestatic 96, 3) := by decide +kernel
theorem d_MD_shape_19 : decode b_MD_shape 19 = .ok (.ifCond .eq 5, 3) := by decide +kernel
theorem d_MD_shape_22 : decode b_MD_shape 22 = .ok (.iconst (-1), 1) := by decide +kernel
theorem d_MD_shape_23 : decode b_MD_shape 23 = .ok (.ireturn, 1) := by decide +kernel
theorem d_MD_shape_24 : decode b_MD_shape 24 = .ok (.aload_n 0, 1) := by decide +kernel
theorem d_MD_shape_25 : decode b_MD_shape 25 = .ok (.iload 4, 2) := by decide +kernel
theorem d_MD_shape_27 : decode b_MD_shape 27 = .ok (.invokevirtual 176, 3) := by decide +kernel
theorem d_MD_shape_30 : decode b_MD_shape 30 = .ok (.pop, 1) := by decide +kernel
theorem d_MD_shape_31 : decode b_MD_shape 31 = .ok (.iconst 0, 1) := by decide +kernel
theorem d_MD_shape_32 : decode b_MD_shape 32 = .ok (.istore 5, 2) := by decide +kernel
theorem d_MD_shape_34 : decode b_MD_shape 34 = .ok (.iconst 0, 1) := by decide +kernel
theorem d_MD_shape_35 : decode b_MD_shape 35 = .ok (.istore 6, 2) := by decide +kernel
theorem d_MD_shape_37 : decode b_MD_shape 37 = .ok (.iconst 0, 1) := by decide +kernel
theorem d_MD_shape_38 : decode b_MD_shape 38 = .ok (.istore 7, 2) := by decide +kernel
theorem d_MD_shape_40 : decode b_MD_shape 40 = .ok (.iload 7, 2) := by decide +kernel
theorem d_MD_shape_42 : decode b_MD_shape 42 = .ok (.aload_n 0, 1) := by decide +kernel
theorem d_MD_shape_43 : decode b_MD_shape 43 = .ok (.getfield 25, 3) := by decide +kernel
theorem d_MD_shape_46 : decode b_MD_shape 46 = .ok (.iload 4, 2) := by decide +kernel
theorem d_MD_shape_48 : decode b_MD_shape 48 = .ok (.iaload, 1) := by decide +kernel
theorem d_MD_shape_49 : decode b_MD_shape 49 = .ok (.if_icmp .ge 56, 3) := by decide +kernel
theorem d_MD_shape_52 : decode b_MD_shape 52 = .ok (.aload_n 0, 1) := by decide +kernel
theorem d_MD_shape_53 : decode b_MD_shape 53 = .ok (.getfield 50, 3) := by decide +kernel
theorem d_MD_shape_56 : decode b_MD_shape 56 = .ok (.iload 7, 2) := by decide +kernel
theorem d_MD_shape_58 : decode b_MD_shape 58 = .ok (.baload, 1) := by decide +kernel
theorem d_MD_shape_59 : decode b_MD_shape 59 = .ok (.ifCond .eq 10, 3) := by decide +kernel
theorem d_MD_shape_62 : decode b_MD_shape 62 = .ok (.iload 5, 2) := by decide +kernel
theorem d_MD_shape_64 : decode b_MD_shape 64 = .ok (.iconst 1, 1) := by decide +kernel
theorem d_MD_shape_65 : decode b_MD_shape 65 = .ok (.iadd, 1) := by decide +kernel
theorem d_MD_shape_66 : decode b_MD_shape 66 = .ok (.goto 5, 3) := by decide +kernel
theorem d_MD_shape_69 : decode b_MD_shape 69 = .ok (.iload 5, 2) := by decide +kernel
theorem d_MD_shape_71 : decode b_MD_shape 71 = .ok (.istore 5, 2) := by decide +kernel
theorem d_MD_shape_73 : decode b_MD_shape 73 = .ok (.aload_n 0, 1) := by decide +kernel
theorem d_MD_shape_74 : decode b_MD_shape 74 = .ok (.getfield 53, 3) := by decide +kernel
theorem d_MD_shape_77 : decode b_MD_shape 77 = .ok (.iload 7, 2) := by decide +kernel
theorem d_MD_shape_79 : decode b_MD_shape 79 = .ok (.iaload, 1) := by decide +kernel
theorem d_MD_shape_80 : decode b_MD_shape 80 = .ok (.iload 6, 2) := by decide +kernel
theorem d_MD_shape_82 : decode b_MD_shape 82 = .ok (.if_icmp .le 13, 3) := by decide +kernel
theorem d_MD_shape_85 : decode b_MD_shape 85 = .ok (.aload_n 0, 1) := by decide +kernel
theorem d_MD_shape_86 : decode b_MD_shape 86 = .ok (.getfield 53, 3) := by decide +kernel
theorem d_MD_shape_89 : decode b_MD_shape 89 = .ok (.iload 7, 2) := by decide +kernel
theorem d_MD_shape_91 : decode b_MD_shape 91 = .ok (.iaload, 1) := by decide +kernel
theorem d_MD_shape_92 : decode b_MD_shape 92 = .ok (.goto 5, 3) := by decide +kernel
theorem d_MD_shape_95 : decode b_MD_shape 95 = .ok (.iload 6, 2) := by decide +kernel
theorem d_MD_shape_97 : decode b_MD_shape 97 = .ok (.istore 6, 2) := by decide +kernel
theorem d_MD_shape_99 : decode b_MD_shape 99 = .ok (.iinc 7 1, 3) := by decide +kernel
theorem d_MD_shape_102 : decode b_MD_shape 102 = .ok (.goto (-62), 3) := by decide +kernel
theorem d_MD_shape_105 : decode b_MD_shape 105 = .ok (.iload_n 3, 1) := by decide +kernel
theorem d_MD_shape_106 : decode b_MD_shape 106 = .ok (.ifCond .ne 13, 3) := by decide +kernel
theorem d_MD_shape_109 : decode b_MD_shape 109 = .ok (.aload_n 0, 1) := by decide +kernel
theorem d_MD_shape_110 : decode b_MD_shape 110 = .ok (.getfield 25, 3) := by decide +kernel
theorem d_MD_shape_113 : decode b_MD_shape 113 = .ok (.iload 4, 2) := by decide +kernel
theorem d_MD_shape_115 : decode b_MD_shape 115 = .ok (.iaload, 1) := by decide +kernel
theorem d_MD_shape_116 : decode b_MD_shape 116 = .ok (.goto 30, 3) := by decide +kernel
theorem d_MD_shape_119 : decode b_MD_shape 119 = .ok (.iload_n 3, 1) := by decide +kernel
theorem d_MD_shape_120 : decode b_MD_shape 120 = .ok (.iconst 1, 1) := by decide +kernel
theorem d_MD_shape_121 : decode b_MD_shape 121 = .ok (.if_icmp .ne 13, 3) := by decide +kernel
theorem d_MD_shape_124 : decode b_MD_shape 124 = .ok (.aload_n 0, 1) := by decide +kernel
theorem d_MD_shape_125 : decode b_MD_shape 125 = .ok (.getfield 31, 3) := by decide +kernel
theorem d_MD_shape_128 : decode b_MD_shape 128 = .ok (.iload 4, 2) := by decide +kernel
theorem d_MD_shape_130 : decode b_MD_shape 130 = .ok (.iaload, 1) := by decide +kernel
theorem d_MD_shape_131 : decode b_MD_shape 131 = .ok (.goto 15, 3) := by decide +kernel
theorem d_MD_shape_134 : decode b_MD_shape 134 = .ok (.iload_n 3, 1) := by decide +kernel
theorem d_MD_shape_135 : decode b_MD_shape 135 = .ok (.iconst 2, 1) := by decide +kernel
theorem d_MD_shape_136 : decode b_MD_shape 136 = .ok (.if_icmp .ne 8, 3) := by decide +kernel
theorem d_MD_shape_139 : decode b_MD_shape 139 = .ok (.iload 5, 2) := by decide +kernel
theorem d_MD_shape_141 : decode b_MD_shape 141 = .ok (.goto 5, 3) := by decide +kernel
theorem d_MD_shape_144 : decode b_MD_shape 144 = .ok (.iload 6, 2) := by decide +kernel
theorem d_MD_shape_146 : decode b_MD_shape 146 = .ok (.ireturn, 1) := by decide +kernel
theorem d_MD_code_0 : decode b_MD_code 0 = .ok (.aload_n 0, 1) := by decide +kernel
theorem d_MD_code_1 : decode b_MD_code 1 = .ok (.iload_n 1, 1) := by decide +kernel
theorem d_MD_code_2 : decode b_MD_code 2 = .ok (.iload_n 2, 1) := by decide +kernel
theorem d_MD_code_3 : decode b_MD_code 3 = .ok (.invokevirtual 258, 3) := by decide +kernel
theorem d_MD_code_6 : decode b_MD_code 6 = .ok (.istore 4, 2) := by decide +kernel
theorem d_MD_code_8 : decode b_MD_code 8 = .ok (.iload 4, 2) := by decide +kernel
theorem d_MD_code_10 : decode b_MD_code 10 = .ok (.ifCond .lt 20, 3) := by decide +kernel
theorem d_MD_code_13 : decode b_MD_code 13 = .ok (.iload_n 3, 1) := by decide +kernel
theorem d_MD_code_14 : decode b_MD_code 14 = .ok (.iconst 0, 1) := by decide +kernel
theorem d_MD_code_15 : decode b_MD_code 15 = .ok (.aload_n 0, 1) := by decide +kernel
theorem d_MD_code_16 : decode b_MD_code 16 = .ok (.getfield 25, 3) := by decide +kernel
theorem d_MD_code_19 : decode b_MD_code 19 = .ok (.iload 4, 2) := by decide +kernel
theorem d_MD_code_21 : decode b_MD_code 21 = .ok (.iaload, 1) := by decide +kernel
theorem d_MD_code_22 : decode b_MD_code 22 = .ok (.iconst 1, 1) := by decide +kernel
theorem d_MD_code_23 : decode b_MD_code 23 = .ok (.isub, 1) := by decide +kernel
theorem d_MD_code_24 : decode b_MD_code 24 = .ok (.invokestatic 96, 3) := by decide +kernel
theorem d_MD_code_27 : decode b_MD_code 27 = .ok (.ifCond .eq 7, 3) := by decide +kernel
theorem d_MD_code_30 : decode b_MD_code 30 = .ok (.iconst (-1), 1) := by decide +kernel
theorem d_MD_code_31 : decode b_MD_code 31 = .ok (.goto 15, 3) := by decide +kernel
theorem d_MD_code_34 : decode b_MD_code 34 = .ok (.aload_n 0, 1) := by decide +kernel
theorem d_MD_code_35 : decode b_MD_code 35 = .ok (.getfield 28, 3) := by decide +kernel
theorem d_MD_code_38 : decode b_MD_code 38 = .ok (.bipush 120, 2) := by decide +kernel
theorem d_MD_code_40 : decode b_MD_code 40 = .ok (.iload 4, 2) := by decide +kernel
theorem d_MD_code_42 : decode b_MD_code 42 = .ok (.imul, 1) := by decide +kernel
theorem d_MD_code_43 : decode b_MD_code 43 = .ok (.iload_n 3, 1) := by decide +kernel
theorem d_MD_code_44 : decode b_MD_code 44 = .ok (.iadd, 1) := by decide +kernel
theorem d_MD_code_45 : decode b_MD_code 45 = .ok (.iaload, 1) := by decide +kernel
theorem d_MD_code_46 : decode b_MD_code 46 = .ok (.ireturn, 1) := by decide +kernel
theorem d_MD_handler_0 : decode b_MD_handler 0 = .ok (.aload_n 0, 1) := by decide +kernel
theorem d_MD_handler_1 : decode b_MD_handler 1 = .ok (.iload_n 1, 1) := by decide +kernel
theorem d_MD_handler_2 : decode b_MD_handler 2 = .ok (.iload_n 2, 1) := by decide +kernel
theorem d_MD_handler_3 : decode b_MD_handler 3 = .ok (.invokevirtual 258, 3) := by decide +kernel
theorem d_MD_handler_6 : decode b_MD_handler 6 = .ok (.istore 5, 2) := by decide +kernel
theorem d_MD_handler_8 : decode b_MD_handler 8 = .ok (.iload 5, 2) := by decide +kernel
theorem d_MD_handler_10 : decode b_MD_handler 10 = .ok (.ifCond .lt 30, 3) := by decide +kernel
theorem d_MD_handler_13 : decode b_MD_handler 13 = .ok (.iload 4, 2) := by decide +kernel
theorem d_MD_handler_15 : decode b_MD_handler 15 = .ok (.iconst 0, 1) := by decide +kernel
theorem d_MD_handler_16 : decode b_MD_handler 16 = .ok (.iconst 3, 1) := by decide +kernel
theorem d_MD_handler_17 : decode b_MD_handler 17 = .ok (.invokestatic 96, 3) := by decide +kernel
theorem d_MD_handler_20 : decode b_MD_handler 20 = .ok (.ifCond .ne 20, 3) := by decide +kernel
theorem d_MD_handler_23 : decode b_MD_handler 23 = .ok (.iload_n 3, 1) := by decide +kernel
theorem d_MD_handler_24 : decode b_MD_handler 24 = .ok (.iconst 0, 1) := by decide +kernel
theorem d_MD_handler_25 : decode b_MD_handler 25 = .ok (.aload_n 0, 1) := by decide +kernel
theorem d_MD_handler_26 : decode b_MD_handler 26 = .ok (.getfield 31, 3) := by decide +kernel
theorem d_MD_handler_29 : decode b_MD_handler 29 = .ok (.iload 5, 2) := by decide +kernel
theorem d_MD_handler_31 : decode b_MD_handler 31 = .ok (.iaload, 1) := by decide +kernel
theorem d_MD_handler_32 : decode b_MD_handler 32 = .ok (.iconst 1, 1) := by decide +kernel
theorem d_MD_handler_33 : decode b_MD_handler 33 = .ok (.isub, 1) := by decide +kernel
theorem d_MD_handler_34 : decode b_MD_handler 34 = .ok (.invokestatic 96, 3) := by decide +kernel
theorem d_MD_handler_37 : decode b_MD_handler 37 = .ok (.ifCond .eq 7, 3) := by decide +kernel
theorem d_MD_handler_40 : decode b_MD_handler 40 = .ok (.iconst (-1), 1) := by decide +kernel
theorem d_MD_handler_41 : decode b_MD_handler 41 = .ok (.goto 20, 3) := by decide +kernel
theorem d_MD_handler_44 : decode b_MD_handler 44 = .ok (.aload_n 0, 1) := by decide +kernel
theorem d_MD_handler_45 : decode b_MD_handler 45 = .ok (.getfield 34, 3) := by decide +kernel
theorem d_MD_handler_48 : decode b_MD_handler 48 = .ok (.bipush 20, 2) := by decide +kernel
theorem d_MD_handler_50 : decode b_MD_handler 50 = .ok (.iload 5, 2) := by decide +kernel
theorem d_MD_handler_52 : decode b_MD_handler 52 = .ok (.imul, 1) := by decide +kernel
theorem d_MD_handler_53 : decode b_MD_handler 53 = .ok (.iconst 4, 1) := by decide +kernel
theorem d_MD_handler_54 : decode b_MD_handler 54 = .ok (.iload_n 3, 1) := by decide +kernel
theorem d_MD_handler_55 : decode b_MD_handler 55 = .ok (.imul, 1) := by decide +kernel
theorem d_MD_handler_56 : decode b_MD_handler 56 = .ok (.iadd, 1) := by decide +kernel
theorem d_MD_handler_57 : decode b_MD_handler 57 = .ok (.iload 4, 2) := by decide +kernel
theorem d_MD_handler_59 : decode b_MD_handler 59 = .ok (.iadd, 1) := by decide +kernel
theorem d_MD_handler_60 : decode b_MD_handler 60 = .ok (.iaload, 1) := by decide +kernel
theorem d_MD_handler_61 : decode b_MD_handler 61 = .ok (.ireturn, 1) := by decide +kernel
theorem d_MD_depth_0 : decode b_MD_depth 0 = .ok (.aload_n 0, 1) := by decide +kernel
theorem d_MD_depth_1 : decode b_MD_depth 1 = .ok (.iload_n 1, 1) := by decide +kernel
theorem d_MD_depth_2 : decode b_MD_depth 2 = .ok (.iload_n 2, 1) := by decide +kernel
theorem d_MD_depth_3 : decode b_MD_depth 3 = .ok (.invokevirtual 258, 3) := by decide +kernel
theorem d_MD_depth_6 : decode b_MD_depth 6 = .ok (.istore 4, 2) := by decide +kernel
theorem d_MD_depth_8 : decode b_MD_depth 8 = .ok (.iload 4, 2) := by decide +kernel
theorem d_MD_depth_10 : decode b_MD_depth 10 = .ok (.ifCond .lt 20, 3) := by decide +kernel
theorem d_MD_depth_13 : decode b_MD_depth 13 = .ok (.iload_n 3, 1) := by decide +kernel
theorem d_MD_depth_14 : decode b_MD_depth 14 = .ok (.iconst 0, 1) := by decide +kernel
theorem d_MD_depth_15 : decode b_MD_depth 15 = .ok (.aload_n 0, 1) := by decide +kernel
theorem d_MD_depth_16 : decode b_MD_depth 16 = .ok (.getfield 25, 3) := by decide +kernel
theorem d_MD_depth_19 : decode b_MD_depth 19 = .ok (.iload 4, 2) := by decide +kernel
theorem d_MD_depth_21 : decode b_MD_depth 21 = .ok (.iaload, 1) := by decide +kernel
theorem d_MD_depth_22 : decode b_MD_depth 22 = .ok (.iconst 1, 1) := by decide +kernel
theorem d_MD_depth_23 : decode b_MD_depth 23 = .ok (.isub, 1) := by decide +kernel
theorem d_MD_depth_24 : decode b_MD_depth 24 = .ok (.invokestatic 96, 3) := by decide +kernel
theorem d_MD_depth_27 : decode b_MD_depth 27 = .ok (.ifCond .eq 5, 3) := by decide +kernel
theorem d_MD_depth_30 : decode b_MD_depth 30 = .ok (.iconst (-1), 1) := by decide +kernel
theorem d_MD_depth_31 : decode b_MD_depth 31 = .ok (.ireturn, 1) := by decide +kernel
theorem d_MD_depth_32 : decode b_MD_depth 32 = .ok (.aload_n 0, 1) := by decide +kernel
theorem d_MD_depth_33 : decode b_MD_depth 33 = .ok (.iload 4, 2) := by decide +kernel
theorem d_MD_depth_35 : decode b_MD_depth 35 = .ok (.invokevirtual 176, 3) := by decide +kernel
theorem d_MD_depth_38 : decode b_MD_depth 38 = .ok (.pop, 1) := by decide +kernel
theorem d_MD_depth_39 : decode b_MD_depth 39 = .ok (.aload_n 0, 1) := by decide +kernel
theorem d_MD_depth_40 : decode b_MD_depth 40 = .ok (.getfield 53, 3) := by decide +kernel
theorem d_MD_depth_43 : decode b_MD_depth 43 = .ok (.iload_n 3, 1) := by decide +kernel
theorem d_MD_depth_44 : decode b_MD_depth 44 = .ok (.iaload, 1) := by decide +kernel
theorem d_MD_depth_45 : decode b_MD_depth 45 = .ok (.ireturn, 1) := by decide +kernel
def f_MD_one (fu : Nat) (s0 : xw_S) (p1 : Int) : Option xw_S :=
 xw_let ((s0.1 0 31) - 1) (fun v1 => xw_grd ((0 ≤ v1 ∧ v1 < ((8 : Nat) : Int))) (xw_let (s0.1 22 (v1).toNat) (fun v4 => xw_bn2 (f_MD_op fu s0 v4 (s0.1 23 (v1).toNat)) (fun s6 r8 => xw_jn (fun (s15 : xw_S) (i2_48 : Int) (i3_48 : Int) (i4_48 : Int) => xw_jn (fun (s18 : xw_S) (i2_69 : Int) (i3_69 : Int) (i4_69 : Int) (t0_69 : Int) => xw_let (xw_st s18 0 39 t0_69) (fun s19 => xw_bn2 (f_MD_branches fu s19 i4_69) (fun s21 r23 => xw_grd (xw_r r23) (xw_if (r23 = 0) (xw_jn (fun (s32 : xw_S) (i2_113 : Int) (i3_113 : Int) (i4_113 : Int) => xw_grd (xw_r i4_113) (xw_if (i4_113 = 13) (xw_grd ((0 ≤ i2_113 ∧ i2_113 < ((8 : Nat) : Int))) (xw_bn2 (f_MD_op fu s32 i3_113 ((s32.1 23 (i2_113).toNat) + 1)) (fun s55 r57 => xw_bnd (f_MD_call fu s55 (((xw_dv i3_113 4) * 4) + r57)) (fun s58 => some s58))))
 (xw_if (i4_113 = 14) (xw_bn2 (f_MD_pop fu s32) (fun s48 r50 => xw_bnd (f_MD_giveBack fu s48 r50) (fun s51 => some s51)))
 (xw_jn (fun (s41 : xw_S) => xw_bn2 (f_MD_pop fu s41) (fun s42 r44 => xw_bnd (f_MD_raise fu s42 r44) (fun s45 => some s45)))
 (fun (j178 : xw_S → Option xw_S) => xw_if (i4_113 = 15) (j178 s32)
 (xw_if (i4_113 = 32) (j178 s32)
 (xw_bnd (f_MD_plain fu s32 i3_113 i2_113 i4_113) (fun s38 => some s38))))))))
 (fun (j113 : xw_S → Int → Int → Int → Option xw_S) => xw_grd (xw_r i4_69) (xw_if (i4_69 < 4) (j113 s21 i2_69 i3_69 i4_69)
 (xw_if (7 < i4_69) (j113 s21 i2_69 i3_69 i4_69)
 (xw_bnd (f_MD_calculate fu s21 i4_69) (fun s29 => some s29))))))
 (xw_bnd (f_MD_branch fu s21 i3_69 i2_69 i4_69) (fun s61 => some s61))))))
 (fun (j69 : xw_S → Int → Int → Int → Int → Option xw_S) => xw_grd (xw_r i4_48) (xw_if (30 ≤ i4_48) (j69 s15 i2_48 i3_48 i4_48 (s15.1 0 39))
 (j69 s15 i2_48 i3_48 i4_48 ((s15.1 0 39) + 1)))))
 (fun (j48 : xw_S → Int → Int → Int → Option xw_S) => xw_grd (xw_r r8) (xw_if (30 ≤ r8) (j48 s6 v1 v4 r8)
 (xw_grd (xw_r (s6.1 0 39) ∧ xw_r p1) (xw_if (s6.1 0 39 = p1) (xw_let (xw_st s6 0 37 2) (fun s13 => some s13))
 (j48 s6 v1 v4 r8)))))))))
set_option maxRecDepth 100000 in
set_option maxHeartbeats 4000000 in
theorem c_MD_one (l : Launch) (D : va_G) (A : Nat → Prop) (ad : Nat → Nat) (cs : Nat → ClassId) (Z : va_W) (tt : Nat → Nat) (fu : Nat) (s0 sZ : xw_S) (p1 : Int) (h : f_MD_one fu s0 p1 = some sZ) : Met l y_MD_one w_MD_one ({ frames := 3, cells := 0, slots := 0, locals := 69 }) (va_Pc [.ref (ad 0), .int (xw_i p1)] (xw_H D vwCl A kdR 29 ad cs Z tt s0)) (va_Qv (fun u => u = sZ) (xw_H D vwCl A kdR 29 ad cs Z tt) A) 0 0 A := by
  refine Met.ofW (cc := b_MD_one) (maxL := 5) (ret := none) (by decide) rfl ?_
  intro p e s m args below meth c s₁ B hml hv
  obtain ⟨rfl, hP, hK, hD, hX⟩ := hv
  have hx := B.exec
  have hb := B.bytes
  have hr := B.returns
  have hts0 := atoms_spec (ws := w_MD_one) B.pre
  have hts := fun w (hw : w ∈ wAll) => hts0 w (List.mem_cons_of_mem _ hw)
  have hown : s.vm.findClass "AdviceWeaverModel" = some m.cls := findClass_of_methodNamed B.named
  have hlk := B.notSynchronized
  clear hts0 B
  have hS : va_S A s.heap s.heap [] := va_S.rf
  have hl := lv_entry [.ref (ad 0), .int (xw_i p1)] (n := 5) (Nat.le_of_ble_eq_true rfl)
  rw [lg_entry_eq]
  generalize (lg_sl [.ref (ad 0), .int (xw_i p1)] ++ List.replicate (5 - (lg_sl [.ref (ad 0), .int (xw_i p1)]).length) Slot.unset).toArray = ls at hl ⊢
  have hl : lv_has ls 5 [(0, .ref (ad 0)), (1, .int (xw_i p1))] := hl
  unfold f_MD_one at h
  refine lv_aload_n hx hb d_MD_one_0 rfl (lv_at hl 0 rfl) ?_
  refine xw_getI (C := "AdviceWeaverModel") (T := T_MD) hx hb hts hin_MD hown hK hP (by decide) kr_MD (by decide) rfl 31 (by decide) (hts _ hw_555) (fun _ h9 => h9) rfl d_MD_one_1 ?_
  refine lv_iconst (v := xw_i 1) hx hb d_MD_one_4 rfl ?_
  refine xw_isub hx hb d_MD_one_5 ?_
  refine xw_topi (fun v1 e2 => ?_)
  replace h := xw_letI e2 h
  refine lv_istore_n hx hb d_MD_one_6 rfl hl (by decide) rfl (fun ls hl => ?_)
  refine lv_aload_n hx hb d_MD_one_7 rfl (lv_at hl 1 rfl) ?_
  refine xw_getR (C := "AdviceWeaverModel") (T := T_MD) hx hb hts hin_MD hown hK hP (by decide) kr_MD (by decide) rfl 32 (by decide) (hts _ hw_554) (fun _ h9 => h9) rfl d_MD_one_8 ?_
  refine lv_iload_n hx hb d_MD_one_11 rfl (lv_at hl 0 rfl) ?_
  obtain ⟨hg3, h⟩ := xw_grdI h
  refine xw_iald hx hb hK hP (by decide) kr_m_method (by decide) hg3 d_MD_one_12 ?_
  refine xw_topi (fun v4 e5 => ?_)
  replace h := xw_letI e5 h
  refine lv_istore_n hx hb d_MD_one_13 rfl hl (by decide) rfl (fun ls hl => ?_)
  refine lv_aload_n hx hb d_MD_one_14 rfl (lv_at hl 2 rfl) ?_
  refine lv_iload_n hx hb d_MD_one_15 rfl (lv_at hl 0 rfl) ?_
  refine lv_aload_n hx hb d_MD_one_16 rfl (lv_at hl 2 rfl) ?_
  refine xw_getR (C := "AdviceWeaverModel") (T := T_MD) hx hb hts hin_MD hown hK hP (by decide) kr_MD (by decide) rfl 33 (by decide) (hts _ hw_556) (fun _ h9 => h9) rfl d_MD_one_17 ?_
  refine lv_iload_n hx hb d_MD_one_20 rfl (lv_at hl 1 rfl) ?_
  refine xw_iald hx hb hK hP (by decide) kr_m_place (by decide) hg3 d_MD_one_21 ?_
  obtain ⟨s6, r8, hc7, h⟩ := xw_bn2I h
  refine xw_callVi (C := "AdviceWeaverModel") (T := T_MD) ⟨hx, hb, hml, hown, hts⟩ (c_MD_op l D A ad cs Z tt fu s0 s6 v4 (s0.1 23 (v1).toNat) r8 hc7) (cwV 2 hts (gd_V hw_452 hw_453 hw_454 hw_433 hw_455) rfl rfl rfl (by decide +kernel) ⟨Nat.le_of_ble_eq_true rfl, Nat.le_of_ble_eq_true rfl⟩) hP hK hD hX hS (by decide) kr_MD (by decide) rfl rfl hl.1 rfl (Nat.le_of_ble_eq_true rfl) d_MD_one_22 (fun H locs hP hS => ?_)
  refine lv_istore hx hb d_MD_one_25 hl (by decide) rfl (fun ls hl => ?_)
  refine lv_iload hx hb d_MD_one_27 (lv_at hl 0 rfl) ?_
  refine lv_bipush (v := xw_i 30) hx hb d_MD_one_29 (by decide) ?_
  refine xw_jnI (fun j => ∀ (sq : xw_S) (i2_48 : Int) (i3_48 : Int) (i4_48 : Int), j sq i2_48 i3_48 i4_48 = some sZ → ∀ (H : Heap) (locs : List Loc) (ls : Array Slot), va_P D vwCl (xw_ws kdR 29 ad cs Z sq) H → va_S A s.heap H locs → lv_has ls 5 [(0, .ref (ad 0)), (2, .int (xw_i i2_48)), (3, .int (xw_i i3_48)), (4, .int (xw_i i4_48))] → W p l e (headSpec w_MD_one ({ frames := 3, cells := 0, slots := 0, locals := 69 })).room s m [.ref (ad 0), .int (xw_i p1)].toArray below meth c H locs 0 0 (MQ below (va_Qv (fun u => u = sZ) (xw_H D vwCl A kdR 29 ad cs Z tt) A) [.ref (ad 0), .int (xw_i p1)].toArray s 0 0 A) (F0 m 48 ls [])) h ?_ ?_
  · intro s15 i2_48 i3_48 i4_48 h H locs ls hP hS hl
    refine lv_aload_n hx hb d_MD_one_48 rfl (lv_at hl 0 rfl) ?_
    refine lv_iload hx hb d_MD_one_49 (lv_at hl 3 rfl) ?_
    refine lv_bipush (v := xw_i 30) hx hb d_MD_one_51 (by decide) ?_
    refine xw_jnI (fun j => ∀ (sq : xw_S) (i2_69 : Int) (i3_69 : Int) (i4_69 : Int) (t0_69 : Int), j sq i2_69 i3_69 i4_69 t0_69 = some sZ → ∀ (H : Heap) (locs : List Loc) (ls : Array Slot), va_P D vwCl (xw_ws kdR 29 ad cs Z sq) H → va_S A s.heap H locs → lv_has ls 5 [(0, .ref (ad 0)), (2, .int (xw_i i2_69)), (3, .int (xw_i i3_69)), (4, .int (xw_i i4_69))] → W p l e (headSpec w_MD_one ({ frames := 3, cells := 0, slots := 0, locals := 69 })).room s m [.ref (ad 0), .int (xw_i p1)].toArray below meth c H locs 0 0 (MQ below (va_Qv (fun u => u = sZ) (xw_H D vwCl A kdR 29 ad cs Z tt) A) [.ref (ad 0), .int (xw_i p1)].toArray s 0 0 A) (F0 m 69 ls [.int (xw_i t0_69), .ref (ad 0)])) h ?_ ?_
    · intro s18 i2_69 i3_69 i4_69 t0_69 h H locs ls hP hS hl
      refine xw_putI (C := "AdviceWeaverModel") (T := T_MD) hx hb hts hin_MD ty_MD ty_MD_ok nm_MD hown hK hP hD hS (by decide) kr_MD (by decide) rfl 39 (by decide) (hts _ hw_581) (fun _ h9 => h9) rfl (by decide +kernel) rfl d_MD_one_69 (fun s19 e20 H locs hP hS => ?_)
      replace h := xw_letI e20 h
      refine lv_iload hx hb d_MD_one_72 (lv_at hl 3 rfl) ?_
      obtain ⟨s21, r23, hc22, h⟩ := xw_bn2I h
      refine xw_callSi ⟨hx, hb, hml, hown, hts⟩ (c_MD_branches l D A ad cs Z tt fu s19 s21 i4_69 r23 hc22) (va_cwS 1 hts (gd_S hw_467 hw_468 hw_433 hw_469) rfl rfl rfl (by decide +kernel) ⟨Nat.le_of_ble_eq_true rfl, Nat.le_of_ble_eq_true rfl⟩) hP hK hD hX hS rfl hl.1 rfl (Nat.le_of_ble_eq_true rfl) d_MD_one_74 (fun H locs hP hS => ?_)
      obtain ⟨hg24, h⟩ := xw_grdI h
      refine xw_if_eq (tgt := 91) hx hb hg24 d_MD_one_77 (by decide) (fun hc25 => ?_) (fun hc25 => ?_)
      · replace h := xw_ifT hc25 h
        refine lv_iload hx hb d_MD_one_91 (lv_at hl 3 rfl) ?_
        refine lv_iconst (v := xw_i 4) hx hb d_MD_one_93 rfl ?_
        refine xw_jnI (fun j => ∀ (sq : xw_S) (i2_113 : Int) (i3_113 : Int) (i4_113 : Int), j sq i2_113 i3_113 i4_113 = some sZ → ∀ (H : Heap) (locs : List Loc) (ls : Array Slot), va_P D vwCl (xw_ws kdR 29 ad cs Z sq) H → va_S A s.heap H locs → lv_has ls 5 [(0, .ref (ad 0)), (2, .int (xw_i i2_113)), (3, .int (xw_i i3_113)), (4, .int (xw_i i4_113))] → W p l e (headSpec w_MD_one ({ frames := 3, cells := 0, slots := 0, locals := 69 })).room s m [.ref (ad 0), .int (xw_i p1)].toArray below meth c H locs 0 0 (MQ below (va_Qv (fun u => u = sZ) (xw_H D vwCl A kdR 29 ad cs Z tt) A) [.ref (ad 0), .int (xw_i p1)].toArray s 0 0 A) (F0 m 113 ls [])) h ?_ ?_
        · intro s32 i2_113 i3_113 i4_113 h H locs ls hP hS hl
          refine lv_iload hx hb d_MD_one_113 (lv_at hl 3 rfl) ?_
          refine lv_bipush (v := xw_i 13) hx hb d_MD_one_115 (by decide) ?_
          obtain ⟨hg33, h⟩ := xw_grdI h
          refine xw_icmp_ne (tgt := 146) hx hb hg33 (by decide) d_MD_one_117 (by decide) (fun hc34 => ?_) (fun hc34 => ?_)
          · replace h := xw_ifF hc34 h
            refine lv_iload hx hb d_MD_one_146 (lv_at hl 3 rfl) ?_
            refine lv_bipush (v := xw_i 14) hx hb d_MD_one_148 (by decide) ?_
            refine xw_icmp_ne (tgt := 164) hx hb hg33 (by decide) d_MD_one_150 (by decide) (fun hc35 => ?_) (fun hc35 => ?_)
            · replace h := xw_ifF hc35 h
              refine lv_iload hx hb d_MD_one_164 (lv_at hl 3 rfl) ?_
              refine lv_bipush (v := xw_i 15) hx hb d_MD_one_166 (by decide) ?_
              refine xw_jnI (fun j => ∀ (sq : xw_S), j sq = some sZ → ∀ (H : Heap) (locs : List Loc) (ls : Array Slot), va_P D vwCl (xw_ws kdR 29 ad cs Z sq) H → va_S A s.heap H locs → lv_has ls 5 [(0, .ref (ad 0))] → W p l e (headSpec w_MD_one ({ frames := 3, cells := 0, slots := 0, locals := 69 })).room s m [.ref (ad 0), .int (xw_i p1)].toArray below meth c H locs 0 0 (MQ below (va_Qv (fun u => u = sZ) (xw_H D vwCl A kdR 29 ad cs Z tt) A) [.ref (ad 0), .int (xw_i p1)].toArray s 0 0 A) (F0 m 178 ls [])) h ?_ ?_
              · intro s41 h H locs ls hP hS hl
                refine lv_aload_n hx hb d_MD_one_178 rfl (lv_at hl 0 rfl) ?_
                refine lv_aload_n hx hb d_MD_one_179 rfl (lv_at hl 0 rfl) ?_
                obtain ⟨s42, r44, hc43, h⟩ := xw_bn2I h
                refine xw_callVi (C := "AdviceWeaverModel") (T := T_MD) ⟨hx, hb, hml, hown, hts⟩ (c_MD_pop l D A ad cs Z tt fu s41 s42 r44 hc43) (cwV 0 hts (gd_V hw_560 hw_561 hw_562 hw_433 hw_563) rfl rfl rfl (by decide +kernel) ⟨Nat.le_of_ble_eq_true rfl, Nat.le_of_ble_eq_true rfl⟩) hP hK hD hX hS (by decide) kr_MD (by decide) rfl rfl hl.1 rfl (Nat.le_of_ble_eq_true rfl) d_MD_one_180 (fun H locs hP hS => ?_)
                obtain ⟨s45, hc46, h⟩ := xw_bndI h
                refine xw_callVv (C := "AdviceWeaverModel") (T := T_MD) ⟨hx, hb, hml, hown, hts⟩ (c_MD_raise l D A ad cs Z tt fu s42 s45 r44 hc46) (cwV 1 hts (gd_V hw_570 hw_571 hw_572 hw_433 hw_573) rfl rfl rfl (by decide +kernel) ⟨Nat.le_of_ble_eq_true rfl, Nat.le_of_ble_eq_true rfl⟩) hP hK hD hX hS (by decide) kr_MD (by decide) rfl rfl hl.1 rfl (Nat.le_of_ble_eq_true rfl) d_MD_one_183 (fun H locs hP hS => ?_)
                refine lv_goto (tgt := 197) hx hb d_MD_one_186 (by decide) ?_
                exact xw_vretE hx hb hr hlk hP hK hD hX hS h d_MD_one_197
              · intro j178 hj178 h
                refine xw_icmp_eq (tgt := 178) hx hb hg33 (by decide) d_MD_one_168 (by decide) (fun hc36 => ?_) (fun hc36 => ?_)
                · replace h := xw_ifT hc36 h
                  exact hj178 s32 h _ _ _ hP hS (lv_sub hl [0] rfl)
                · replace h := xw_ifF hc36 h
                  refine lv_iload hx hb d_MD_one_171 (lv_at hl 3 rfl) ?_
                  refine lv_bipush (v := xw_i 32) hx hb d_MD_one_173 (by decide) ?_
                  refine xw_icmp_ne (tgt := 189) hx hb hg33 (by decide) d_MD_one_175 (by decide) (fun hc37 => ?_) (fun hc37 => ?_)
                  · replace h := xw_ifF hc37 h
                    refine lv_aload_n hx hb d_MD_one_189 rfl (lv_at hl 0 rfl) ?_
                    refine lv_iload_n hx hb d_MD_one_190 rfl (lv_at hl 2 rfl) ?_
                    refine lv_iload_n hx hb d_MD_one_191 rfl (lv_at hl 1 rfl) ?_
                    refine lv_iload hx hb d_MD_one_192 (lv_at hl 3 rfl) ?_
                    obtain ⟨s38, hc39, h⟩ := xw_bndI h
                    refine xw_callVv (C := "AdviceWeaverModel") (T := T_MD) ⟨hx, hb, hml, hown, hts⟩ (c_MD_plain l D A ad cs Z tt fu s32 s38 i3_113 i2_113 i4_113 hc39) (cwV 3 hts (gd_V hw_586 hw_587 hw_588 hw_433 hw_589) rfl rfl rfl (by decide +kernel) ⟨Nat.le_of_ble_eq_true rfl, Nat.le_of_ble_eq_true rfl⟩) hP hK hD hX hS (by decide) kr_MD (by decide) rfl rfl hl.1 rfl (Nat.le_of_ble_eq_true rfl) d_MD_one_194 (fun H locs hP hS => ?_)
                    exact xw_vretE hx hb hr hlk hP hK hD hX hS h d_MD_one_197
                  · replace h := xw_ifT hc37 h
                    exact hj178 s32 h _ _ _ hP hS (lv_sub hl [0] rfl)
            · replace h := xw_ifT hc35 h
              refine lv_aload_n hx hb d_MD_one_153 rfl (lv_at hl 0 rfl) ?_
              refine lv_aload_n hx hb d_MD_one_154 rfl (lv_at hl 0 rfl) ?_
              obtain ⟨s48, r50, hc49, h⟩ := xw_bn2I h
              refine xw_callVi (C := "AdviceWeaverModel") (T := T_MD) ⟨hx, hb, hml, hown, hts⟩ (c_MD_pop l D A ad cs Z tt fu s32 s48 r50 hc49) (cwV 0 hts (gd_V hw_560 hw_561 hw_562 hw_433 hw_563) rfl rfl rfl (by decide +kernel) ⟨Nat.le_of_ble_eq_true rfl, Nat.le_of_ble_eq_true rfl⟩) hP hK hD hX hS (by decide) kr_MD (by decide) rfl rfl hl.1 rfl (Nat.le_of_ble_eq_true rfl) d_MD_one_155 (fun H locs hP hS => ?_)
              obtain ⟨s51, hc52, h⟩ := xw_bndI h
              refine xw_callVv (C := "AdviceWeaverModel") (T := T_MD) ⟨hx, hb, hml, hown, hts⟩ (c_MD_giveBack l D A ad cs Z tt fu s48 s51 r50 hc52) (cwV 1 hts (gd_V hw_590 hw_591 hw_592 hw_433 hw_593) rfl rfl rfl (by decide +kernel) ⟨Nat.le_of_ble_eq_true rfl, Nat.le_of_ble_eq_true rfl⟩) hP hK hD hX hS (by decide) kr_MD (by decide) rfl rfl hl.1 rfl (Nat.le_of_ble_eq_true rfl) d_MD_one_158 (fun H locs hP hS => ?_)
              refine lv_goto (tgt := 197) hx hb d_MD_one_161 (by decide) ?_
              exact xw_vretE hx hb hr hlk hP hK hD hX hS h d_MD_one_197
          · replace h := xw_ifT hc34 h
            refine lv_aload_n hx hb d_MD_one_120 rfl (lv_at hl 0 rfl) ?_
            refine lv_iload_n hx hb d_MD_one_121 rfl (lv_at hl 2 rfl) ?_
            refine lv_iconst (v := xw_i 4) hx hb d_MD_one_122 rfl ?_
            refine xw_idiv hx hb (by decide) (by decide) d_MD_one_123 ?_
            refine lv_iconst (v := xw_i 4) hx hb d_MD_one_124 rfl ?_
            refine xw_imul hx hb d_MD_one_125 ?_
            refine lv_aload_n hx hb d_MD_one_126 rfl (lv_at hl 0 rfl) ?_
            refine lv_iload_n hx hb d_MD_one_127 rfl (lv_at hl 2 rfl) ?_
            refine lv_aload_n hx hb d_MD_one_128 rfl (lv_at hl 0 rfl) ?_
            refine xw_getR (C := "AdviceWeaverModel") (T := T_MD) hx hb hts hin_MD hown hK hP (by decide) kr_MD (by decide) rfl 33 (by decide) (hts _ hw_556) (fun _ h9 => h9) rfl d_MD_one_129 ?_
            refine lv_iload_n hx hb d_MD_one_132 rfl (lv_at hl 1 rfl) ?_
            obtain ⟨hg54, h⟩ := xw_grdI h
            refine xw_iald hx hb hK hP (by decide) kr_m_place (by decide) hg54 d_MD_one_133 ?_
            refine lv_iconst (v := xw_i 1) hx hb d_MD_one_134 rfl ?_
            refine xw_iadd hx hb d_MD_one_135 ?_
            obtain ⟨s55, r57, hc56, h⟩ := xw_bn2I h
            refine xw_callVi (C := "AdviceWeaverModel") (T := T_MD) ⟨hx, hb, hml, hown, hts⟩ (c_MD_op l D A ad cs Z tt fu s32 s55 i3_113 ((s32.1 23 (i2_113).toNat) + 1) r57 hc56) (cwV 2 hts (gd_V hw_452 hw_453 hw_454 hw_433 hw_455) rfl rfl rfl (by decide +kernel) ⟨Nat.le_of_ble_eq_true rfl, Nat.le_of_ble_eq_true rfl⟩) hP hK hD hX hS (by decide) kr_MD (by decide) rfl rfl hl.1 rfl (Nat.le_of_ble_eq_true rfl) d_MD_one_136 (fun H locs hP hS => ?_)
            refine xw_iadd hx hb d_MD_one_139 ?_
            obtain ⟨s58, hc59, h⟩ := xw_bndI h
            refine xw_callVv (C := "AdviceWeaverModel") (T := T_MD) ⟨hx, hb, hml, hown, hts⟩ (c_MD_call l D A ad cs Z tt fu s55 s58 (((xw_dv i3_113 4) * 4) + r57) hc59) (cwV 1 hts (gd_V hw_594 hw_595 hw_596 hw_433 hw_597) rfl rfl rfl (by decide +kernel) ⟨Nat.le_of_ble_eq_true rfl, Nat.le_of_ble_eq_true rfl⟩) hP hK hD hX hS (by decide) kr_MD (by decide) rfl rfl hl.1 rfl (Nat.le_of_ble_eq_true rfl) d_MD_one_140 (fun H locs hP hS => ?_)
            refine lv_goto (tgt := 197) hx hb d_MD_one_143 (by decide) ?_
            exact xw_vretE hx hb hr hlk hP hK hD hX hS h d_MD_one_197
        · intro j113 hj113 h
          obtain ⟨hg26, h⟩ := xw_grdI h
          refine xw_icmp_lt (tgt := 113) hx hb hg26 (by decide) d_MD_one_94 (by decide) (fun hc27 => ?_) (fun hc27 => ?_)
          · replace h := xw_ifT hc27 h
            exact hj113 s21 i2_69 i3_69 i4_69 h _ _ _ hP hS (lv_sub hl [0, 1, 2, 3] rfl)
          · replace h := xw_ifF hc27 h
            refine lv_iload hx hb d_MD_one_97 (lv_at hl 3 rfl) ?_
            refine lv_bipush (v := xw_i 7) hx hb d_MD_one_99 (by decide) ?_
            refine xw_icmp_gt (tgt := 113) hx hb hg26 (by decide) d_MD_one_101 (by decide) (fun hc28 => ?_) (fun hc28 => ?_)
            · replace h := xw_ifT hc28 h
              exact hj113 s21 i2_69 i3_69 i4_69 h _ _ _ hP hS (lv_sub hl [0, 1, 2, 3] rfl)
            · replace h := xw_ifF hc28 h
              refine lv_aload_n hx hb d_MD_one_104 rfl (lv_at hl 0 rfl) ?_
              refine lv_iload hx hb d_MD_one_105 (lv_at hl 3 rfl) ?_
              obtain ⟨s29, hc30, h⟩ := xw_bndI h
              refine xw_callVv (C := "AdviceWeaverModel") (T := T_MD) ⟨hx, hb, hml, hown, hts⟩ (c_MD_calculate l D A ad cs Z tt fu s21 s29 i4_69 hc30) (cwV 1 hts (gd_V hw_582 hw_583 hw_584 hw_433 hw_585) rfl rfl rfl (by decide +kernel) ⟨Nat.le_of_ble_eq_true rfl, Nat.le_of_ble_eq_true rfl⟩) hP hK hD hX hS (by decide) kr_MD (by decide) rfl rfl hl.1 rfl (Nat.le_of_ble_eq_true rfl) d_MD_one_107 (fun H locs hP hS => ?_)
              refine lv_goto (tgt := 197) hx hb d_MD_one_110 (by decide) ?_
              exact xw_vretE hx hb hr hlk hP hK hD hX hS h d_MD_one_197
      · replace h := xw_ifF hc25 h
        refine lv_aload_n hx hb d_MD_one_80 rfl (lv_at hl 0 rfl) ?_
        refine lv_iload_n hx hb d_MD_one_81 rfl (lv_at hl 2 rfl) ?_
        refine lv_iload_n hx hb d_MD_one_82 rfl (lv_at hl 1 rfl) ?_
        refine lv_iload hx hb d_MD_one_83 (lv_at hl 3 rfl) ?_
        obtain ⟨s61, hc62, h⟩ := xw_bndI h
        refine xw_callVv (C := "AdviceWeaverModel") (T := T_MD) ⟨hx, hb, hml, hown, hts⟩ (c_MD_branch l D A ad cs Z tt fu s21 s61 i3_69 i2_69 i4_69 hc62) (cwV 3 hts (gd_V hw_598 hw_599 hw_600 hw_433 hw_601) rfl rfl rfl (by decide +kernel) ⟨Nat.le_of_ble_eq_true rfl, Nat.le_of_ble_eq_true rfl⟩) hP hK hD hX hS (by decide) kr_MD (by decide) rfl rfl hl.1 rfl (Nat.le_of_ble_eq_true rfl) d_MD_one_85 (fun H locs hP hS => ?_)
        refine lv_goto (tgt := 197) hx hb d_MD_one_88 (by decide) ?_
        exact xw_vretE hx hb hr hlk hP hK hD hX hS h d_MD_one_197
    · intro j69 hj69 h
      obtain ⟨hg16, h⟩ := xw_grdI h
      refine xw_icmp_ge (tgt := 65) hx hb hg16 (by decide) d_MD_one_53 (by decide) (fun hc17 => ?_) (fun hc17 => ?_)
      · replace h := xw_ifT hc17 h
        refine lv_aload_n hx hb d_MD_one_65 rfl (lv_at hl 0 rfl) ?_
        refine xw_getI (C := "AdviceWeaverModel") (T := T_MD) hx hb hts hin_MD hown hK hP (by decide) kr_MD (by decide) rfl 39 (by decide) (hts _ hw_581) (fun _ h9 => h9) rfl d_MD_one_66 ?_
        exact hj69 s15 i2_48 i3_48 i4_48 (s15.1 0 39) h _ _ _ hP hS (lv_sub hl [0, 1, 2, 3] rfl)
      · replace h := xw_ifF hc17 h
        refine lv_aload_n hx hb d_MD_one_56 rfl (lv_at hl 0 rfl) ?_
        refine xw_getI (C := "AdviceWeaverModel") (T := T_MD) hx hb hts hin_MD hown hK hP (by decide) kr_MD (by decide) rfl 39 (by decide) (hts _ hw_581) (fun _ h9 => h9) rfl d_MD_one_57 ?_
        refine lv_iconst (v := xw_i 1) hx hb d_MD_one_60 rfl ?_
        refine xw_iadd hx hb d_MD_one_61 ?_
        refine lv_goto (tgt := 69) hx hb d_MD_one_62 (by decide) ?_
        exact hj69 s15 i2_48 i3_48 i4_48 ((s15.1 0 39) + 1) h _ _ _ hP hS (lv_sub hl [0, 1, 2, 3] rfl)
  · intro j48 hj48 h
    obtain ⟨hg9, h⟩ := xw_grdI h
    refine xw_icmp_ge (tgt := 48) hx hb hg9 (by decide) d_MD_one_31 (by decide) (fun hc10 => ?_) (fun hc10 => ?_)
    · replace h := xw_ifT hc10 h
      exact hj48 s6 v1 v4 r8 h _ _ _ hP hS (lv_sub hl [3, 2, 1, 0] rfl)
    · replace h := xw_ifF hc10 h
      refine lv_aload_n hx hb d_MD_one_34 rfl (lv_at hl 3 rfl) ?_
      refine xw_getI (C := "AdviceWeaverModel") (T := T_MD) hx hb hts hin_MD hown hK hP (by decide) kr_MD (by decide) rfl 39 (by decide) (hts _ hw_581) (fun _ h9 => h9) rfl d_MD_one_35 ?_
      refine lv_iload_n hx hb d_MD_one_38 rfl (lv_at hl 4 rfl) ?_
      obtain ⟨hg11, h⟩ := xw_grdI h
      refine xw_icmp_ne (tgt := 48) hx hb hg11.1 hg11.2 d_MD_one_39 (by decide) (fun hc12 => ?_) (fun hc12 => ?_)
      · replace h := xw_ifF hc12 h
        exact hj48 s6 v1 v4 r8 h _ _ _ hP hS (lv_sub hl [3, 2, 1, 0] rfl)
      · replace h := xw_ifT hc12 h
        refine lv_aload_n hx hb d_MD_one_42 rfl (lv_at hl 3 rfl) ?_
        refine lv_iconst (v := xw_i 2) hx hb d_MD_one_43 rfl ?_
        refine xw_putI (C := "AdviceWeaverModel") (T := T_MD) hx hb hts hin_MD ty_MD ty_MD_ok nm_MD hown hK hP hD hS (by decide) kr_MD (by decide) rfl 37 (by decide) (hts _ hw_568) (fun _ h9 => h9) rfl (by decide +kernel) rfl d_MD_one_44 (fun s13 e14 H locs hP hS => ?_)
        replace h := xw_letI e14 h
        exact xw_vretE hx hb hr hlk hP hK hD hX hS h d_MD_one_47
def lp_MD_run_67 (fu : Nat) (c1_67 : Int) (c2_67 : Int) (c3_67 : Int) (c4_67 : Int) (c5_67 : Int) (k89 : xw_S → Option (xw_S × Int)) : Nat → xw_S → Int → Option (xw_S × Int)
  | 0, _, _ => none
  | n + 1, s26, i6_67 =>
    xw_grd (xw_r i6_67) (xw_if (1024 ≤ i6_67) (k89 s26)
     (xw_grd ((0 ≤ i6_67 ∧ i6_67 < ((1024 : Nat) : Int))) (xw_let (xw_st s26 28 (i6_67).toNat 0) (fun s30 => xw_let (i6_67 + 1) (fun v32 => lp_MD_run_67 fu c1_67 c2_67 c3_67 c4_67 c5_67 k89 n s30 v32)))))
def lp_MD_run_149 (fu : Nat) (c5_149 : Int) (k175 : xw_S → Option (xw_S × Int)) : Nat → xw_S → Int → Option (xw_S × Int)
  | 0, _, _ => none
  | n + 1, s55, i6_149 =>
    xw_grd (xw_r i6_149) (xw_if (1000000 ≤ i6_149) (k175 s55)
     (xw_grd (xw_r (s55.1 0 37)) (xw_if (0 ≤ s55.1 0 37) (k175 s55)
     (xw_bnd (f_MD_one fu s55 c5_149) (fun s60 => xw_let (i6_149 + 1) (fun v63 => lp_MD_run_149 fu c5_149 k175 n s60 v63))))))
def f_MD_run (fu : Nat) (s0 : xw_S) (p1 : Int) (p2 : Int) (p3 : Int) (p4 : Int) (p5 : Int) : Option (xw_S × Int) :=
 xw_bn2 (f_MD_outside fu s0 p2 0 ((s0.1 0 10) - 1)) (fun s1 r3 => xw_grd (xw_r r3) (xw_if (r3 = 0) (xw_bn2 (f_MD_outside fu s1 p5 1 1000) (fun s6 r8 => xw_grd (xw_r r8) (xw_if (r8 = 0) (xw_jn (fun (s15 : xw_S) => xw_let (xw_st s15 0 31 0) (fun s16 => xw_let (xw_st s16 0 37 (-1)) (fun s18 => xw_let (xw_st s18 0 38 0) (fun s20 => xw_let (xw_st s20 0 39 0) (fun s22 => xw_let (xw_st s22 0 40 0) (fun s24 => xw_jn (fun (s34 : xw_S) => xw_jn (fun (s37 : xw_S) (t0_101 : Int) => xw_bnd (f_MD_enter fu s37 t0_101) (fun s38 => xw_grd ((0 ≤ p2 ∧ p2 < ((12 : Nat) : Int))) (xw_jn (fun (s44 : xw_S) (t0_123 : Int) (t1_123 : Int) => xw_grd ((0 ≤ t1_123 ∧ t1_123 < ((48 : Nat) : Int))) (xw_let (xw_st s44 25 (t1_123).toNat t0_123) (fun s46 => xw_grd ((0 ≤ p2 ∧ p2 < ((12 : Nat) : Int))) (xw_jn (fun (s51 : xw_S) (t0_145 : Int) (t1_145 : Int) => xw_grd ((0 ≤ t1_145 ∧ t1_145 < ((48 : Nat) : Int))) (xw_let (xw_st s51 25 (t1_145).toNat t0_145) (fun s53 => xw_jn (fun (s65 : xw_S) => some (s65, s65.1 0 37))
 (fun (k175 : xw_S → Option (xw_S × Int)) => lp_MD_run_149 fu p5 k175 fu s53 0))))
 (fun (j145 : xw_S → Int → Int → Option (xw_S × Int)) => xw_grd (xw_r (s46.1 3 (p2).toNat)) (xw_if (s46.1 3 (p2).toNat ≤ 1) (j145 s46 0 1)
 (j145 s46 p4 1)))))))
 (fun (j123 : xw_S → Int → Int → Option (xw_S × Int)) => xw_grd (xw_r (s38.1 3 (p2).toNat)) (xw_if (s38.1 3 (p2).toNat ≤ 0) (j123 s38 0 0)
 (j123 s38 p3 0))))))
 (fun (j101 : xw_S → Int → Option (xw_S × Int)) => xw_grd (xw_r p1) (xw_if (p1 = 0) (j101 s34 p2)
 (j101 s34 (4 + p2)))))
 (fun (k89 : xw_S → Option (xw_S × Int)) => lp_MD_run_67 fu p1 p2 p3 p4 p5 k89 fu s24 0)))))))
 (fun (j39 : xw_S → Option (xw_S × Int)) => xw_grd (xw_r p1) (xw_if (p1 = 0) (j39 s6)
 (xw_grd (xw_r (s6.1 0 12)) (xw_if (s6.1 0 12 = 0) (some (s6, -1))
 (j39 s6))))))
 (some (s6, -1)))))
 (some (s1, -1))))
set_option maxRecDepth 100000 in
set_option maxHeartbeats 4000000 in
theorem c_MD_run (l : Launch) (D : va_G) (A : Nat → Prop) (ad : Nat → Nat) (cs : Nat → ClassId) (Z : va_W) (tt : Nat → Nat) (fu : Nat) (s0 sZ : xw_S) (p1 : Int) (p2 : Int) (p3 : Int) (p4 : Int) (p5 : Int) (r0 : Int) (h : f_MD_run fu s0 p1 p2 p3 p4 p5 = some (sZ, r0)) : Met l y_MD_run w_MD_run ({ frames := 4, cells := 0, slots := 0, locals := 93 }) (va_Pc [.ref (ad 0), .int (xw_i p1), .int (xw_i p2), .int (xw_i p3), .int (xw_i p4), .int (xw_i p5)] (xw_H D vwCl A kdR 29 ad cs Z tt s0)) (va_Qi (fun r u => r = xw_i r0 ∧ u = sZ) (xw_H D vwCl A kdR 29 ad cs Z tt) A) 0 0 A := by
  refine Met.ofW (cc := b_MD_run) (maxL := 7) (ret := (some .int)) (by decide) rfl ?_
  intro p e s m args below meth c s₁ B hml hv
  obtain ⟨rfl, hP, hK, hD, hX⟩ := hv
  have hx := B.exec
  have hb := B.bytes
  have hr := B.returns
  have hts0 := atoms_spec (ws := w_MD_run) B.pre
  have hts := fun w (hw : w ∈ wAll) => hts0 w (List.mem_cons_of_mem _ hw)
  have hown : s.vm.findClass "AdviceWeaverModel" = some m.cls := findClass_of_methodNamed B.named
  have hlk := B.notSynchronized
  clear hts0 B
  have hS : va_S A s.heap s.heap [] := va_S.rf
  have hl := lv_entry [.ref (ad 0), .int (xw_i p1), .int (xw_i p2), .int (xw_i p3), .int (xw_i p4), .int (xw_i p5)] (n := 7) (Nat.le_of_ble_eq_true rfl)
  rw [lg_entry_eq]
  generalize (lg_sl [.ref (ad 0), .int (xw_i p1), .int (xw_i p2), .int (xw_i p3), .int (xw_i p4), .int (xw_i p5)] ++ List.replicate (7 - (lg_sl [.ref (ad 0), .int (xw_i p1), .int (xw_i p2), .int (xw_i p3), .int (xw_i p4), .int (xw_i p5)]).length) Slot.unset).toArray = ls at hl ⊢
  have hl : lv_has ls 7 [(0, .ref (ad 0)), (1, .int (xw_i p1)), (2, .int (xw_i p2)), (3, .int (xw_i p3)), (4, .int (xw_i p4)), (5, .int (xw_i p5))] := hl
  have hlp67 : ∀ (c1_67 : Int) (c2_67 : Int) (c3_67 : Int) (c4_67 : Int) (c5_67 : Int) (k89 : xw_S → Option (xw_S × Int)) (hk89 : ∀ (sq : xw_S), k89 sq = some (sZ, r0) → ∀ (H : Heap) (locs : List Loc) (ls : Array Slot), va_P D vwCl (xw_ws kdR 29 ad cs Z sq) H → va_S A s.heap H locs → lv_has ls 7 [(0, .ref (ad 0)), (1, .int (xw_i c1_67)), (2, .int (xw_i c2_67)), (3, .int (xw_i c3_67)), (4, .int (xw_i c4_67)), (5, .int (xw_i c5_67))] → W p l e (headSpec w_MD_run ({ frames := 4, cells := 0, slots := 0, locals := 93 })).room s m [.ref (ad 0), .int (xw_i p1), .int (xw_i p2), .int (xw_i p3), .int (xw_i p4), .int (xw_i p5)].toArray below meth c H locs 0 0 (MQ below (va_Qi (fun r u => r = xw_i r0 ∧ u = sZ) (xw_H D vwCl A kdR 29 ad cs Z tt) A) [.ref (ad 0), .int (xw_i p1), .int (xw_i p2), .int (xw_i p3), .int (xw_i p4), .int (xw_i p5)].toArray s 0 0 A) (F0 m 89 ls [])) (n : Nat), ∀ (sq : xw_S) (i6_67 : Int), lp_MD_run_67 fu c1_67 c2_67 c3_67 c4_67 c5_67 k89 n sq i6_67 = some (sZ, r0) → ∀ (H : Heap) (locs : List Loc) (ls : Array Slot), va_P D vwCl (xw_ws kdR 29 ad cs Z sq) H → va_S A s.heap H locs → lv_has ls 7 [(0, .ref (ad 0)), (1, .int (xw_i c1_67)), (2, .int (xw_i c2_67)), (3, .int (xw_i c3_67)), (4, .int (xw_i c4_67)), (5, .int (xw_i c5_67)), (6, .int (xw_i i6_67))] → W p l e (headSpec w_MD_run ({ frames := 4, cells := 0, slots := 0, locals := 93 })).room s m [.ref (ad 0), .int (xw_i p1), .int (xw_i p2), .int (xw_i p3), .int (xw_i p4), .int (xw_i p5)].toArray below meth c H locs 0 0 (MQ below (va_Qi (fun r u => r = xw_i r0 ∧ u = sZ) (xw_H D vwCl A kdR 29 ad cs Z tt) A) [.ref (ad 0), .int (xw_i p1), .int (xw_i p2), .int (xw_i p3), .int (xw_i p4), .int (xw_i p5)].toArray s 0 0 A) (F0 m 67 ls []) := by
    intro c1_67 c2_67 c3_67 c4_67 c5_67 k89 hk89 n
    induction n with
    | zero =>
      intro sq i6_67 h
      cases (show (none : Option (xw_S × Int)) = some (sZ, r0) from h)
    | succ n ih67 =>
      intro s26 i6_67 h H locs ls hP hS hl
      unfold lp_MD_run_67 at h
      refine lv_iload hx hb d_MD_run_67 (lv_at hl 6 rfl) ?_
      refine lv_sipush (v := xw_i 1024) hx hb d_MD_run_69 (by decide) ?_
      obtain ⟨hg27, h⟩ := xw_grdI h
      refine xw_icmp_ge (tgt := 89) hx hb hg27 (by decide) d_MD_run_72 (by decide) (fun hc28 => ?_) (fun hc28 => ?_)
      · replace h := xw_ifT hc28 h
        exact hk89 s26 h _ _ _ hP hS (lv_sub hl [0, 1, 2, 3, 4, 5] rfl)
      · replace h := xw_ifF hc28 h
        refine lv_aload_n hx hb d_MD_run_75 rfl (lv_at hl 0 rfl) ?_
        refine xw_getR (C := "AdviceWeaverModel") (T := T_MD) hx hb hts hin_MD hown hK hP (by decide) kr_MD (by decide) rfl 42 (by decide) (hts _ hw_580) (fun _ h9 => h9) rfl d_MD_run_76 ?_
        refine lv_iload hx hb d_MD_run_79 (lv_at hl 6 rfl) ?_
        refine lv_iconst (v := xw_i 0) hx hb d_MD_run_81 rfl ?_
        obtain ⟨hg29, h⟩ := xw_grdI h
        refine xw_iast hx hb hK hP hD hS (by decide) kr_m_probe (by decide) hg29 d_MD_run_82 (fun s30 e31 H locs hP hS => ?_)
        replace h := xw_letI e31 h
        obtain ⟨v32, e33⟩ : ∃ z, z = i6_67 + 1 := ⟨_, rfl⟩
        replace h := xw_letI e33 h
        refine xw_iinc (lv' := [(6, .int (xw_i v32)), (0, .ref (ad 0)), (1, .int (xw_i c1_67)), (2, .int (xw_i c2_67)), (3, .int (xw_i c3_67)), (4, .int (xw_i c4_67)), (5, .int (xw_i c5_67))]) hx hb d_MD_run_83 hl (k := 6) rfl (by decide) (by rw [e33]; rfl) (fun ls hl => ?_)
        refine lv_goto (tgt := 67) hx hb d_MD_run_86 (by decide) ?_
        exact ih67 s30 v32 h _ _ _ hP hS (lv_sub hl [1, 2, 3, 4, 5, 6, 0] rfl)
  have hlp149 : ∀ (c5_149 : Int) (k175 : xw_S → Option (xw_S × Int)) (hk175 : ∀ (sq : xw_S), k175 sq = some (sZ, r0) → ∀ (H : Heap) (locs : List Loc) (ls : Array Slot), va_P D vwCl (xw_ws kdR 29 ad cs Z sq) H → va_S A s.heap H locs → lv_has ls 7 [(0, .ref (ad 0))] → W p l e (headSpec w_MD_run ({ frames := 4, cells := 0, slots := 0, locals := 93 })).room s m [.ref (ad 0), .int (xw_i p1), .int (xw_i p2), .int (xw_i p3), .int (xw_i p4), .int (xw_i p5)].toArray below meth c H locs 0 0 (MQ below (va_Qi (fun r u => r = xw_i r0 ∧ u = sZ) (xw_H D vwCl A kdR 29 ad cs Z tt) A) [.ref (ad 0), .int (xw_i p1), .int (xw_i p2), .int (xw_i p3), .int (xw_i p4), .int (xw_i p5)].toArray s 0 0 A) (F0 m 175 ls [])) (n : Nat), ∀ (sq : xw_S) (i6_149 : Int), lp_MD_run_149 fu c5_149 k175 n sq i6_149 = some (sZ, r0) → ∀ (H : Heap) (locs : List Loc) (ls : Array Slot), va_P D vwCl (xw_ws kdR 29 ad cs Z sq) H → va_S A s.heap H locs → lv_has ls 7 [(0, .ref (ad 0)), (5, .int (xw_i c5_149)), (6, .int (xw_i i6_149))] → W p l e (headSpec w_MD_run ({ frames := 4, cells := 0, slots := 0, locals := 93 })).room s m [.ref (ad 0), .int (xw_i p1), .int (xw_i p2), .int (xw_i p3), .int (xw_i p4), .int (xw_i p5)].toArray below meth c H locs 0 0 (MQ below (va_Qi (fun r u => r = xw_i r0 ∧ u = sZ) (xw_H D vwCl A kdR 29 ad cs Z tt) A) [.ref (ad 0), .int (xw_i p1), .int (xw_i p2), .int (xw_i p3), .int (xw_i p4), .int (xw_i p5)].toArray s 0 0 A) (F0 m 149 ls []) := by
    intro c5_149 k175 hk175 n
    induction n with
    | zero =>
      intro sq i6_149 h
      cases (show (none : Option (xw_S × Int)) = some (sZ, r0) from h)
    | succ n ih149 =>
      intro s55 i6_149 h H locs ls hP hS hl
      unfold lp_MD_run_149 at h
      refine lv_iload hx hb d_MD_run_149 (lv_at hl 2 rfl) ?_
      refine lv_ldc (v := xw_i 1000000) hx hb hown (hts _ hw_602) d_MD_run_151 ?_
      obtain ⟨hg56, h⟩ := xw_grdI h
      refine xw_icmp_ge (tgt := 175) hx hb hg56 (by decide) d_MD_run_153 (by decide) (fun hc57 => ?_) (fun hc57 => ?_)
      · replace h := xw_ifT hc57 h
        exact hk175 s55 h _ _ _ hP hS (lv_sub hl [0] rfl)
      · replace h := xw_ifF hc57 h
        refine lv_aload_n hx hb d_MD_run_156 rfl (lv_at hl 0 rfl) ?_
        refine xw_getI (C := "AdviceWeaverModel") (T := T_MD) hx hb hts hin_MD hown hK hP (by decide) kr_MD (by decide) rfl 37 (by decide) (hts _ hw_568) (fun _ h9 => h9) rfl d_MD_run_157 ?_
        obtain ⟨hg58, h⟩ := xw_grdI h
        refine xw_if_ge (tgt := 175) hx hb hg58 d_MD_run_160 (by decide) (fun hc59 => ?_) (fun hc59 => ?_)
        · replace h := xw_ifT hc59 h
          exact hk175 s55 h _ _ _ hP hS (lv_sub hl [0] rfl)
        · replace h := xw_ifF hc59 h
          refine lv_aload_n hx hb d_MD_run_163 rfl (lv_at hl 0 rfl) ?_
          refine lv_iload hx hb d_MD_run_164 (lv_at hl 1 rfl) ?_
          obtain ⟨s60, hc61, h⟩ := xw_bndI h
          refine xw_callVv (C := "AdviceWeaverModel") (T := T_MD) ⟨hx, hb, hml, hown, hts⟩ (c_MD_one l D A ad cs Z tt fu s55 s60 c5_149 hc61) (cwV 1 hts (gd_V hw_603 hw_604 hw_605 hw_433 hw_606) rfl rfl rfl (by decide +kernel) ⟨Nat.le_of_ble_eq_true rfl, Nat.le_of_ble_eq_true rfl⟩) hP hK hD hX hS (by decide) kr_MD (by decide) rfl rfl hl.1 rfl (Nat.le_of_ble_eq_true rfl) d_MD_run_166 (fun H locs hP hS => ?_)
          obtain ⟨v63, e64⟩ : ∃ z, z = i6_149 + 1 := ⟨_, rfl⟩
          replace h := xw_letI e64 h
          refine xw_iinc (lv' := [(6, .int (xw_i v63)), (0, .ref (ad 0)), (5, .int (xw_i c5_149))]) hx hb d_MD_run_169 hl (k := 2) rfl (by decide) (by rw [e64]; rfl) (fun ls hl => ?_)
          refine lv_goto (tgt := 149) hx hb d_MD_run_172 (by decide) ?_
          exact ih149 s60 v63 h _ _ _ hP hS (lv_sub hl [1, 2, 0] rfl)
  unfold f_MD_run at h
  refine lv_iload_n hx hb d_MD_run_0 rfl (lv_at hl 2 rfl) ?_
  refine lv_iconst (v := xw_i 0) hx hb d_MD_run_1 rfl ?_
  refine lv_aload_n hx hb d_MD_run_2 rfl (lv_at hl 0 rfl) ?_
  refine xw_getI (C := "AdviceWeaverModel") (T := T_MD) hx hb hts hin_MD hown hK hP (by decide) kr_MD (by decide) rfl 10 (by decide) (hts _ hw_517) (fun _ h9 => h9) rfl d_MD_run_3 ?_
  refine lv_iconst (v := xw_i 1) hx hb d_MD_run_6 rfl ?_
  refine xw_isub hx hb d_MD_run_7 ?_
  obtain ⟨s1, r3, hc2, h⟩ := xw_bn2I h
  refine xw_callSi ⟨hx, hb, hml, hown, hts⟩ (c_MD_outside l D A ad cs Z tt fu s0 s1 p2 0 ((s0.1 0 10) - 1) r3 hc2) (va_cwS 3 hts (gd_S hw_431 hw_432 hw_433 hw_434) rfl rfl rfl (by decide +kernel) ⟨Nat.le_of_ble_eq_true rfl, Nat.le_of_ble_eq_true rfl⟩) hP hK hD hX hS rfl hl.1 rfl (Nat.le_of_ble_eq_true rfl) d_MD_run_8 (fun H locs hP hS => ?_)
  obtain ⟨hg4, h⟩ := xw_grdI h
  refine xw_if_ne (tgt := 37) hx hb hg4 d_MD_run_11 (by decide) (fun hc5 => ?_) (fun hc5 => ?_)
  · replace h := xw_ifF hc5 h
    refine lv_iconst (v := xw_i (-1)) hx hb d_MD_run_37 rfl ?_
    exact xw_iretE hx hb hr hlk hP hK hD hX hS h d_MD_run_38
  · replace h := xw_ifT hc5 h
    refine lv_iload hx hb d_MD_run_14 (lv_at hl 5 rfl) ?_
    refine lv_iconst (v := xw_i 1) hx hb d_MD_run_16 rfl ?_
    refine lv_sipush (v := xw_i 1000) hx hb d_MD_run_17 (by decide) ?_
    obtain ⟨s6, r8, hc7, h⟩ := xw_bn2I h
    refine xw_callSi ⟨hx, hb, hml, hown, hts⟩ (c_MD_outside l D A ad cs Z tt fu s1 s6 p5 1 1000 r8 hc7) (va_cwS 3 hts (gd_S hw_431 hw_432 hw_433 hw_434) rfl rfl rfl (by decide +kernel) ⟨Nat.le_of_ble_eq_true rfl, Nat.le_of_ble_eq_true rfl⟩) hP hK hD hX hS rfl hl.1 rfl (Nat.le_of_ble_eq_true rfl) d_MD_run_20 (fun H locs hP hS => ?_)
    obtain ⟨hg9, h⟩ := xw_grdI h
    refine xw_if_ne (tgt := 37) hx hb hg9 d_MD_run_23 (by decide) (fun hc10 => ?_) (fun hc10 => ?_)
    · replace h := xw_ifF hc10 h
      refine lv_iconst (v := xw_i (-1)) hx hb d_MD_run_37 rfl ?_
      exact xw_iretE hx hb hr hlk hP hK hD hX hS h d_MD_run_38
    · replace h := xw_ifT hc10 h
      refine lv_iload_n hx hb d_MD_run_26 rfl (lv_at hl 1 rfl) ?_
      refine xw_jnI (fun j => ∀ (sq : xw_S), j sq = some (sZ, r0) → ∀ (H : Heap) (locs : List Loc) (ls : Array Slot), va_P D vwCl (xw_ws kdR 29 ad cs Z sq) H → va_S A s.heap H locs → lv_has ls 7 [(0, .ref (ad 0)), (1, .int (xw_i p1)), (2, .int (xw_i p2)), (3, .int (xw_i p3)), (4, .int (xw_i p4)), (5, .int (xw_i p5))] → W p l e (headSpec w_MD_run ({ frames := 4, cells := 0, slots := 0, locals := 93 })).room s m [.ref (ad 0), .int (xw_i p1), .int (xw_i p2), .int (xw_i p3), .int (xw_i p4), .int (xw_i p5)].toArray below meth c H locs 0 0 (MQ below (va_Qi (fun r u => r = xw_i r0 ∧ u = sZ) (xw_H D vwCl A kdR 29 ad cs Z tt) A) [.ref (ad 0), .int (xw_i p1), .int (xw_i p2), .int (xw_i p3), .int (xw_i p4), .int (xw_i p5)].toArray s 0 0 A) (F0 m 39 ls [])) h ?_ ?_
      · intro s15 h H locs ls hP hS hl
        refine lv_aload_n hx hb d_MD_run_39 rfl (lv_at hl 0 rfl) ?_
        refine lv_iconst (v := xw_i 0) hx hb d_MD_run_40 rfl ?_
        refine xw_putI (C := "AdviceWeaverModel") (T := T_MD) hx hb hts hin_MD ty_MD ty_MD_ok nm_MD hown hK hP hD hS (by decide) kr_MD (by decide) rfl 31 (by decide) (hts _ hw_555) (fun _ h9 => h9) rfl (by decide +kernel) rfl d_MD_run_41 (fun s16 e17 H locs hP hS => ?_)
        replace h := xw_letI e17 h
        refine lv_aload_n hx hb d_MD_run_44 rfl (lv_at hl 0 rfl) ?_
        refine lv_iconst (v := xw_i (-1)) hx hb d_MD_run_45 rfl ?_
        refine xw_putI (C := "AdviceWeaverModel") (T := T_MD) hx hb hts hin_MD ty_MD ty_MD_ok nm_MD hown hK hP hD hS (by decide) kr_MD (by decide) rfl 37 (by decide) (hts _ hw_568) (fun _ h9 => h9) rfl (by decide +kernel) rfl d_MD_run_46 (fun s18 e19 H locs hP hS => ?_)
        replace h := xw_letI e19 h
        refine lv_aload_n hx hb d_MD_run_49 rfl (lv_at hl 0 rfl) ?_
        refine lv_iconst (v := xw_i 0) hx hb d_MD_run_50 rfl ?_
        refine xw_putI (C := "AdviceWeaverModel") (T := T_MD) hx hb hts hin_MD ty_MD ty_MD_ok nm_MD hown hK hP hD hS (by decide) kr_MD (by decide) rfl 38 (by decide) (hts _ hw_569) (fun _ h9 => h9) rfl (by decide +kernel) rfl d_MD_run_51 (fun s20 e21 H locs hP hS => ?_)
        replace h := xw_letI e21 h
        refine lv_aload_n hx hb d_MD_run_54 rfl (lv_at hl 0 rfl) ?_
        refine lv_iconst (v := xw_i 0) hx hb d_MD_run_55 rfl ?_
        refine xw_putI (C := "AdviceWeaverModel") (T := T_MD) hx hb hts hin_MD ty_MD ty_MD_ok nm_MD hown hK hP hD hS (by decide) kr_MD (by decide) rfl 39 (by decide) (hts _ hw_581) (fun _ h9 => h9) rfl (by decide +kernel) rfl d_MD_run_56 (fun s22 e23 H locs hP hS => ?_)
        replace h := xw_letI e23 h
        refine lv_aload_n hx hb d_MD_run_59 rfl (lv_at hl 0 rfl) ?_
        refine lv_iconst (v := xw_i 0) hx hb d_MD_run_60 rfl ?_
        refine xw_putI (C := "AdviceWeaverModel") (T := T_MD) hx hb hts hin_MD ty_MD ty_MD_ok nm_MD hown hK hP hD hS (by decide) kr_MD (by decide) rfl 40 (by decide) (hts _ hw_578) (fun _ h9 => h9) rfl (by decide +kernel) rfl d_MD_run_61 (fun s24 e25 H locs hP hS => ?_)
        replace h := xw_letI e25 h
        refine lv_iconst (v := xw_i 0) hx hb d_MD_run_64 rfl ?_
        refine lv_istore hx hb d_MD_run_65 hl (by decide) rfl (fun ls hl => ?_)
        refine xw_jnI (fun j => ∀ (sq : xw_S), j sq = some (sZ, r0) → ∀ (H : Heap) (locs : List Loc) (ls : Array Slot), va_P D vwCl (xw_ws kdR 29 ad cs Z sq) H → va_S A s.heap H locs → lv_has ls 7 [(0, .ref (ad 0)), (1, .int (xw_i p1)), (2, .int (xw_i p2)), (3, .int (xw_i p3)), (4, .int (xw_i p4)), (5, .int (xw_i p5))] → W p l e (headSpec w_MD_run ({ frames := 4, cells := 0, slots := 0, locals := 93 })).room s m [.ref (ad 0), .int (xw_i p1), .int (xw_i p2), .int (xw_i p3), .int (xw_i p4), .int (xw_i p5)].toArray below meth c H locs 0 0 (MQ below (va_Qi (fun r u => r = xw_i r0 ∧ u = sZ) (xw_H D vwCl A kdR 29 ad cs Z tt) A) [.ref (ad 0), .int (xw_i p1), .int (xw_i p2), .int (xw_i p3), .int (xw_i p4), .int (xw_i p5)].toArray s 0 0 A) (F0 m 89 ls [])) h ?_ ?_
        · intro s34 h H locs ls hP hS hl
          refine lv_aload_n hx hb d_MD_run_89 rfl (lv_at hl 0 rfl) ?_
          refine lv_iload_n hx hb d_MD_run_90 rfl (lv_at hl 1 rfl) ?_
          refine xw_jnI (fun j => ∀ (sq : xw_S) (t0_101 : Int), j sq t0_101 = some (sZ, r0) → ∀ (H : Heap) (locs : List Loc) (ls : Array Slot), va_P D vwCl (xw_ws kdR 29 ad cs Z sq) H → va_S A s.heap H locs → lv_has ls 7 [(0, .ref (ad 0)), (2, .int (xw_i p2)), (3, .int (xw_i p3)), (4, .int (xw_i p4)), (5, .int (xw_i p5))] → W p l e (headSpec w_MD_run ({ frames := 4, cells := 0, slots := 0, locals := 93 })).room s m [.ref (ad 0), .int (xw_i p1), .int (xw_i p2), .int (xw_i p3), .int (xw_i p4), .int (xw_i p5)].toArray below meth c H locs 0 0 (MQ below (va_Qi (fun r u => r = xw_i r0 ∧ u = sZ) (xw_H D vwCl A kdR 29 ad cs Z tt) A) [.ref (ad 0), .int (xw_i p1), .int (xw_i p2), .int (xw_i p3), .int (xw_i p4), .int (xw_i p5)].toArray s 0 0 A) (F0 m 101 ls [.int (xw_i t0_101), .ref (ad 0)])) h ?_ ?_
          · intro s37 t0_101 h H locs ls hP hS hl
            obtain ⟨s38, hc39, h⟩ := xw_bndI h
            refine xw_callVv (C := "AdviceWeaverModel") (T := T_MD) ⟨hx, hb, hml, hown, hts⟩ (c_MD_enter l D A ad cs Z tt fu s37 s38 t0_101 hc39) (cwV 1 hts (gd_V hw_574 hw_575 hw_576 hw_433 hw_577) rfl rfl rfl (by decide +kernel) ⟨Nat.le_of_ble_eq_true rfl, Nat.le_of_ble_eq_true rfl⟩) hP hK hD hX hS (by decide) kr_MD (by decide) rfl rfl hl.1 rfl (Nat.le_of_ble_eq_true rfl) d_MD_run_101 (fun H locs hP hS => ?_)
            refine lv_aload_n hx hb d_MD_run_104 rfl (lv_at hl 0 rfl) ?_
            refine xw_getR (C := "AdviceWeaverModel") (T := T_MD) hx hb hts hin_MD hown hK hP (by decide) kr_MD (by decide) rfl 35 (by decide) (hts _ hw_558) (fun _ h9 => h9) rfl d_MD_run_105 ?_
            refine lv_iconst (v := xw_i 0) hx hb d_MD_run_108 rfl ?_
            refine lv_aload_n hx hb d_MD_run_109 rfl (lv_at hl 0 rfl) ?_
            refine xw_getR (C := "AdviceWeaverModel") (T := T_MD) hx hb hts hin_MD hown hK hP (by decide) kr_MD (by decide) rfl 3 (by decide) (hts _ hw_444) (fun _ h9 => h9) rfl d_MD_run_110 ?_
            refine lv_iload_n hx hb d_MD_run_113 rfl (lv_at hl 1 rfl) ?_
            obtain ⟨hg41, h⟩ := xw_grdI h
            refine xw_iald hx hb hK hP (by decide) kr_m_args (by decide) hg41 d_MD_run_114 ?_
            refine xw_jnI (fun j => ∀ (sq : xw_S) (t0_123 : Int) (t1_123 : Int), j sq t0_123 t1_123 = some (sZ, r0) → ∀ (H : Heap) (locs : List Loc) (ls : Array Slot), va_P D vwCl (xw_ws kdR 29 ad cs Z sq) H → va_S A s.heap H locs → lv_has ls 7 [(0, .ref (ad 0)), (2, .int (xw_i p2)), (4, .int (xw_i p4)), (5, .int (xw_i p5))] → W p l e (headSpec w_MD_run ({ frames := 4, cells := 0, slots := 0, locals := 93 })).room s m [.ref (ad 0), .int (xw_i p1), .int (xw_i p2), .int (xw_i p3), .int (xw_i p4), .int (xw_i p5)].toArray below meth c H locs 0 0 (MQ below (va_Qi (fun r u => r = xw_i r0 ∧ u = sZ) (xw_H D vwCl A kdR 29 ad cs Z tt) A) [.ref (ad 0), .int (xw_i p1), .int (xw_i p2), .int (xw_i p3), .int (xw_i p4), .int (xw_i p5)].toArray s 0 0 A) (F0 m 123 ls [.int (xw_i t0_123), .int (xw_i t1_123), .ref (ad 25)])) h ?_ ?_
            · intro s44 t0_123 t1_123 h H locs ls hP hS hl
              obtain ⟨hg45, h⟩ := xw_grdI h
              refine xw_iast hx hb hK hP hD hS (by decide) kr_m_local (by decide) hg45 d_MD_run_123 (fun s46 e47 H locs hP hS => ?_)
              replace h := xw_letI e47 h
              refine lv_aload_n hx hb d_MD_run_124 rfl (lv_at hl 0 rfl) ?_
              refine xw_getR (C := "AdviceWeaverModel") (T := T_MD) hx hb hts hin_MD hown hK hP (by decide) kr_MD (by decide) rfl 35 (by decide) (hts _ hw_558) (fun _ h9 => h9) rfl d_MD_run_125 ?_
              refine lv_iconst (v := xw_i 1) hx hb d_MD_run_128 rfl ?_
              refine lv_aload_n hx hb d_MD_run_129 rfl (lv_at hl 0 rfl) ?_
              refine xw_getR (C := "AdviceWeaverModel") (T := T_MD) hx hb hts hin_MD hown hK hP (by decide) kr_MD (by decide) rfl 3 (by decide) (hts _ hw_444) (fun _ h9 => h9) rfl d_MD_run_130 ?_
              refine lv_iload_n hx hb d_MD_run_133 rfl (lv_at hl 1 rfl) ?_
              obtain ⟨hg48, h⟩ := xw_grdI h
              refine xw_iald hx hb hK hP (by decide) kr_m_args (by decide) hg48 d_MD_run_134 ?_
              refine lv_iconst (v := xw_i 1) hx hb d_MD_run_135 rfl ?_
              refine xw_jnI (fun j => ∀ (sq : xw_S) (t0_145 : Int) (t1_145 : Int), j sq t0_145 t1_145 = some (sZ, r0) → ∀ (H : Heap) (locs : List Loc) (ls : Array Slot), va_P D vwCl (xw_ws kdR 29 ad cs Z sq) H → va_S A s.heap H locs → lv_has ls 7 [(0, .ref (ad 0)), (5, .int (xw_i p5))] → W p l e (headSpec w_MD_run ({ frames := 4, cells := 0, slots := 0, locals := 93 })).room s m [.ref (ad 0), .int (xw_i p1), .int (xw_i p2), .int (xw_i p3), .int (xw_i p4), .int (xw_i p5)].toArray below meth c H locs 0 0 (MQ below (va_Qi (fun r u => r = xw_i r0 ∧ u = sZ) (xw_H D vwCl A kdR 29 ad cs Z tt) A) [.ref (ad 0), .int (xw_i p1), .int (xw_i p2), .int (xw_i p3), .int (xw_i p4), .int (xw_i p5)].toArray s 0 0 A) (F0 m 145 ls [.int (xw_i t0_145), .int (xw_i t1_145), .ref (ad 25)])) h ?_ ?_
              · intro s51 t0_145 t1_145 h H locs ls hP hS hl
                obtain ⟨hg52, h⟩ := xw_grdI h
                refine xw_iast hx hb hK hP hD hS (by decide) kr_m_local (by decide) hg52 d_MD_run_145 (fun s53 e54 H locs hP hS => ?_)
                replace h := xw_letI e54 h
                refine lv_iconst (v := xw_i 0) hx hb d_MD_run_146 rfl ?_
                refine lv_istore hx hb d_MD_run_147 hl (by decide) rfl (fun ls hl => ?_)
                refine xw_jnI (fun j => ∀ (sq : xw_S), j sq = some (sZ, r0) → ∀ (H : Heap) (locs : List Loc) (ls : Array Slot), va_P D vwCl (xw_ws kdR 29 ad cs Z sq) H → va_S A s.heap H locs → lv_has ls 7 [(0, .ref (ad 0))] → W p l e (headSpec w_MD_run ({ frames := 4, cells := 0, slots := 0, locals := 93 })).room s m [.ref (ad 0), .int (xw_i p1), .int (xw_i p2), .int (xw_i p3), .int (xw_i p4), .int (xw_i p5)].toArray below meth c H locs 0 0 (MQ below (va_Qi (fun r u => r = xw_i r0 ∧ u = sZ) (xw_H D vwCl A kdR 29 ad cs Z tt) A) [.ref (ad 0), .int (xw_i p1), .int (xw_i p2), .int (xw_i p3), .int (xw_i p4), .int (xw_i p5)].toArray s 0 0 A) (F0 m 175 ls [])) h ?_ ?_
                · intro s65 h H locs ls hP hS hl
                  refine lv_aload_n hx hb d_MD_run_175 rfl (lv_at hl 0 rfl) ?_
                  refine xw_getI (C := "AdviceWeaverModel") (T := T_MD) hx hb hts hin_MD hown hK hP (by decide) kr_MD (by decide) rfl 37 (by decide) (hts _ hw_568) (fun _ h9 => h9) rfl d_MD_run_176 ?_
                  exact xw_iretE hx hb hr hlk hP hK hD hX hS h d_MD_run_179
                · intro k175 hk175 h
                  exact hlp149 p5 k175 hk175 fu s53 0 h _ _ _ hP hS (lv_sub hl [1, 2, 0] rfl)
              · intro j145 hj145 h
                obtain ⟨hg49, h⟩ := xw_grdI h
                refine xw_icmp_le (tgt := 144) hx hb hg49 (by decide) d_MD_run_136 (by decide) (fun hc50 => ?_) (fun hc50 => ?_)
                · replace h := xw_ifT hc50 h
                  refine lv_iconst (v := xw_i 0) hx hb d_MD_run_144 rfl ?_
                  exact hj145 s46 0 1 h _ _ _ hP hS (lv_sub hl [0, 3] rfl)
                · replace h := xw_ifF hc50 h
                  refine lv_iload hx hb d_MD_run_139 (lv_at hl 2 rfl) ?_
                  refine lv_goto (tgt := 145) hx hb d_MD_run_141 (by decide) ?_
                  exact hj145 s46 p4 1 h _ _ _ hP hS (lv_sub hl [0, 3] rfl)
            · intro j123 hj123 h
              obtain ⟨hg42, h⟩ := xw_grdI h
              refine xw_if_le (tgt := 122) hx hb hg42 d_MD_run_115 (by decide) (fun hc43 => ?_) (fun hc43 => ?_)
              · replace h := xw_ifT hc43 h
                refine lv_iconst (v := xw_i 0) hx hb d_MD_run_122 rfl ?_
                exact hj123 s38 0 0 h _ _ _ hP hS (lv_sub hl [0, 1, 3, 4] rfl)
              · replace h := xw_ifF hc43 h
                refine lv_iload_n hx hb d_MD_run_118 rfl (lv_at hl 2 rfl) ?_
                refine lv_goto (tgt := 123) hx hb d_MD_run_119 (by decide) ?_
                exact hj123 s38 p3 0 h _ _ _ hP hS (lv_sub hl [0, 1, 3, 4] rfl)
          · intro j101 hj101 h
            obtain ⟨hg35, h⟩ := xw_grdI h
            refine xw_if_eq (tgt := 100) hx hb hg35 d_MD_run_91 (by decide) (fun hc36 => ?_) (fun hc36 => ?_)
            · replace h := xw_ifT hc36 h
              refine lv_iload_n hx hb d_MD_run_100 rfl (lv_at hl 2 rfl) ?_
              exact hj101 s34 p2 h _ _ _ hP hS (lv_sub hl [0, 2, 3, 4, 5] rfl)
            · replace h := xw_ifF hc36 h
              refine lv_iconst (v := xw_i 4) hx hb d_MD_run_94 rfl ?_
              refine lv_iload_n hx hb d_MD_run_95 rfl (lv_at hl 2 rfl) ?_
              refine xw_iadd hx hb d_MD_run_96 ?_
              refine lv_goto (tgt := 101) hx hb d_MD_run_97 (by decide) ?_
              exact hj101 s34 (4 + p2) h _ _ _ hP hS (lv_sub hl [0, 2, 3, 4, 5] rfl)
        · intro k89 hk89 h
          exact hlp67 p1 p2 p3 p4 p5 k89 hk89 fu s24 0 h _ _ _ hP hS (lv_sub hl [1, 2, 3, 4, 5, 6, 0] rfl)
      · intro j39 hj39 h
        obtain ⟨hg11, h⟩ := xw_grdI h
        refine xw_if_eq (tgt := 39) hx hb hg11 d_MD_run_27 (by decide) (fun hc12 => ?_) (fun hc12 => ?_)
        · replace h := xw_ifT hc12 h
          exact hj39 s6 h _ _ _ hP hS (lv_sub hl [0, 1, 2, 3, 4, 5] rfl)
        · replace h := xw_ifF hc12 h
          refine lv_aload_n hx hb d_MD_run_30 rfl (lv_at hl 0 rfl) ?_
          refine xw_getI (C := "AdviceWeaverModel") (T := T_MD) hx hb hts hin_MD hown hK hP (by decide) kr_MD (by decide) rfl 12 (by decide) (hts _ hw_518) (fun _ h9 => h9) rfl d_MD_run_31 ?_
          obtain ⟨hg13, h⟩ := xw_grdI h
          refine xw_if_ne (tgt := 39) hx hb hg13 d_MD_run_34 (by decide) (fun hc14 => ?_) (fun hc14 => ?_)
          · replace h := xw_ifF hc14 h
            exact hj39 s6 h _ _ _ hP hS (lv_sub hl [0, 1, 2, 3, 4, 5] rfl)
          · replace h := xw_ifT hc14 h
            refine lv_iconst (v := xw_i (-1)) hx hb d_MD_run_37 rfl ?_
            exact xw_iretE hx hb hr hlk hP hK hD hX hS h d_MD_run_38
def f_MD_value (fu : Nat) (s0 : xw_S) : Option (xw_S × Int) :=
 some (s0, s0.1 0 38)
set_option maxRecDepth 100000 in
set_option maxHeartbeats 4000000 in
theorem c_MD_value (l : Launch) (D : va_G) (A : Nat → Prop) (ad : Nat → Nat) (cs : Nat → ClassId) (Z : va_W) (tt : Nat → Nat) (fu : Nat) (s0 sZ : xw_S) (r0 : Int) (h : f_MD_value fu s0 = some (sZ, r0)) : Met l y_MD_value w_MD_value ({ frames := 0, cells := 0, slots := 0, locals := 0 }) (va_Pc [.ref (ad 0)] (xw_H D vwCl A kdR 29 ad cs Z tt s0)) (va_Qi (fun r u => r = xw_i r0 ∧ u = sZ) (xw_H D vwCl A kdR 29 ad cs Z tt) A) 0 0 A := by
  refine Met.ofW (cc := b_MD_value) (maxL := 1) (ret := (some .int)) (by decide) rfl ?_
  intro p e s m args below meth c s₁ B hml hv
  obtain ⟨rfl, hP, hK, hD, hX⟩ := hv
  have hx := B.exec
  have hb := B.bytes
  have hr := B.returns
  have hts0 := atoms_spec (ws := w_MD_value) B.pre
  have hts := fun w (hw : w ∈ wAll) => hts0 w (List.mem_cons_of_mem _ hw)
  have hown : s.vm.findClass "AdviceWeaverModel" = some m.cls := findClass_of_methodNamed B.named
  have hlk := B.notSynchronized
  clear hts0 B
  have hS : va_S A s.heap s.heap [] := va_S.rf
  have hl := lv_entry [.ref (ad 0)] (n := 1) (Nat.le_of_ble_eq_true rfl)
  rw [lg_entry_eq]
  generalize (lg_sl [.ref (ad 0)] ++ List.replicate (1 - (lg_sl [.ref (ad 0)]).length) Slot.unset).toArray = ls at hl ⊢
  have hl : lv_has ls 1 [(0, .ref (ad 0))] := hl
  unfold f_MD_value at h
  refine lv_aload_n hx hb d_MD_value_0 rfl (lv_at hl 0 rfl) ?_
  refine xw_getI (C := "AdviceWeaverModel") (T := T_MD) hx hb hts hin_MD hown hK hP (by decide) kr_MD (by decide) rfl 38 (by decide) (hts _ hw_569) (fun _ h9 => h9) rfl d_MD_value_1 ?_
  exact xw_iretE hx hb hr hlk hP hK hD hX hS h d_MD_value_4
def f_MD_used (fu : Nat) (s0 : xw_S) : Option (xw_S × Int) :=
 some (s0, s0.1 0 39)
set_option maxRecDepth 100000 in
set_option maxHeartbeats 4000000 in
theorem c_MD_used (l : Launch) (D : va_G) (A : Nat → Prop) (ad : Nat → Nat) (cs : Nat → ClassId) (Z : va_W) (tt : Nat → Nat) (fu : Nat) (s0 sZ : xw_S) (r0 : Int) (h : f_MD_used fu s0 = some (sZ, r0)) : Met l y_MD_used w_MD_used ({ frames := 0, cells := 0, slots := 0, locals := 0 }) (va_Pc [.ref (ad 0)] (xw_H D vwCl A kdR 29 ad cs Z tt s0)) (va_Qi (fun r u => r = xw_i r0 ∧ u = sZ) (xw_H D vwCl A kdR 29 ad cs Z tt) A) 0 0 A := by
  refine Met.ofW (cc := b_MD_used) (maxL := 1) (ret := (some .int)) (by decide) rfl ?_
  intro p e s m args below meth c s₁ B hml hv
  obtain ⟨rfl, hP, hK, hD, hX⟩ := hv
  have hx := B.exec
  have hb := B.bytes
  have hr := B.returns
  have hts0 := atoms_spec (ws := w_MD_used) B.pre
  have hts := fun w (hw : w ∈ wAll) => hts0 w (List.mem_cons_of_mem _ hw)
  have hown : s.vm.findClass "AdviceWeaverModel" = some m.cls := findClass_of_methodNamed B.named
  have hlk := B.notSynchronized
  clear hts0 B
  have hS : va_S A s.heap s.heap [] := va_S.rf
  have hl := lv_entry [.ref (ad 0)] (n := 1) (Nat.le_of_ble_eq_true rfl)
  rw [lg_entry_eq]
  generalize (lg_sl [.ref (ad 0)] ++ List.replicate (1 - (lg_sl [.ref (ad 0)]).length) Slot.unset).toArray = ls at hl ⊢
  have hl : lv_has ls 1 [(0, .ref (ad 0))] := hl
  unfold f_MD_used at h
  refine lv_aload_n hx hb d_MD_used_0 rfl (lv_at hl 0 rfl) ?_
  refine xw_getI (C := "AdviceWeaverModel") (T := T_MD) hx hb hts hin_MD hown hK hP (by decide) kr_MD (by decide) rfl 39 (by decide) (hts _ hw_581) (fun _ h9 => h9) rfl d_MD_used_1 ?_
  exact xw_iretE hx hb hr hlk hP hK hD hX hS h d_MD_used_4
def f_MD_marks (fu : Nat) (s0 : xw_S) : Option (xw_S × Int) :=
 some (s0, s0.1 0 40)
set_option maxRecDepth 100000 in
set_option maxHeartbeats 4000000 in
theorem c_MD_marks (l : Launch) (D : va_G) (A : Nat → Prop) (ad : Nat → Nat) (cs : Nat → ClassId) (Z : va_W) (tt : Nat → Nat) (fu : Nat) (s0 sZ : xw_S) (r0 : Int) (h : f_MD_marks fu s0 = some (sZ, r0)) : Met l y_MD_marks w_MD_marks ({ frames := 0, cells := 0, slots := 0, locals := 0 }) (va_Pc [.ref (ad 0)] (xw_H D vwCl A kdR 29 ad cs Z tt s0)) (va_Qi (fun r u => r = xw_i r0 ∧ u = sZ) (xw_H D vwCl A kdR 29 ad cs Z tt) A) 0 0 A := by
  refine Met.ofW (cc := b_MD_marks) (maxL := 1) (ret := (some .int)) (by decide) rfl ?_
  intro p e s m args below meth c s₁ B hml hv
  obtain ⟨rfl, hP, hK, hD, hX⟩ := hv
  have hx := B.exec
  have hb := B.bytes
  have hr := B.returns
  have hts0 := atoms_spec (ws := w_MD_marks) B.pre
  have hts := fun w (hw : w ∈ wAll) => hts0 w (List.mem_cons_of_mem _ hw)
  have hown : s.vm.findClass "AdviceWeaverModel" = some m.cls := findClass_of_methodNamed B.named
  have hlk := B.notSynchronized
  clear hts0 B
  have hS : va_S A s.heap s.heap [] := va_S.rf
  have hl := lv_entry [.ref (ad 0)] (n := 1) (Nat.le_of_ble_eq_true rfl)
  rw [lg_entry_eq]
  generalize (lg_sl [.ref (ad 0)] ++ List.replicate (1 - (lg_sl [.ref (ad 0)]).length) Slot.unset).toArray = ls at hl ⊢
  have hl : lv_has ls 1 [(0, .ref (ad 0))] := hl
  unfold f_MD_marks at h
  refine lv_aload_n hx hb d_MD_marks_0 rfl (lv_at hl 0 rfl) ?_
  refine xw_getI (C := "AdviceWeaverModel") (T := T_MD) hx hb hts hin_MD hown hK hP (by decide) kr_MD (by decide) rfl 40 (by decide) (hts _ hw_578) (fun _ h9 => h9) rfl d_MD_marks_1 ?_
  exact xw_iretE hx hb hr hlk hP hK hD hX hS h d_MD_marks_4
def f_MD_mark (fu : Nat) (s0 : xw_S) (p1 : Int) : Option (xw_S × Int) :=
 xw_bn2 (f_MD_outside fu s0 p1 0 99) (fun s1 r3 => xw_jn (fun (s9 : xw_S) => some (s9, -1))
 (fun (j18 : xw_S → Option (xw_S × Int)) => xw_grd (xw_r r3) (xw_if (r3 = 0) (xw_grd (xw_r p1 ∧ xw_r (s1.1 0 40)) (xw_if (p1 < s1.1 0 40) (xw_grd ((0 ≤ p1 ∧ p1 < ((100 : Nat) : Int))) (some (s1, s1.1 27 (p1).toNat)))
 (j18 s1)))
 (j18 s1))))
set_option maxRecDepth 100000 in
set_option maxHeartbeats 4000000 in
theorem c_MD_mark (l : Launch) (D : va_G) (A : Nat → Prop) (ad : Nat → Nat) (cs : Nat → ClassId) (Z : va_W) (tt : Nat → Nat) (fu : Nat) (s0 sZ : xw_S) (p1 : Int) (r0 : Int) (h : f_MD_mark fu s0 p1 = some (sZ, r0)) : Met l y_MD_mark w_MD_mark ({ frames := 1, cells := 0, slots := 0, locals := 22 }) (va_Pc [.ref (ad 0), .int (xw_i p1)] (xw_H D vwCl A kdR 29 ad cs Z tt s0)) (va_Qi (fun r u => r = xw_i r0 ∧ u = sZ) (xw_H D vwCl A kdR 29 ad cs Z tt) A) 0 0 A := by
  refine Met.ofW (cc := b_MD_mark) (maxL := 2) (ret := (some .int)) (by decide) rfl ?_
  intro p e s m args below meth c s₁ B hml hv
  obtain ⟨rfl, hP, hK, hD, hX⟩ := hv
  have hx := B.exec
  have hb := B.bytes
  have hr := B.returns
  have hts0 := atoms_spec (ws := w_MD_mark) B.pre
  have hts := fun w (hw : w ∈ wAll) => hts0 w (List.mem_cons_of_mem _ hw)
  have hown : s.vm.findClass "AdviceWeaverModel" = some m.cls := findClass_of_methodNamed B.named
  have hlk := B.notSynchronized
  clear hts0 B
  have hS : va_S A s.heap s.heap [] := va_S.rf
  have hl := lv_entry [.ref (ad 0), .int (xw_i p1)] (n := 2) (Nat.le_of_ble_eq_true rfl)
  rw [lg_entry_eq]
  generalize (lg_sl [.ref (ad 0), .int (xw_i p1)] ++ List.replicate (2 - (lg_sl [.ref (ad 0), .int (xw_i p1)]).length) Slot.unset).toArray = ls at hl ⊢
  have hl : lv_has ls 2 [(0, .ref (ad 0)), (1, .int (xw_i p1))] := hl
  unfold f_MD_mark at h
  refine lv_iload_n hx hb d_MD_mark_0 rfl (lv_at hl 1 rfl) ?_
  refine lv_iconst (v := xw_i 0) hx hb d_MD_mark_1 rfl ?_
  refine lv_bipush (v := xw_i 99) hx hb d_MD_mark_2 (by decide) ?_
  obtain ⟨s1, r3, hc2, h⟩ := xw_bn2I h
  refine xw_callSi ⟨hx, hb, hml, hown, hts⟩ (c_MD_outside l D A ad cs Z tt fu s0 s1 p1 0 99 r3 hc2) (va_cwS 3 hts (gd_S hw_431 hw_432 hw_433 hw_434) rfl rfl rfl (by decide +kernel) ⟨Nat.le_of_ble_eq_true rfl, Nat.le_of_ble_eq_true rfl⟩) hP hK hD hX hS rfl hl.1 rfl (Nat.le_of_ble_eq_true rfl) d_MD_mark_4 (fun H locs hP hS => ?_)
  refine xw_jnI (fun j => ∀ (sq : xw_S), j sq = some (sZ, r0) → ∀ (H : Heap) (locs : List Loc) (ls : Array Slot), va_P D vwCl (xw_ws kdR 29 ad cs Z sq) H → va_S A s.heap H locs → lv_has ls 2 [] → W p l e (headSpec w_MD_mark ({ frames := 1, cells := 0, slots := 0, locals := 22 })).room s m [.ref (ad 0), .int (xw_i p1)].toArray below meth c H locs 0 0 (MQ below (va_Qi (fun r u => r = xw_i r0 ∧ u = sZ) (xw_H D vwCl A kdR 29 ad cs Z tt) A) [.ref (ad 0), .int (xw_i p1)].toArray s 0 0 A) (F0 m 18 ls [])) h ?_ ?_
  · intro s9 h H locs ls hP hS hl
    refine lv_iconst (v := xw_i (-1)) hx hb d_MD_mark_18 rfl ?_
    refine lv_goto (tgt := 28) hx hb d_MD_mark_19 (by decide) ?_
    exact xw_iretE hx hb hr hlk hP hK hD hX hS h d_MD_mark_28
  · intro j18 hj18 h
    obtain ⟨hg4, h⟩ := xw_grdI h
    refine xw_if_ne (tgt := 18) hx hb hg4 d_MD_mark_7 (by decide) (fun hc5 => ?_) (fun hc5 => ?_)
    · replace h := xw_ifF hc5 h
      exact hj18 s1 h _ _ _ hP hS (lv_sub hl [] rfl)
    · replace h := xw_ifT hc5 h
      refine lv_iload_n hx hb d_MD_mark_10 rfl (lv_at hl 1 rfl) ?_
      refine lv_aload_n hx hb d_MD_mark_11 rfl (lv_at hl 0 rfl) ?_
      refine xw_getI (C := "AdviceWeaverModel") (T := T_MD) hx hb hts hin_MD hown hK hP (by decide) kr_MD (by decide) rfl 40 (by decide) (hts _ hw_578) (fun _ h9 => h9) rfl d_MD_mark_12 ?_
      obtain ⟨hg6, h⟩ := xw_grdI h
      refine xw_icmp_lt (tgt := 22) hx hb hg6.1 hg6.2 d_MD_mark_15 (by decide) (fun hc7 => ?_) (fun hc7 => ?_)
      · replace h := xw_ifT hc7 h
        refine lv_aload_n hx hb d_MD_mark_22 rfl (lv_at hl 0 rfl) ?_
        refine xw_getR (C := "AdviceWeaverModel") (T := T_MD) hx hb hts hin_MD hown hK hP (by decide) kr_MD (by decide) rfl 41 (by decide) (hts _ hw_579) (fun _ h9 => h9) rfl d_MD_mark_23 ?_
        refine lv_iload_n hx hb d_MD_mark_26 rfl (lv_at hl 1 rfl) ?_
        obtain ⟨hg8, h⟩ := xw_grdI h
        refine xw_iald hx hb hK hP (by decide) kr_m_mark (by decide) hg8 d_MD_mark_27 ?_
        exact xw_iretE hx hb hr hlk hP hK hD hX hS h d_MD_mark_28
      · replace h := xw_ifF hc7 h
        exact hj18 s1 h _ _ _ hP hS (lv_sub hl [] rfl)
def f_MD_probe (fu : Nat) (s0 : xw_S) (p1 : Int) (p2 : Int) : Option (xw_S × Int) :=
 xw_bn2 (f_MD_outside fu s0 p1 0 3) (fun s1 r3 => xw_jn (fun (s12 : xw_S) => some (s12, 0))
 (fun (j20 : xw_S → Option (xw_S × Int)) => xw_grd (xw_r r3) (xw_if (r3 = 0) (xw_bn2 (f_MD_outside fu s1 p2 0 255) (fun s6 r8 => xw_grd (xw_r r8) (xw_if (r8 = 0) (xw_grd ((0 ≤ (256 * p1) + p2 ∧ (256 * p1) + p2 < ((1024 : Nat) : Int))) (some (s6, s6.1 28 ((256 * p1) + p2).toNat)))
 (j20 s6))))
 (j20 s1))))
set_option maxRecDepth 100000 in
set_option maxHeartbeats 4000000 in
theorem c_MD_probe (l : Launch) (D : va_G) (A : Nat → Prop) (ad : Nat → Nat) (cs : Nat → ClassId) (Z : va_W) (tt : Nat → Nat) (fu : Nat) (s0 sZ : xw_S) (p1 : Int) (p2 : Int) (r0 : Int) (h : f_MD_probe fu s0 p1 p2 = some (sZ, r0)) : Met l y_MD_probe w_MD_probe ({ frames := 1, cells := 0, slots := 0, locals := 22 }) (va_Pc [.ref (ad 0), .int (xw_i p1), .int (xw_i p2)] (xw_H D vwCl A kdR 29 ad cs Z tt s0)) (va_Qi (fun r u => r = xw_i r0 ∧ u = sZ) (xw_H D vwCl A kdR 29 ad cs Z tt) A) 0 0 A := by
  refine Met.ofW (cc := b_MD_probe) (maxL := 3) (ret := (some .int)) (by decide) rfl ?_
  intro p e s m args below meth c s₁ B hml hv
  obtain ⟨rfl, hP, hK, hD, hX⟩ := hv
  have hx := B.exec
  have hb := B.bytes
  have hr := B.returns
  have hts0 := atoms_spec (ws := w_MD_probe) B.pre
  have hts := fun w (hw : w ∈ wAll) => hts0 w (List.mem_cons_of_mem _ hw)
  have hown : s.vm.findClass "AdviceWeaverModel" = some m.cls := findClass_of_methodNamed B.named
  have hlk := B.notSynchronized
  clear hts0 B
  have hS : va_S A s.heap s.heap [] := va_S.rf
  have hl := lv_entry [.ref (ad 0), .int (xw_i p1), .int (xw_i p2)] (n := 3) (Nat.le_of_ble_eq_true rfl)
  rw [lg_entry_eq]
  generalize (lg_sl [.ref (ad 0), .int (xw_i p1), .int (xw_i p2)] ++ List.replicate (3 - (lg_sl [.ref (ad 0), .int (xw_i p1), .int (xw_i p2)]).length) Slot.unset).toArray = ls at hl ⊢
  have hl : lv_has ls 3 [(0, .ref (ad 0)), (1, .int (xw_i p1)), (2, .int (xw_i p2))] := hl
  unfold f_MD_probe at h
  refine lv_iload_n hx hb d_MD_probe_0 rfl (lv_at hl 1 rfl) ?_
  refine lv_iconst (v := xw_i 0) hx hb d_MD_probe_1 rfl ?_
  refine lv_iconst (v := xw_i 3) hx hb d_MD_probe_2 rfl ?_
  obtain ⟨s1, r3, hc2, h⟩ := xw_bn2I h
  refine xw_callSi ⟨hx, hb, hml, hown, hts⟩ (c_MD_outside l D A ad cs Z tt fu s0 s1 p1 0 3 r3 hc2) (va_cwS 3 hts (gd_S hw_431 hw_432 hw_433 hw_434) rfl rfl rfl (by decide +kernel) ⟨Nat.le_of_ble_eq_true rfl, Nat.le_of_ble_eq_true rfl⟩) hP hK hD hX hS rfl hl.1 rfl (Nat.le_of_ble_eq_true rfl) d_MD_probe_3 (fun H locs hP hS => ?_)
  refine xw_jnI (fun j => ∀ (sq : xw_S), j sq = some (sZ, r0) → ∀ (H : Heap) (locs : List Loc) (ls : Array Slot), va_P D vwCl (xw_ws kdR 29 ad cs Z sq) H → va_S A s.heap H locs → lv_has ls 3 [] → W p l e (headSpec w_MD_probe ({ frames := 1, cells := 0, slots := 0, locals := 22 })).room s m [.ref (ad 0), .int (xw_i p1), .int (xw_i p2)].toArray below meth c H locs 0 0 (MQ below (va_Qi (fun r u => r = xw_i r0 ∧ u = sZ) (xw_H D vwCl A kdR 29 ad cs Z tt) A) [.ref (ad 0), .int (xw_i p1), .int (xw_i p2)].toArray s 0 0 A) (F0 m 20 ls [])) h ?_ ?_
  · intro s12 h H locs ls hP hS hl
    refine lv_iconst (v := xw_i 0) hx hb d_MD_probe_20 rfl ?_
    refine lv_goto (tgt := 36) hx hb d_MD_probe_21 (by decide) ?_
    exact xw_iretE hx hb hr hlk hP hK hD hX hS h d_MD_probe_36
  · intro j20 hj20 h
    obtain ⟨hg4, h⟩ := xw_grdI h
    refine xw_if_ne (tgt := 20) hx hb hg4 d_MD_probe_6 (by decide) (fun hc5 => ?_) (fun hc5 => ?_)
    · replace h := xw_ifF hc5 h
      exact hj20 s1 h _ _ _ hP hS (lv_sub hl [] rfl)
    · replace h := xw_ifT hc5 h
      refine lv_iload_n hx hb d_MD_probe_9 rfl (lv_at hl 2 rfl) ?_
      refine lv_iconst (v := xw_i 0) hx hb d_MD_probe_10 rfl ?_
      refine lv_sipush (v := xw_i 255) hx hb d_MD_probe_11 (by decide) ?_
      obtain ⟨s6, r8, hc7, h⟩ := xw_bn2I h
      refine xw_callSi ⟨hx, hb, hml, hown, hts⟩ (c_MD_outside l D A ad cs Z tt fu s1 s6 p2 0 255 r8 hc7) (va_cwS 3 hts (gd_S hw_431 hw_432 hw_433 hw_434) rfl rfl rfl (by decide +kernel) ⟨Nat.le_of_ble_eq_true rfl, Nat.le_of_ble_eq_true rfl⟩) hP hK hD hX hS rfl hl.1 rfl (Nat.le_of_ble_eq_true rfl) d_MD_probe_14 (fun H locs hP hS => ?_)
      obtain ⟨hg9, h⟩ := xw_grdI h
      refine xw_if_eq (tgt := 24) hx hb hg9 d_MD_probe_17 (by decide) (fun hc10 => ?_) (fun hc10 => ?_)
      · replace h := xw_ifT hc10 h
        refine lv_aload_n hx hb d_MD_probe_24 rfl (lv_at hl 0 rfl) ?_
        refine xw_getR (C := "AdviceWeaverModel") (T := T_MD) hx hb hts hin_MD hown hK hP (by decide) kr_MD (by decide) rfl 42 (by decide) (hts _ hw_580) (fun _ h9 => h9) rfl d_MD_probe_25 ?_
        refine lv_sipush (v := xw_i 256) hx hb d_MD_probe_28 (by decide) ?_
        refine lv_iload_n hx hb d_MD_probe_31 rfl (lv_at hl 1 rfl) ?_
        refine xw_imul hx hb d_MD_probe_32 ?_
        refine lv_iload_n hx hb d_MD_probe_33 rfl (lv_at hl 2 rfl) ?_
        refine xw_iadd hx hb d_MD_probe_34 ?_
        obtain ⟨hg11, h⟩ := xw_grdI h
        refine xw_iald hx hb hK hP (by decide) kr_m_probe (by decide) hg11 d_MD_probe_35 ?_
        exact xw_iretE hx hb hr hlk hP hK hD hX hS h d_MD_probe_36
      · replace h := xw_ifF hc10 h
        exact hj20 s6 h _ _ _ hP hS (lv_sub hl [] rfl)
def f_MD_slot (fu : Nat) (s0 : xw_S) (p1 : Int) (p2 : Int) : Option (xw_S × Int) :=
 xw_bn2 (f_MD_outside fu s0 p2 0 ((s0.1 0 10) - 1)) (fun s1 r3 => xw_jn (fun (s13 : xw_S) => some (s13, -1))
 (fun (j25 : xw_S → Option (xw_S × Int)) => xw_grd (xw_r r3) (xw_if (r3 = 0) (xw_jn (fun (s10 : xw_S) => xw_grd (xw_r p1) (xw_if (p1 = 0) (some (s10, p2))
 (some (s10, 4 + p2))))
 (fun (j29 : xw_S → Option (xw_S × Int)) => xw_grd (xw_r p1) (xw_if (p1 = 0) (j29 s1)
 (xw_grd (xw_r (s1.1 0 12)) (xw_if (s1.1 0 12 = 0) (j25 s1)
 (j29 s1))))))
 (j25 s1))))
set_option maxRecDepth 100000 in
set_option maxHeartbeats 4000000 in
theorem c_MD_slot (l : Launch) (D : va_G) (A : Nat → Prop) (ad : Nat → Nat) (cs : Nat → ClassId) (Z : va_W) (tt : Nat → Nat) (fu : Nat) (s0 sZ : xw_S) (p1 : Int) (p2 : Int) (r0 : Int) (h : f_MD_slot fu s0 p1 p2 = some (sZ, r0)) : Met l y_MD_slot w_MD_slot ({ frames := 1, cells := 0, slots := 0, locals := 22 }) (va_Pc [.ref (ad 0), .int (xw_i p1), .int (xw_i p2)] (xw_H D vwCl A kdR 29 ad cs Z tt s0)) (va_Qi (fun r u => r = xw_i r0 ∧ u = sZ) (xw_H D vwCl A kdR 29 ad cs Z tt) A) 0 0 A := by
  refine Met.ofW (cc := b_MD_slot) (maxL := 3) (ret := (some .int)) (by decide) rfl ?_
  intro p e s m args below meth c s₁ B hml hv
  obtain ⟨rfl, hP, hK, hD, hX⟩ := hv
  have hx := B.exec
  have hb := B.bytes
  have hr := B.returns
  have hts0 := atoms_spec (ws := w_MD_slot) B.pre
  have hts := fun w (hw : w ∈ wAll) => hts0 w (List.mem_cons_of_mem _ hw)
  have hown : s.vm.findClass "AdviceWeaverModel" = some m.cls := findClass_of_methodNamed B.named
  have hlk := B.notSynchronized
  clear hts0 B
  have hS : va_S A s.heap s.heap [] := va_S.rf
  have hl := lv_entry [.ref (ad 0), .int (xw_i p1), .int (xw_i p2)] (n := 3) (Nat.le_of_ble_eq_true rfl)
  rw [lg_entry_eq]
  generalize (lg_sl [.ref (ad 0), .int (xw_i p1), .int (xw_i p2)] ++ List.replicate (3 - (lg_sl [.ref (ad 0), .int (xw_i p1), .int (xw_i p2)]).length) Slot.unset).toArray = ls at hl ⊢
  have hl : lv_has ls 3 [(0, .ref (ad 0)), (1, .int (xw_i p1)), (2, .int (xw_i p2))] := hl
  unfold f_MD_slot at h
  refine lv_iload_n hx hb d_MD_slot_0 rfl (lv_at hl 2 rfl) ?_
  refine lv_iconst (v := xw_i 0) hx hb d_MD_slot_1 rfl ?_
  refine lv_aload_n hx hb d_MD_slot_2 rfl (lv_at hl 0 rfl) ?_
  refine xw_getI (C := "AdviceWeaverModel") (T := T_MD) hx hb hts hin_MD hown hK hP (by decide) kr_MD (by decide) rfl 10 (by decide) (hts _ hw_517) (fun _ h9 => h9) rfl d_MD_slot_3 ?_
  refine lv_iconst (v := xw_i 1) hx hb d_MD_slot_6 rfl ?_
  refine xw_isub hx hb d_MD_slot_7 ?_
  obtain ⟨s1, r3, hc2, h⟩ := xw_bn2I h
  refine xw_callSi ⟨hx, hb, hml, hown, hts⟩ (c_MD_outside l D A ad cs Z tt fu s0 s1 p2 0 ((s0.1 0 10) - 1) r3 hc2) (va_cwS 3 hts (gd_S hw_431 hw_432 hw_433 hw_434) rfl rfl rfl (by decide +kernel) ⟨Nat.le_of_ble_eq_true rfl, Nat.le_of_ble_eq_true rfl⟩) hP hK hD hX hS rfl hl.1 rfl (Nat.le_of_ble_eq_true rfl) d_MD_slot_8 (fun H locs hP hS => ?_)
  refine xw_jnI (fun j => ∀ (sq : xw_S), j sq = some (sZ, r0) → ∀ (H : Heap) (locs : List Loc) (ls : Array Slot), va_P D vwCl (xw_ws kdR 29 ad cs Z sq) H → va_S A s.heap H locs → lv_has ls 3 [] → W p l e (headSpec w_MD_slot ({ frames := 1, cells := 0, slots := 0, locals := 22 })).room s m [.ref (ad 0), .int (xw_i p1), .int (xw_i p2)].toArray below meth c H locs 0 0 (MQ below (va_Qi (fun r u => r = xw_i r0 ∧ u = sZ) (xw_H D vwCl A kdR 29 ad cs Z tt) A) [.ref (ad 0), .int (xw_i p1), .int (xw_i p2)].toArray s 0 0 A) (F0 m 25 ls [])) h ?_ ?_
  · intro s13 h H locs ls hP hS hl
    refine lv_iconst (v := xw_i (-1)) hx hb d_MD_slot_25 rfl ?_
    refine lv_goto (tgt := 40) hx hb d_MD_slot_26 (by decide) ?_
    exact xw_iretE hx hb hr hlk hP hK hD hX hS h d_MD_slot_40
  · intro j25 hj25 h
    obtain ⟨hg4, h⟩ := xw_grdI h
    refine xw_if_ne (tgt := 25) hx hb hg4 d_MD_slot_11 (by decide) (fun hc5 => ?_) (fun hc5 => ?_)
    · replace h := xw_ifF hc5 h
      exact hj25 s1 h _ _ _ hP hS (lv_sub hl [] rfl)
    · replace h := xw_ifT hc5 h
      refine lv_iload_n hx hb d_MD_slot_14 rfl (lv_at hl 1 rfl) ?_
      refine xw_jnI (fun j => ∀ (sq : xw_S), j sq = some (sZ, r0) → ∀ (H : Heap) (locs : List Loc) (ls : Array Slot), va_P D vwCl (xw_ws kdR 29 ad cs Z sq) H → va_S A s.heap H locs → lv_has ls 3 [(1, .int (xw_i p1)), (2, .int (xw_i p2))] → W p l e (headSpec w_MD_slot ({ frames := 1, cells := 0, slots := 0, locals := 22 })).room s m [.ref (ad 0), .int (xw_i p1), .int (xw_i p2)].toArray below meth c H locs 0 0 (MQ below (va_Qi (fun r u => r = xw_i r0 ∧ u = sZ) (xw_H D vwCl A kdR 29 ad cs Z tt) A) [.ref (ad 0), .int (xw_i p1), .int (xw_i p2)].toArray s 0 0 A) (F0 m 29 ls [])) h ?_ ?_
      · intro s10 h H locs ls hP hS hl
        refine lv_iload_n hx hb d_MD_slot_29 rfl (lv_at hl 0 rfl) ?_
        obtain ⟨hg11, h⟩ := xw_grdI h
        refine xw_if_eq (tgt := 39) hx hb hg11 d_MD_slot_30 (by decide) (fun hc12 => ?_) (fun hc12 => ?_)
        · replace h := xw_ifT hc12 h
          refine lv_iload_n hx hb d_MD_slot_39 rfl (lv_at hl 1 rfl) ?_
          exact xw_iretE hx hb hr hlk hP hK hD hX hS h d_MD_slot_40
        · replace h := xw_ifF hc12 h
          refine lv_iconst (v := xw_i 4) hx hb d_MD_slot_33 rfl ?_
          refine lv_iload_n hx hb d_MD_slot_34 rfl (lv_at hl 1 rfl) ?_
          refine xw_iadd hx hb d_MD_slot_35 ?_
          refine lv_goto (tgt := 40) hx hb d_MD_slot_36 (by decide) ?_
          exact xw_iretE hx hb hr hlk hP hK hD hX hS h d_MD_slot_40
      · intro j29 hj29 h
        obtain ⟨hg6, h⟩ := xw_grdI h
        refine xw_if_eq (tgt := 29) hx hb hg6 d_MD_slot_15 (by decide) (fun hc7 => ?_) (fun hc7 => ?_)
        · replace h := xw_ifT hc7 h
          exact hj29 s1 h _ _ _ hP hS (lv_sub hl [1, 2] rfl)
        · replace h := xw_ifF hc7 h
          refine lv_aload_n hx hb d_MD_slot_18 rfl (lv_at hl 0 rfl) ?_
          refine xw_getI (C := "AdviceWeaverModel") (T := T_MD) hx hb hts hin_MD hown hK hP (by decide) kr_MD (by decide) rfl 12 (by decide) (hts _ hw_518) (fun _ h9 => h9) rfl d_MD_slot_19 ?_
          obtain ⟨hg8, h⟩ := xw_grdI h
          refine xw_if_ne (tgt := 29) hx hb hg8 d_MD_slot_22 (by decide) (fun hc9 => ?_) (fun hc9 => ?_)
          · replace h := xw_ifF hc9 h
            exact hj29 s1 h _ _ _ hP hS (lv_sub hl [1, 2] rfl)
          · replace h := xw_ifT hc9 h
            exact hj25 s1 h _ _ _ hP hS (lv_sub hl [] rfl)
def lp_MD_shape_40 (fu : Nat) (c3_40 : Int) (c4_40 : Int) (k105 : xw_S → Int → Int → Int → Option (xw_S × Int)) : Nat → xw_S → Int → Int → Int → Option (xw_S × Int)
  | 0, _, _, _, _ => none
  | n + 1, s14, i5_40, i6_40, i7_40 =>
    xw_grd ((0 ≤ c4_40 ∧ c4_40 < ((12 : Nat) : Int))) (xw_grd (xw_r i7_40 ∧ xw_r (s14.1 6 (c4_40).toNat)) (xw_if (s14.1 6 (c4_40).toNat ≤ i7_40) (k105 s14 c4_40 i5_40 i6_40)
     (xw_grd ((0 ≤ i7_40 ∧ i7_40 < ((121 : Nat) : Int))) (xw_jn (fun (s21 : xw_S) (i6_71 : Int) (i7_71 : Int) (t0_71 : Int) => xw_grd ((0 ≤ i7_71 ∧ i7_71 < ((121 : Nat) : Int))) (xw_jn (fun (s25 : xw_S) (i5_97 : Int) (i7_97 : Int) (t0_97 : Int) => xw_let (i7_97 + 1) (fun v26 => lp_MD_shape_40 fu c3_40 c4_40 k105 n s25 i5_97 t0_97 v26))
     (fun (j97 : xw_S → Int → Int → Int → Option (xw_S × Int)) => xw_grd (xw_r (s21.1 15 (i7_71).toNat) ∧ xw_r i6_71) (xw_if (s21.1 15 (i7_71).toNat ≤ i6_71) (j97 s21 t0_71 i7_71 i6_71)
     (j97 s21 t0_71 i7_71 (s21.1 15 (i7_71).toNat))))))
     (fun (j71 : xw_S → Int → Int → Int → Option (xw_S × Int)) => xw_grd (xw_r (s14.1 14 (i7_40).toNat)) (xw_if (s14.1 14 (i7_40).toNat = 0) (j71 s14 i6_40 i7_40 i5_40)
     (j71 s14 i6_40 i7_40 (i5_40 + 1))))))))
def f_MD_shape (fu : Nat) (s0 : xw_S) (p1 : Int) (p2 : Int) (p3 : Int) : Option (xw_S × Int) :=
 xw_bn2 (f_MD_slot fu s0 p1 p2) (fun s1 r3 => xw_grd (xw_r r3) (xw_if (r3 < 0) (some (s1, -1))
 (xw_bn2 (f_MD_outside fu s1 p3 0 3) (fun s6 r8 => xw_grd (xw_r r8) (xw_if (r8 = 0) (xw_bn2 (f_MD_explore fu s6 r3) (fun s11 r13 => xw_jn (fun (s28 : xw_S) (i4_105 : Int) (i5_105 : Int) (i6_105 : Int) => xw_grd (xw_r p3) (xw_if (p3 = 0) (xw_grd ((0 ≤ i4_105 ∧ i4_105 < ((12 : Nat) : Int))) (some (s28, s28.1 6 (i4_105).toNat)))
 (xw_if (p3 = 1) (xw_grd ((0 ≤ i4_105 ∧ i4_105 < ((12 : Nat) : Int))) (some (s28, s28.1 8 (i4_105).toNat)))
 (xw_if (p3 = 2) (some (s28, i5_105))
 (some (s28, i6_105))))))
 (fun (k105 : xw_S → Int → Int → Int → Option (xw_S × Int)) => lp_MD_shape_40 fu p3 r3 k105 fu s11 0 0 0)))
 (some (s6, -1)))))))
set_option maxRecDepth 100000 in
set_option maxHeartbeats 4000000 in
theorem c_MD_shape (l : Launch) (D : va_G) (A : Nat → Prop) (ad : Nat → Nat) (cs : Nat → ClassId) (Z : va_W) (tt : Nat → Nat) (fu : Nat) (s0 sZ : xw_S) (p1 : Int) (p2 : Int) (p3 : Int) (r0 : Int) (h : f_MD_shape fu s0 p1 p2 p3 = some (sZ, r0)) : Met l y_MD_shape w_MD_shape ({ frames := 4, cells := 0, slots := 0, locals := 94 }) (va_Pc [.ref (ad 0), .int (xw_i p1), .int (xw_i p2), .int (xw_i p3)] (xw_H D vwCl A kdR 29 ad cs Z tt s0)) (va_Qi (fun r u => r = xw_i r0 ∧ u = sZ) (xw_H D vwCl A kdR 29 ad cs Z tt) A) 0 0 A := by
  refine Met.ofW (cc := b_MD_shape) (maxL := 8) (ret := (some .int)) (by decide) rfl ?_
  intro p e s m args below meth c s₁ B hml hv
  obtain ⟨rfl, hP, hK, hD, hX⟩ := hv
  have hx := B.exec
  have hb := B.bytes
  have hr := B.returns
  have hts0 := atoms_spec (ws := w_MD_shape) B.pre
  have hts := fun w (hw : w ∈ wAll) => hts0 w (List.mem_cons_of_mem _ hw)
  have hown : s.vm.findClass "AdviceWeaverModel" = some m.cls := findClass_of_methodNamed B.named
  have hlk := B.notSynchronized
  clear hts0 B
  have hS : va_S A s.heap s.heap [] := va_S.rf
  have hl := lv_entry [.ref (ad 0), .int (xw_i p1), .int (xw_i p2), .int (xw_i p3)] (n := 8) (Nat.le_of_ble_eq_true rfl)
  rw [lg_entry_eq]
  generalize (lg_sl [.ref (ad 0), .int (xw_i p1), .int (xw_i p2), .int (xw_i p3)] ++ List.replicate (8 - (lg_sl [.ref (ad 0), .int (xw_i p1), .int (xw_i p2), .int (xw_i p3)]).length) Slot.unset).toArray = ls at hl ⊢
  have hl : lv_has ls 8 [(0, .ref (ad 0)), (1, .int (xw_i p1)), (2, .int (xw_i p2)), (3, .int (xw_i p3))] := hl
  have hlp40 : ∀ (c3_40 : Int) (c4_40 : Int) (k105 : xw_S → Int → Int → Int → Option (xw_S × Int)) (hk105 : ∀ (sq : xw_S) (i4_105 : Int) (i5_105 : Int) (i6_105 : Int), k105 sq i4_105 i5_105 i6_105 = some (sZ, r0) → ∀ (H : Heap) (locs : List Loc) (ls : Array Slot), va_P D vwCl (xw_ws kdR 29 ad cs Z sq) H → va_S A s.heap H locs → lv_has ls 8 [(0, .ref (ad 0)), (3, .int (xw_i c3_40)), (4, .int (xw_i i4_105)), (5, .int (xw_i i5_105)), (6, .int (xw_i i6_105))] → W p l e (headSpec w_MD_shape ({ frames := 4, cells := 0, slots := 0, locals := 94 })).room s m [.ref (ad 0), .int (xw_i p1), .int (xw_i p2), .int (xw_i p3)].toArray below meth c H locs 0 0 (MQ below (va_Qi (fun r u => r = xw_i r0 ∧ u = sZ) (xw_H D vwCl A kdR 29 ad cs Z tt) A) [.ref (ad 0), .int (xw_i p1), .int (xw_i p2), .int (xw_i p3)].toArray s 0 0 A) (F0 m 105 ls [])) (n : Nat), ∀ (sq : xw_S) (i5_40 : Int) (i6_40 : Int) (i7_40 : Int), lp_MD_shape_40 fu c3_40 c4_40 k105 n sq i5_40 i6_40 i7_40 = some (sZ, r0) → ∀ (H : Heap) (locs : List Loc) (ls : Array Slot), va_P D vwCl (xw_ws kdR 29 ad cs Z sq) H → va_S A s.heap H locs → lv_has ls 8 [(0, .ref (ad 0)), (3, .int (xw_i c3_40)), (4, .int (xw_i c4_40)), (5, .int (xw_i i5_40)), (6, .int (xw_i i6_40)), (7, .int (xw_i i7_40))] → W p l e (headSpec w_MD_shape ({ frames := 4, cells := 0, slots := 0, locals := 94 })).room s m [.ref (ad 0), .int (xw_i p1), .int (xw_i p2), .int (xw_i p3)].toArray below meth c H locs 0 0 (MQ below (va_Qi (fun r u => r = xw_i r0 ∧ u = sZ) (xw_H D vwCl A kdR 29 ad cs Z tt) A) [.ref (ad 0), .int (xw_i p1), .int (xw_i p2), .int (xw_i p3)].toArray s 0 0 A) (F0 m 40 ls []) := by
    intro c3_40 c4_40 k105 hk105 n
    induction n with
    | zero =>
      intro sq i5_40 i6_40 i7_40 h
      cases (show (none : Option (xw_S × Int)) = some (sZ, r0) from h)
    | succ n ih40 =>
      intro s14 i5_40 i6_40 i7_40 h H locs ls hP hS hl
      unfold lp_MD_shape_40 at h
      refine lv_iload hx hb d_MD_shape_40 (lv_at hl 5 rfl) ?_
      refine lv_aload_n hx hb d_MD_shape_42 rfl (lv_at hl 0 rfl) ?_
      refine xw_getR (C := "AdviceWeaverModel") (T := T_MD) hx hb hts hin_MD hown hK hP (by decide) kr_MD (by decide) rfl 6 (by decide) (hts _ hw_447) (fun _ h9 => h9) rfl d_MD_shape_43 ?_
      refine lv_iload hx hb d_MD_shape_46 (lv_at hl 2 rfl) ?_
      obtain ⟨hg15, h⟩ := xw_grdI h
      refine xw_iald hx hb hK hP (by decide) kr_m_length (by decide) hg15 d_MD_shape_48 ?_
      obtain ⟨hg16, h⟩ := xw_grdI h
      refine xw_icmp_ge (tgt := 105) hx hb hg16.1 hg16.2 d_MD_shape_49 (by decide) (fun hc17 => ?_) (fun hc17 => ?_)
      · replace h := xw_ifT hc17 h
        exact hk105 s14 c4_40 i5_40 i6_40 h _ _ _ hP hS (lv_sub hl [0, 1, 2, 3, 4] rfl)
      · replace h := xw_ifF hc17 h
        refine lv_aload_n hx hb d_MD_shape_52 rfl (lv_at hl 0 rfl) ?_
        refine xw_getR (C := "AdviceWeaverModel") (T := T_MD) hx hb hts hin_MD hown hK hP (by decide) kr_MD (by decide) rfl 20 (by decide) (hts _ hw_451) (fun _ h9 => h9) rfl d_MD_shape_53 ?_
        refine lv_iload hx hb d_MD_shape_56 (lv_at hl 5 rfl) ?_
        obtain ⟨hg18, h⟩ := xw_grdI h
        refine xw_zald hx hb hK hP (by decide) kr_m_begins (by decide) hg18 d_MD_shape_58 ?_
        refine xw_jnI (fun j => ∀ (sq : xw_S) (i6_71 : Int) (i7_71 : Int) (t0_71 : Int), j sq i6_71 i7_71 t0_71 = some (sZ, r0) → ∀ (H : Heap) (locs : List Loc) (ls : Array Slot), va_P D vwCl (xw_ws kdR 29 ad cs Z sq) H → va_S A s.heap H locs → lv_has ls 8 [(0, .ref (ad 0)), (3, .int (xw_i c3_40)), (4, .int (xw_i c4_40)), (6, .int (xw_i i6_71)), (7, .int (xw_i i7_71))] → W p l e (headSpec w_MD_shape ({ frames := 4, cells := 0, slots := 0, locals := 94 })).room s m [.ref (ad 0), .int (xw_i p1), .int (xw_i p2), .int (xw_i p3)].toArray below meth c H locs 0 0 (MQ below (va_Qi (fun r u => r = xw_i r0 ∧ u = sZ) (xw_H D vwCl A kdR 29 ad cs Z tt) A) [.ref (ad 0), .int (xw_i p1), .int (xw_i p2), .int (xw_i p3)].toArray s 0 0 A) (F0 m 71 ls [.int (xw_i t0_71)])) h ?_ ?_
        · intro s21 i6_71 i7_71 t0_71 h H locs ls hP hS hl
          refine lv_istore hx hb d_MD_shape_71 hl (by decide) rfl (fun ls hl => ?_)
          refine lv_aload_n hx hb d_MD_shape_73 rfl (lv_at hl 1 rfl) ?_
          refine xw_getR (C := "AdviceWeaverModel") (T := T_MD) hx hb hts hin_MD hown hK hP (by decide) kr_MD (by decide) rfl 21 (by decide) (hts _ hw_479) (fun _ h9 => h9) rfl d_MD_shape_74 ?_
          refine lv_iload hx hb d_MD_shape_77 (lv_at hl 5 rfl) ?_
          obtain ⟨hg22, h⟩ := xw_grdI h
          refine xw_iald hx hb hK hP (by decide) kr_m_depths (by decide) hg22 d_MD_shape_79 ?_
          refine lv_iload hx hb d_MD_shape_80 (lv_at hl 4 rfl) ?_
          refine xw_jnI (fun j => ∀ (sq : xw_S) (i5_97 : Int) (i7_97 : Int) (t0_97 : Int), j sq i5_97 i7_97 t0_97 = some (sZ, r0) → ∀ (H : Heap) (locs : List Loc) (ls : Array Slot), va_P D vwCl (xw_ws kdR 29 ad cs Z sq) H → va_S A s.heap H locs → lv_has ls 8 [(0, .ref (ad 0)), (3, .int (xw_i c3_40)), (4, .int (xw_i c4_40)), (5, .int (xw_i i5_97)), (7, .int (xw_i i7_97))] → W p l e (headSpec w_MD_shape ({ frames := 4, cells := 0, slots := 0, locals := 94 })).room s m [.ref (ad 0), .int (xw_i p1), .int (xw_i p2), .int (xw_i p3)].toArray below meth c H locs 0 0 (MQ below (va_Qi (fun r u => r = xw_i r0 ∧ u = sZ) (xw_H D vwCl A kdR 29 ad cs Z tt) A) [.ref (ad 0), .int (xw_i p1), .int (xw_i p2), .int (xw_i p3)].toArray s 0 0 A) (F0 m 97 ls [.int (xw_i t0_97)])) h ?_ ?_
          · intro s25 i5_97 i7_97 t0_97 h H locs ls hP hS hl
            refine lv_istore hx hb d_MD_shape_97 hl (by decide) rfl (fun ls hl => ?_)
            obtain ⟨v26, e27⟩ : ∃ z, z = i7_97 + 1 := ⟨_, rfl⟩
            replace h := xw_letI e27 h
            refine xw_iinc (lv' := [(7, .int (xw_i v26)), (6, .int (xw_i t0_97)), (0, .ref (ad 0)), (3, .int (xw_i c3_40)), (4, .int (xw_i c4_40)), (5, .int (xw_i i5_97))]) hx hb d_MD_shape_99 hl (k := 5) rfl (by decide) (by rw [e27]; rfl) (fun ls hl => ?_)
            refine lv_goto (tgt := 40) hx hb d_MD_shape_102 (by decide) ?_
            exact ih40 s25 i5_97 t0_97 v26 h _ _ _ hP hS (lv_sub hl [2, 3, 4, 5, 1, 0] rfl)
          · intro j97 hj97 h
            obtain ⟨hg23, h⟩ := xw_grdI h
            refine xw_icmp_le (tgt := 95) hx hb hg23.1 hg23.2 d_MD_shape_82 (by decide) (fun hc24 => ?_) (fun hc24 => ?_)
            · replace h := xw_ifT hc24 h
              refine lv_iload hx hb d_MD_shape_95 (lv_at hl 4 rfl) ?_
              exact hj97 s21 t0_71 i7_71 i6_71 h _ _ _ hP hS (lv_sub hl [1, 2, 3, 0, 5] rfl)
            · replace h := xw_ifF hc24 h
              refine lv_aload_n hx hb d_MD_shape_85 rfl (lv_at hl 1 rfl) ?_
              refine xw_getR (C := "AdviceWeaverModel") (T := T_MD) hx hb hts hin_MD hown hK hP (by decide) kr_MD (by decide) rfl 21 (by decide) (hts _ hw_479) (fun _ h9 => h9) rfl d_MD_shape_86 ?_
              refine lv_iload hx hb d_MD_shape_89 (lv_at hl 5 rfl) ?_
              refine xw_iald hx hb hK hP (by decide) kr_m_depths (by decide) hg22 d_MD_shape_91 ?_
              refine lv_goto (tgt := 97) hx hb d_MD_shape_92 (by decide) ?_
              exact hj97 s21 t0_71 i7_71 (s21.1 15 (i7_71).toNat) h _ _ _ hP hS (lv_sub hl [1, 2, 3, 0, 5] rfl)
        · intro j71 hj71 h
          obtain ⟨hg19, h⟩ := xw_grdI h
          refine xw_if_eq (tgt := 69) hx hb hg19 d_MD_shape_59 (by decide) (fun hc20 => ?_) (fun hc20 => ?_)
          · replace h := xw_ifT hc20 h
            refine lv_iload hx hb d_MD_shape_69 (lv_at hl 3 rfl) ?_
            exact hj71 s14 i6_40 i7_40 i5_40 h _ _ _ hP hS (lv_sub hl [0, 1, 2, 4, 5] rfl)
          · replace h := xw_ifF hc20 h
            refine lv_iload hx hb d_MD_shape_62 (lv_at hl 3 rfl) ?_
            refine lv_iconst (v := xw_i 1) hx hb d_MD_shape_64 rfl ?_
            refine xw_iadd hx hb d_MD_shape_65 ?_
            refine lv_goto (tgt := 71) hx hb d_MD_shape_66 (by decide) ?_
            exact hj71 s14 i6_40 i7_40 (i5_40 + 1) h _ _ _ hP hS (lv_sub hl [0, 1, 2, 4, 5] rfl)
  unfold f_MD_shape at h
  refine lv_aload_n hx hb d_MD_shape_0 rfl (lv_at hl 0 rfl) ?_
  refine lv_iload_n hx hb d_MD_shape_1 rfl (lv_at hl 1 rfl) ?_
  refine lv_iload_n hx hb d_MD_shape_2 rfl (lv_at hl 2 rfl) ?_
  obtain ⟨s1, r3, hc2, h⟩ := xw_bn2I h
  refine xw_callVi (C := "AdviceWeaverModel") (T := T_MD) ⟨hx, hb, hml, hown, hts⟩ (c_MD_slot l D A ad cs Z tt fu s0 s1 p1 p2 r3 hc2) (cwV 2 hts (gd_V hw_607 hw_608 hw_609 hw_433 hw_610) rfl rfl rfl (by decide +kernel) ⟨Nat.le_of_ble_eq_true rfl, Nat.le_of_ble_eq_true rfl⟩) hP hK hD hX hS (by decide) kr_MD (by decide) rfl rfl hl.1 rfl (Nat.le_of_ble_eq_true rfl) d_MD_shape_3 (fun H locs hP hS => ?_)
  refine lv_istore hx hb d_MD_shape_6 hl (by decide) rfl (fun ls hl => ?_)
  refine lv_iload hx hb d_MD_shape_8 (lv_at hl 0 rfl) ?_
  obtain ⟨hg4, h⟩ := xw_grdI h
  refine xw_if_lt (tgt := 22) hx hb hg4 d_MD_shape_10 (by decide) (fun hc5 => ?_) (fun hc5 => ?_)
  · replace h := xw_ifT hc5 h
    refine lv_iconst (v := xw_i (-1)) hx hb d_MD_shape_22 rfl ?_
    exact xw_iretE hx hb hr hlk hP hK hD hX hS h d_MD_shape_23
  · replace h := xw_ifF hc5 h
    refine lv_iload_n hx hb d_MD_shape_13 rfl (lv_at hl 4 rfl) ?_
    refine lv_iconst (v := xw_i 0) hx hb d_MD_shape_14 rfl ?_
    refine lv_iconst (v := xw_i 3) hx hb d_MD_shape_15 rfl ?_
    obtain ⟨s6, r8, hc7, h⟩ := xw_bn2I h
    refine xw_callSi ⟨hx, hb, hml, hown, hts⟩ (c_MD_outside l D A ad cs Z tt fu s1 s6 p3 0 3 r8 hc7) (va_cwS 3 hts (gd_S hw_431 hw_432 hw_433 hw_434) rfl rfl rfl (by decide +kernel) ⟨Nat.le_of_ble_eq_true rfl, Nat.le_of_ble_eq_true rfl⟩) hP hK hD hX hS rfl hl.1 rfl (Nat.le_of_ble_eq_true rfl) d_MD_shape_16 (fun H locs hP hS => ?_)
    obtain ⟨hg9, h⟩ := xw_grdI h
    refine xw_if_eq (tgt := 24) hx hb hg9 d_MD_shape_19 (by decide) (fun hc10 => ?_) (fun hc10 => ?_)
    · replace h := xw_ifT hc10 h
      refine lv_aload_n hx hb d_MD_shape_24 rfl (lv_at hl 1 rfl) ?_
      refine lv_iload hx hb d_MD_shape_25 (lv_at hl 0 rfl) ?_
      obtain ⟨s11, r13, hc12, h⟩ := xw_bn2I h
      refine xw_callVi (C := "AdviceWeaverModel") (T := T_MD) ⟨hx, hb, hml, hown, hts⟩ (c_MD_explore l D A ad cs Z tt fu s6 s11 r3 r13 hc12) (cwV 1 hts (gd_V hw_513 hw_514 hw_515 hw_433 hw_516) rfl rfl rfl (by decide +kernel) ⟨Nat.le_of_ble_eq_true rfl, Nat.le_of_ble_eq_true rfl⟩) hP hK hD hX hS (by decide) kr_MD (by decide) rfl rfl hl.1 rfl (Nat.le_of_ble_eq_true rfl) d_MD_shape_27 (fun H locs hP hS => ?_)
      refine lv_pop hx hb d_MD_shape_30 rfl ?_
      refine lv_iconst (v := xw_i 0) hx hb d_MD_shape_31 rfl ?_
      refine lv_istore hx hb d_MD_shape_32 hl (by decide) rfl (fun ls hl => ?_)
      refine lv_iconst (v := xw_i 0) hx hb d_MD_shape_34 rfl ?_
      refine lv_istore hx hb d_MD_shape_35 hl (by decide) rfl (fun ls hl => ?_)
      refine lv_iconst (v := xw_i 0) hx hb d_MD_shape_37 rfl ?_
      refine lv_istore hx hb d_MD_shape_38 hl (by decide) rfl (fun ls hl => ?_)
      refine xw_jnI (fun j => ∀ (sq : xw_S) (i4_105 : Int) (i5_105 : Int) (i6_105 : Int), j sq i4_105 i5_105 i6_105 = some (sZ, r0) → ∀ (H : Heap) (locs : List Loc) (ls : Array Slot), va_P D vwCl (xw_ws kdR 29 ad cs Z sq) H → va_S A s.heap H locs → lv_has ls 8 [(0, .ref (ad 0)), (3, .int (xw_i p3)), (4, .int (xw_i i4_105)), (5, .int (xw_i i5_105)), (6, .int (xw_i i6_105))] → W p l e (headSpec w_MD_shape ({ frames := 4, cells := 0, slots := 0, locals := 94 })).room s m [.ref (ad 0), .int (xw_i p1), .int (xw_i p2), .int (xw_i p3)].toArray below meth c H locs 0 0 (MQ below (va_Qi (fun r u => r = xw_i r0 ∧ u = sZ) (xw_H D vwCl A kdR 29 ad cs Z tt) A) [.ref (ad 0), .int (xw_i p1), .int (xw_i p2), .int (xw_i p3)].toArray s 0 0 A) (F0 m 105 ls [])) h ?_ ?_
      · intro s28 i4_105 i5_105 i6_105 h H locs ls hP hS hl
        refine lv_iload_n hx hb d_MD_shape_105 rfl (lv_at hl 1 rfl) ?_
        obtain ⟨hg29, h⟩ := xw_grdI h
        refine xw_if_ne (tgt := 119) hx hb hg29 d_MD_shape_106 (by decide) (fun hc30 => ?_) (fun hc30 => ?_)
        · replace h := xw_ifF hc30 h
          refine lv_iload_n hx hb d_MD_shape_119 rfl (lv_at hl 1 rfl) ?_
          refine lv_iconst (v := xw_i 1) hx hb d_MD_shape_120 rfl ?_
          refine xw_icmp_ne (tgt := 134) hx hb hg29 (by decide) d_MD_shape_121 (by decide) (fun hc31 => ?_) (fun hc31 => ?_)
          · replace h := xw_ifF hc31 h
            refine lv_iload_n hx hb d_MD_shape_134 rfl (lv_at hl 1 rfl) ?_
            refine lv_iconst (v := xw_i 2) hx hb d_MD_shape_135 rfl ?_
            refine xw_icmp_ne (tgt := 144) hx hb hg29 (by decide) d_MD_shape_136 (by decide) (fun hc32 => ?_) (fun hc32 => ?_)
            · replace h := xw_ifF hc32 h
              refine lv_iload hx hb d_MD_shape_144 (lv_at hl 4 rfl) ?_
              exact xw_iretE hx hb hr hlk hP hK hD hX hS h d_MD_shape_146
            · replace h := xw_ifT hc32 h
              refine lv_iload hx hb d_MD_shape_139 (lv_at hl 3 rfl) ?_
              refine lv_goto (tgt := 146) hx hb d_MD_shape_141 (by decide) ?_
              exact xw_iretE hx hb hr hlk hP hK hD hX hS h d_MD_shape_146
          · replace h := xw_ifT hc31 h
            refine lv_aload_n hx hb d_MD_shape_124 rfl (lv_at hl 0 rfl) ?_
            refine xw_getR (C := "AdviceWeaverModel") (T := T_MD) hx hb hts hin_MD hown hK hP (by decide) kr_MD (by decide) rfl 8 (by decide) (hts _ hw_449) (fun _ h9 => h9) rfl d_MD_shape_125 ?_
            refine lv_iload hx hb d_MD_shape_128 (lv_at hl 2 rfl) ?_
            obtain ⟨hg33, h⟩ := xw_grdI h
            refine xw_iald hx hb hK hP (by decide) kr_m_handlers (by decide) hg33 d_MD_shape_130 ?_
            refine lv_goto (tgt := 146) hx hb d_MD_shape_131 (by decide) ?_
            exact xw_iretE hx hb hr hlk hP hK hD hX hS h d_MD_shape_146
        · replace h := xw_ifT hc30 h
          refine lv_aload_n hx hb d_MD_shape_109 rfl (lv_at hl 0 rfl) ?_
          refine xw_getR (C := "AdviceWeaverModel") (T := T_MD) hx hb hts hin_MD hown hK hP (by decide) kr_MD (by decide) rfl 6 (by decide) (hts _ hw_447) (fun _ h9 => h9) rfl d_MD_shape_110 ?_
          refine lv_iload hx hb d_MD_shape_113 (lv_at hl 2 rfl) ?_
          obtain ⟨hg34, h⟩ := xw_grdI h
          refine xw_iald hx hb hK hP (by decide) kr_m_length (by decide) hg34 d_MD_shape_115 ?_
          refine lv_goto (tgt := 146) hx hb d_MD_shape_116 (by decide) ?_
          exact xw_iretE hx hb hr hlk hP hK hD hX hS h d_MD_shape_146
      · intro k105 hk105 h
        exact hlp40 p3 r3 k105 hk105 fu s11 0 0 0 h _ _ _ hP hS (lv_sub hl [4, 7, 3, 2, 1, 0] rfl)
    · replace h := xw_ifF hc10 h
      refine lv_iconst (v := xw_i (-1)) hx hb d_MD_shape_22 rfl ?_
      exact xw_iretE hx hb hr hlk hP hK hD hX hS h d_MD_shape_23
def f_MD_code (fu : Nat) (s0 : xw_S) (p1 : Int) (p2 : Int) (p3 : Int) : Option (xw_S × Int) :=
 xw_bn2 (f_MD_slot fu s0 p1 p2) (fun s1 r3 => xw_jn (fun (s13 : xw_S) => some (s13, -1))
 (fun (j30 : xw_S → Option (xw_S × Int)) => xw_grd (xw_r r3) (xw_if (r3 < 0) (j30 s1)
 (xw_grd ((0 ≤ r3 ∧ r3 < ((12 : Nat) : Int))) (xw_bn2 (f_MD_outside fu s1 p3 0 ((s1.1 6 (r3).toNat) - 1)) (fun s7 r9 => xw_grd (xw_r r9) (xw_if (r9 = 0) (xw_grd ((0 ≤ (120 * r3) + p3 ∧ (120 * r3) + p3 < ((1440 : Nat) : Int))) (some (s7, s7.1 7 ((120 * r3) + p3).toNat)))
 (j30 s7))))))))
set_option maxRecDepth 100000 in
set_option maxHeartbeats 4000000 in
theorem c_MD_code (l : Launch) (D : va_G) (A : Nat → Prop) (ad : Nat → Nat) (cs : Nat → ClassId) (Z : va_W) (tt : Nat → Nat) (fu : Nat) (s0 sZ : xw_S) (p1 : Int) (p2 : Int) (p3 : Int) (r0 : Int) (h : f_MD_code fu s0 p1 p2 p3 = some (sZ, r0)) : Met l y_MD_code w_MD_code ({ frames := 2, cells := 0, slots := 0, locals := 44 }) (va_Pc [.ref (ad 0), .int (xw_i p1), .int (xw_i p2), .int (xw_i p3)] (xw_H D vwCl A kdR 29 ad cs Z tt s0)) (va_Qi (fun r u => r = xw_i r0 ∧ u = sZ) (xw_H D vwCl A kdR 29 ad cs Z tt) A) 0 0 A := by
  refine Met.ofW (cc := b_MD_code) (maxL := 5) (ret := (some .int)) (by decide) rfl ?_
  intro p e s m args below meth c s₁ B hml hv
  obtain ⟨rfl, hP, hK, hD, hX⟩ := hv
  have hx := B.exec
  have hb := B.bytes
  have hr := B.returns
  have hts0 := atoms_spec (ws := w_MD_code) B.pre
  have hts := fun w (hw : w ∈ wAll) => hts0 w (List.mem_cons_of_mem _ hw)
  have hown : s.vm.findClass "AdviceWeaverModel" = some m.cls := findClass_of_methodNamed B.named
  have hlk := B.notSynchronized
  clear hts0 B
  have hS : va_S A s.heap s.heap [] := va_S.rf
  have hl := lv_entry [.ref (ad 0), .int (xw_i p1), .int (xw_i p2), .int (xw_i p3)] (n := 5) (Nat.le_of_ble_eq_true rfl)
  rw [lg_entry_eq]
  generalize (lg_sl [.ref (ad 0), .int (xw_i p1), .int (xw_i p2), .int (xw_i p3)] ++ List.replicate (5 - (lg_sl [.ref (ad 0), .int (xw_i p1), .int (xw_i p2), .int (xw_i p3)]).length) Slot.unset).toArray = ls at hl ⊢
  have hl : lv_has ls 5 [(0, .ref (ad 0)), (1, .int (xw_i p1)), (2, .int (xw_i p2)), (3, .int (xw_i p3))] := hl
  unfold f_MD_code at h
  refine lv_aload_n hx hb d_MD_code_0 rfl (lv_at hl 0 rfl) ?_
  refine lv_iload_n hx hb d_MD_code_1 rfl (lv_at hl 1 rfl) ?_
  refine lv_iload_n hx hb d_MD_code_2 rfl (lv_at hl 2 rfl) ?_
  obtain ⟨s1, r3, hc2, h⟩ := xw_bn2I h
  refine xw_callVi (C := "AdviceWeaverModel") (T := T_MD) ⟨hx, hb, hml, hown, hts⟩ (c_MD_slot l D A ad cs Z tt fu s0 s1 p1 p2 r3 hc2) (cwV 2 hts (gd_V hw_607 hw_608 hw_609 hw_433 hw_610) rfl rfl rfl (by decide +kernel) ⟨Nat.le_of_ble_eq_true rfl, Nat.le_of_ble_eq_true rfl⟩) hP hK hD hX hS (by decide) kr_MD (by decide) rfl rfl hl.1 rfl (Nat.le_of_ble_eq_true rfl) d_MD_code_3 (fun H locs hP hS => ?_)
  refine lv_istore hx hb d_MD_code_6 hl (by decide) rfl (fun ls hl => ?_)
  refine lv_iload hx hb d_MD_code_8 (lv_at hl 0 rfl) ?_
  refine xw_jnI (fun j => ∀ (sq : xw_S), j sq = some (sZ, r0) → ∀ (H : Heap) (locs : List Loc) (ls : Array Slot), va_P D vwCl (xw_ws kdR 29 ad cs Z sq) H → va_S A s.heap H locs → lv_has ls 5 [] → W p l e (headSpec w_MD_code ({ frames := 2, cells := 0, slots := 0, locals := 44 })).room s m [.ref (ad 0), .int (xw_i p1), .int (xw_i p2), .int (xw_i p3)].toArray below meth c H locs 0 0 (MQ below (va_Qi (fun r u => r = xw_i r0 ∧ u = sZ) (xw_H D vwCl A kdR 29 ad cs Z tt) A) [.ref (ad 0), .int (xw_i p1), .int (xw_i p2), .int (xw_i p3)].toArray s 0 0 A) (F0 m 30 ls [])) h ?_ ?_
  · intro s13 h H locs ls hP hS hl
    refine lv_iconst (v := xw_i (-1)) hx hb d_MD_code_30 rfl ?_
    refine lv_goto (tgt := 46) hx hb d_MD_code_31 (by decide) ?_
    exact xw_iretE hx hb hr hlk hP hK hD hX hS h d_MD_code_46
  · intro j30 hj30 h
    obtain ⟨hg4, h⟩ := xw_grdI h
    refine xw_if_lt (tgt := 30) hx hb hg4 d_MD_code_10 (by decide) (fun hc5 => ?_) (fun hc5 => ?_)
    · replace h := xw_ifT hc5 h
      exact hj30 s1 h _ _ _ hP hS (lv_sub hl [] rfl)
    · replace h := xw_ifF hc5 h
      refine lv_iload_n hx hb d_MD_code_13 rfl (lv_at hl 4 rfl) ?_
      refine lv_iconst (v := xw_i 0) hx hb d_MD_code_14 rfl ?_
      refine lv_aload_n hx hb d_MD_code_15 rfl (lv_at hl 1 rfl) ?_
      refine xw_getR (C := "AdviceWeaverModel") (T := T_MD) hx hb hts hin_MD hown hK hP (by decide) kr_MD (by decide) rfl 6 (by decide) (hts _ hw_447) (fun _ h9 => h9) rfl d_MD_code_16 ?_
      refine lv_iload hx hb d_MD_code_19 (lv_at hl 0 rfl) ?_
      obtain ⟨hg6, h⟩ := xw_grdI h
      refine xw_iald hx hb hK hP (by decide) kr_m_length (by decide) hg6 d_MD_code_21 ?_
      refine lv_iconst (v := xw_i 1) hx hb d_MD_code_22 rfl ?_
      refine xw_isub hx hb d_MD_code_23 ?_
      obtain ⟨s7, r9, hc8, h⟩ := xw_bn2I h
      refine xw_callSi ⟨hx, hb, hml, hown, hts⟩ (c_MD_outside l D A ad cs Z tt fu s1 s7 p3 0 ((s1.1 6 (r3).toNat) - 1) r9 hc8) (va_cwS 3 hts (gd_S hw_431 hw_432 hw_433 hw_434) rfl rfl rfl (by decide +kernel) ⟨Nat.le_of_ble_eq_true rfl, Nat.le_of_ble_eq_true rfl⟩) hP hK hD hX hS rfl hl.1 rfl (Nat.le_of_ble_eq_true rfl) d_MD_code_24 (fun H locs hP hS => ?_)
      obtain ⟨hg10, h⟩ := xw_grdI h
      refine xw_if_eq (tgt := 34) hx hb hg10 d_MD_code_27 (by decide) (fun hc11 => ?_) (fun hc11 => ?_)
      · replace h := xw_ifT hc11 h
        refine lv_aload_n hx hb d_MD_code_34 rfl (lv_at hl 1 rfl) ?_
        refine xw_getR (C := "AdviceWeaverModel") (T := T_MD) hx hb hts hin_MD hown hK hP (by decide) kr_MD (by decide) rfl 7 (by decide) (hts _ hw_448) (fun _ h9 => h9) rfl d_MD_code_35 ?_
        refine lv_bipush (v := xw_i 120) hx hb d_MD_code_38 (by decide) ?_
        refine lv_iload hx hb d_MD_code_40 (lv_at hl 0 rfl) ?_
        refine xw_imul hx hb d_MD_code_42 ?_
        refine lv_iload_n hx hb d_MD_code_43 rfl (lv_at hl 4 rfl) ?_
        refine xw_iadd hx hb d_MD_code_44 ?_
        obtain ⟨hg12, h⟩ := xw_grdI h
        refine xw_iald hx hb hK hP (by decide) kr_m_code (by decide) hg12 d_MD_code_45 ?_
        exact xw_iretE hx hb hr hlk hP hK hD hX hS h d_MD_code_46
      · replace h := xw_ifF hc11 h
        exact hj30 s7 h _ _ _ hP hS (lv_sub hl [] rfl)
def f_MD_handler (fu : Nat) (s0 : xw_S) (p1 : Int) (p2 : Int) (p3 : Int) (p4 : Int) : Option (xw_S × Int) :=
 xw_bn2 (f_MD_slot fu s0 p1 p2) (fun s1 r3 => xw_jn (fun (s18 : xw_S) => some (s18, -1))
 (fun (j40 : xw_S → Option (xw_S × Int)) => xw_grd (xw_r r3) (xw_if (r3 < 0) (j40 s1)
 (xw_bn2 (f_MD_outside fu s1 p4 0 3) (fun s6 r8 => xw_grd (xw_r r8) (xw_if (r8 = 0) (xw_grd ((0 ≤ r3 ∧ r3 < ((12 : Nat) : Int))) (xw_bn2 (f_MD_outside fu s6 p3 0 ((s6.1 8 (r3).toNat) - 1)) (fun s12 r14 => xw_grd (xw_r r14) (xw_if (r14 = 0) (xw_grd ((0 ≤ ((20 * r3) + (4 * p3)) + p4 ∧ ((20 * r3) + (4 * p3)) + p4 < ((240 : Nat) : Int))) (some (s12, s12.1 9 (((20 * r3) + (4 * p3)) + p4).toNat)))
 (j40 s12)))))
 (j40 s6)))))))
set_option maxRecDepth 100000 in
set_option maxHeartbeats 4000000 in
theorem c_MD_handler (l : Launch) (D : va_G) (A : Nat → Prop) (ad : Nat → Nat) (cs : Nat → ClassId) (Z : va_W) (tt : Nat → Nat) (fu : Nat) (s0 sZ : xw_S) (p1 : Int) (p2 : Int) (p3 : Int) (p4 : Int) (r0 : Int) (h : f_MD_handler fu s0 p1 p2 p3 p4 = some (sZ, r0)) : Met l y_MD_handler w_MD_handler ({ frames := 2, cells := 0, slots := 0, locals := 44 }) (va_Pc [.ref (ad 0), .int (xw_i p1), .int (xw_i p2), .int (xw_i p3), .int (xw_i p4)] (xw_H D vwCl A kdR 29 ad cs Z tt s0)) (va_Qi (fun r u => r = xw_i r0 ∧ u = sZ) (xw_H D vwCl A kdR 29 ad cs Z tt) A) 0 0 A := by
  refine Met.ofW (cc := b_MD_handler) (maxL := 6) (ret := (some .int)) (by decide) rfl ?_
  intro p e s m args below meth c s₁ B hml hv
  obtain ⟨rfl, hP, hK, hD, hX⟩ := hv
  have hx := B.exec
  have hb := B.bytes
  have hr := B.returns
  have hts0 := atoms_spec (ws := w_MD_handler) B.pre
  have hts := fun w (hw : w ∈ wAll) => hts0 w (List.mem_cons_of_mem _ hw)
  have hown : s.vm.findClass "AdviceWeaverModel" = some m.cls := findClass_of_methodNamed B.named
  have hlk := B.notSynchronized
  clear hts0 B
  have hS : va_S A s.heap s.heap [] := va_S.rf
  have hl := lv_entry [.ref (ad 0), .int (xw_i p1), .int (xw_i p2), .int (xw_i p3), .int (xw_i p4)] (n := 6) (Nat.le_of_ble_eq_true rfl)
  rw [lg_entry_eq]
  generalize (lg_sl [.ref (ad 0), .int (xw_i p1), .int (xw_i p2), .int (xw_i p3), .int (xw_i p4)] ++ List.replicate (6 - (lg_sl [.ref (ad 0), .int (xw_i p1), .int (xw_i p2), .int (xw_i p3), .int (xw_i p4)]).length) Slot.unset).toArray = ls at hl ⊢
  have hl : lv_has ls 6 [(0, .ref (ad 0)), (1, .int (xw_i p1)), (2, .int (xw_i p2)), (3, .int (xw_i p3)), (4, .int (xw_i p4))] := hl
  unfold f_MD_handler at h
  refine lv_aload_n hx hb d_MD_handler_0 rfl (lv_at hl 0 rfl) ?_
  refine lv_iload_n hx hb d_MD_handler_1 rfl (lv_at hl 1 rfl) ?_
  refine lv_iload_n hx hb d_MD_handler_2 rfl (lv_at hl 2 rfl) ?_
  obtain ⟨s1, r3, hc2, h⟩ := xw_bn2I h
  refine xw_callVi (C := "AdviceWeaverModel") (T := T_MD) ⟨hx, hb, hml, hown, hts⟩ (c_MD_slot l D A ad cs Z tt fu s0 s1 p1 p2 r3 hc2) (cwV 2 hts (gd_V hw_607 hw_608 hw_609 hw_433 hw_610) rfl rfl rfl (by decide +kernel) ⟨Nat.le_of_ble_eq_true rfl, Nat.le_of_ble_eq_true rfl⟩) hP hK hD hX hS (by decide) kr_MD (by decide) rfl rfl hl.1 rfl (Nat.le_of_ble_eq_true rfl) d_MD_handler_3 (fun H locs hP hS => ?_)
  refine lv_istore hx hb d_MD_handler_6 hl (by decide) rfl (fun ls hl => ?_)
  refine lv_iload hx hb d_MD_handler_8 (lv_at hl 0 rfl) ?_
  refine xw_jnI (fun j => ∀ (sq : xw_S), j sq = some (sZ, r0) → ∀ (H : Heap) (locs : List Loc) (ls : Array Slot), va_P D vwCl (xw_ws kdR 29 ad cs Z sq) H → va_S A s.heap H locs → lv_has ls 6 [] → W p l e (headSpec w_MD_handler ({ frames := 2, cells := 0, slots := 0, locals := 44 })).room s m [.ref (ad 0), .int (xw_i p1), .int (xw_i p2), .int (xw_i p3), .int (xw_i p4)].toArray below meth c H locs 0 0 (MQ below (va_Qi (fun r u => r = xw_i r0 ∧ u = sZ) (xw_H D vwCl A kdR 29 ad cs Z tt) A) [.ref (ad 0), .int (xw_i p1), .int (xw_i p2), .int (xw_i p3), .int (xw_i p4)].toArray s 0 0 A) (F0 m 40 ls [])) h ?_ ?_
  · intro s18 h H locs ls hP hS hl
    refine lv_iconst (v := xw_i (-1)) hx hb d_MD_handler_40 rfl ?_
    refine lv_goto (tgt := 61) hx hb d_MD_handler_41 (by decide) ?_
    exact xw_iretE hx hb hr hlk hP hK hD hX hS h d_MD_handler_61
  · intro j40 hj40 h
    obtain ⟨hg4, h⟩ := xw_grdI h
    refine xw_if_lt (tgt := 40) hx hb hg4 d_MD_handler_10 (by decide) (fun hc5 => ?_) (fun hc5 => ?_)
    · replace h := xw_ifT hc5 h
      exact hj40 s1 h _ _ _ hP hS (lv_sub hl [] rfl)
    · replace h := xw_ifF hc5 h
      refine lv_iload hx hb d_MD_handler_13 (lv_at hl 5 rfl) ?_
      refine lv_iconst (v := xw_i 0) hx hb d_MD_handler_15 rfl ?_
      refine lv_iconst (v := xw_i 3) hx hb d_MD_handler_16 rfl ?_
      obtain ⟨s6, r8, hc7, h⟩ := xw_bn2I h
      refine xw_callSi ⟨hx, hb, hml, hown, hts⟩ (c_MD_outside l D A ad cs Z tt fu s1 s6 p4 0 3 r8 hc7) (va_cwS 3 hts (gd_S hw_431 hw_432 hw_433 hw_434) rfl rfl rfl (by decide +kernel) ⟨Nat.le_of_ble_eq_true rfl, Nat.le_of_ble_eq_true rfl⟩) hP hK hD hX hS rfl hl.1 rfl (Nat.le_of_ble_eq_true rfl) d_MD_handler_17 (fun H locs hP hS => ?_)
      obtain ⟨hg9, h⟩ := xw_grdI h
      refine xw_if_ne (tgt := 40) hx hb hg9 d_MD_handler_20 (by decide) (fun hc10 => ?_) (fun hc10 => ?_)
      · replace h := xw_ifF hc10 h
        exact hj40 s6 h _ _ _ hP hS (lv_sub hl [] rfl)
      · replace h := xw_ifT hc10 h
        refine lv_iload_n hx hb d_MD_handler_23 rfl (lv_at hl 4 rfl) ?_
        refine lv_iconst (v := xw_i 0) hx hb d_MD_handler_24 rfl ?_
        refine lv_aload_n hx hb d_MD_handler_25 rfl (lv_at hl 1 rfl) ?_
        refine xw_getR (C := "AdviceWeaverModel") (T := T_MD) hx hb hts hin_MD hown hK hP (by decide) kr_MD (by decide) rfl 8 (by decide) (hts _ hw_449) (fun _ h9 => h9) rfl d_MD_handler_26 ?_
        refine lv_iload hx hb d_MD_handler_29 (lv_at hl 0 rfl) ?_
        obtain ⟨hg11, h⟩ := xw_grdI h
        refine xw_iald hx hb hK hP (by decide) kr_m_handlers (by decide) hg11 d_MD_handler_31 ?_
        refine lv_iconst (v := xw_i 1) hx hb d_MD_handler_32 rfl ?_
        refine xw_isub hx hb d_MD_handler_33 ?_
        obtain ⟨s12, r14, hc13, h⟩ := xw_bn2I h
        refine xw_callSi ⟨hx, hb, hml, hown, hts⟩ (c_MD_outside l D A ad cs Z tt fu s6 s12 p3 0 ((s6.1 8 (r3).toNat) - 1) r14 hc13) (va_cwS 3 hts (gd_S hw_431 hw_432 hw_433 hw_434) rfl rfl rfl (by decide +kernel) ⟨Nat.le_of_ble_eq_true rfl, Nat.le_of_ble_eq_true rfl⟩) hP hK hD hX hS rfl hl.1 rfl (Nat.le_of_ble_eq_true rfl) d_MD_handler_34 (fun H locs hP hS => ?_)
        obtain ⟨hg15, h⟩ := xw_grdI h
        refine xw_if_eq (tgt := 44) hx hb hg15 d_MD_handler_37 (by decide) (fun hc16 => ?_) (fun hc16 => ?_)
        · replace h := xw_ifT hc16 h
          refine lv_aload_n hx hb d_MD_handler_44 rfl (lv_at hl 1 rfl) ?_
          refine xw_getR (C := "AdviceWeaverModel") (T := T_MD) hx hb hts hin_MD hown hK hP (by decide) kr_MD (by decide) rfl 9 (by decide) (hts _ hw_450) (fun _ h9 => h9) rfl d_MD_handler_45 ?_
          refine lv_bipush (v := xw_i 20) hx hb d_MD_handler_48 (by decide) ?_
          refine lv_iload hx hb d_MD_handler_50 (lv_at hl 0 rfl) ?_
          refine xw_imul hx hb d_MD_handler_52 ?_
          refine lv_iconst (v := xw_i 4) hx hb d_MD_handler_53 rfl ?_
          refine lv_iload_n hx hb d_MD_handler_54 rfl (lv_at hl 4 rfl) ?_
          refine xw_imul hx hb d_MD_handler_55 ?_
          refine xw_iadd hx hb d_MD_handler_56 ?_
          refine lv_iload hx hb d_MD_handler_57 (lv_at hl 5 rfl) ?_
          refine xw_iadd hx hb d_MD_handler_59 ?_
          obtain ⟨hg17, h⟩ := xw_grdI h
          refine xw_iald hx hb hK hP (by decide) kr_m_handler (by decide) hg17 d_MD_handler_60 ?_
          exact xw_iretE hx hb hr hlk hP hK hD hX hS h d_MD_handler_61
        · replace h := xw_ifF hc16 h
          exact hj40 s12 h _ _ _ hP hS (lv_sub hl [] rfl)
def f_MD_depth (fu : Nat) (s0 : xw_S) (p1 : Int) (p2 : Int) (p3 : Int) : Option (xw_S × Int) :=
 xw_bn2 (f_MD_slot fu s0 p1 p2) (fun s1 r3 => xw_grd (xw_r r3) (xw_if (r3 < 0) (some (s1, -1))
 (xw_grd ((0 ≤ r3 ∧ r3 < ((12 : Nat) : Int))) (xw_bn2 (f_MD_outside fu s1 p3 0 ((s1.1 6 (r3).toNat) - 1)) (fun s7 r9 => xw_grd (xw_r r9) (xw_if (r9 = 0) (xw_bn2 (f_MD_explore fu s7 r3) (fun s12 r14 => xw_grd ((0 ≤ p3 ∧ p3 < ((121 : Nat) : Int))) (some (s12, s12.1 15 (p3).toNat))))
 (some (s7, -1))))))))
set_option maxRecDepth 100000 in
set_option maxHeartbeats 4000000 in
theorem c_MD_depth (l : Launch) (D : va_G) (A : Nat → Prop) (ad : Nat → Nat) (cs : Nat → ClassId) (Z : va_W) (tt : Nat → Nat) (fu : Nat) (s0 sZ : xw_S) (p1 : Int) (p2 : Int) (p3 : Int) (r0 : Int) (h : f_MD_depth fu s0 p1 p2 p3 = some (sZ, r0)) : Met l y_MD_depth w_MD_depth ({ frames := 4, cells := 0, slots := 0, locals := 94 }) (va_Pc [.ref (ad 0), .int (xw_i p1), .int (xw_i p2), .int (xw_i p3)] (xw_H D vwCl A kdR 29 ad cs Z tt s0)) (va_Qi (fun r u => r = xw_i r0 ∧ u = sZ) (xw_H D vwCl A kdR 29 ad cs Z tt) A) 0 0 A := by
  refine Met.ofW (cc := b_MD_depth) (maxL := 5) (ret := (some .int)) (by decide) rfl ?_
  intro p e s m args below meth c s₁ B hml hv
  obtain ⟨rfl, hP, hK, hD, hX⟩ := hv
  have hx := B.exec
  have hb := B.bytes
  have hr := B.returns
  have hts0 := atoms_spec (ws := w_MD_depth) B.pre
  have hts := fun w (hw : w ∈ wAll) => hts0 w (List.mem_cons_of_mem _ hw)
  have hown : s.vm.findClass "AdviceWeaverModel" = some m.cls := findClass_of_methodNamed B.named
  have hlk := B.notSynchronized
  clear hts0 B
  have hS : va_S A s.heap s.heap [] := va_S.rf
  have hl := lv_entry [.ref (ad 0), .int (xw_i p1), .int (xw_i p2), .int (xw_i p3)] (n := 5) (Nat.le_of_ble_eq_true rfl)
  rw [lg_entry_eq]
  generalize (lg_sl [.ref (ad 0), .int (xw_i p1), .int (xw_i p2), .int (xw_i p3)] ++ List.replicate (5 - (lg_sl [.ref (ad 0), .int (xw_i p1), .int (xw_i p2), .int (xw_i p3)]).length) Slot.unset).toArray = ls at hl ⊢
  have hl : lv_has ls 5 [(0, .ref (ad 0)), (1, .int (xw_i p1)), (2, .int (xw_i p2)), (3, .int (xw_i p3))] := hl
  unfold f_MD_depth at h
  refine lv_aload_n hx hb d_MD_depth_0 rfl (lv_at hl 0 rfl) ?_
  refine lv_iload_n hx hb d_MD_depth_1 rfl (lv_at hl 1 rfl) ?_
  refine lv_iload_n hx hb d_MD_depth_2 rfl (lv_at hl 2 rfl) ?_
  obtain ⟨s1, r3, hc2, h⟩ := xw_bn2I h
  refine xw_callVi (C := "AdviceWeaverModel") (T := T_MD) ⟨hx, hb, hml, hown, hts⟩ (c_MD_slot l D A ad cs Z tt fu s0 s1 p1 p2 r3 hc2) (cwV 2 hts (gd_V hw_607 hw_608 hw_609 hw_433 hw_610) rfl rfl rfl (by decide +kernel) ⟨Nat.le_of_ble_eq_true rfl, Nat.le_of_ble_eq_true rfl⟩) hP hK hD hX hS (by decide) kr_MD (by decide) rfl rfl hl.1 rfl (Nat.le_of_ble_eq_true rfl) d_MD_depth_3 (fun H locs hP hS => ?_)
  refine lv_istore hx hb d_MD_depth_6 hl (by decide) rfl (fun ls hl => ?_)
  refine lv_iload hx hb d_MD_depth_8 (lv_at hl 0 rfl) ?_
  obtain ⟨hg4, h⟩ := xw_grdI h
  refine xw_if_lt (tgt := 30) hx hb hg4 d_MD_depth_10 (by decide) (fun hc5 => ?_) (fun hc5 => ?_)
  · replace h := xw_ifT hc5 h
    refine lv_iconst (v := xw_i (-1)) hx hb d_MD_depth_30 rfl ?_
    exact xw_iretE hx hb hr hlk hP hK hD hX hS h d_MD_depth_31
  · replace h := xw_ifF hc5 h
    refine lv_iload_n hx hb d_MD_depth_13 rfl (lv_at hl 4 rfl) ?_
    refine lv_iconst (v := xw_i 0) hx hb d_MD_depth_14 rfl ?_
    refine lv_aload_n hx hb d_MD_depth_15 rfl (lv_at hl 1 rfl) ?_
    refine xw_getR (C := "AdviceWeaverModel") (T := T_MD) hx hb hts hin_MD hown hK hP (by decide) kr_MD (by decide) rfl 6 (by decide) (hts _ hw_447) (fun _ h9 => h9) rfl d_MD_depth_16 ?_
    refine lv_iload hx hb d_MD_depth_19 (lv_at hl 0 rfl) ?_
    obtain ⟨hg6, h⟩ := xw_grdI h
    refine xw_iald hx hb hK hP (by decide) kr_m_length (by decide) hg6 d_MD_depth_21 ?_
    refine lv_iconst (v := xw_i 1) hx hb d_MD_depth_22 rfl ?_
    refine xw_isub hx hb d_MD_depth_23 ?_
    obtain ⟨s7, r9, hc8, h⟩ := xw_bn2I h
    refine xw_callSi ⟨hx, hb, hml, hown, hts⟩ (c_MD_outside l D A ad cs Z tt fu s1 s7 p3 0 ((s1.1 6 (r3).toNat) - 1) r9 hc8) (va_cwS 3 hts (gd_S hw_431 hw_432 hw_433 hw_434) rfl rfl rfl (by decide +kernel) ⟨Nat.le_of_ble_eq_true rfl, Nat.le_of_ble_eq_true rfl⟩) hP hK hD hX hS rfl hl.1 rfl (Nat.le_of_ble_eq_true rfl) d_MD_depth_24 (fun H locs hP hS => ?_)
    obtain ⟨hg10, h⟩ := xw_grdI h
    refine xw_if_eq (tgt := 32) hx hb hg10 d_MD_depth_27 (by decide) (fun hc11 => ?_) (fun hc11 => ?_)
    · replace h := xw_ifT hc11 h
      refine lv_aload_n hx hb d_MD_depth_32 rfl (lv_at hl 1 rfl) ?_
      refine lv_iload hx hb d_MD_depth_33 (lv_at hl 0 rfl) ?_
      obtain ⟨s12, r14, hc13, h⟩ := xw_bn2I h
      refine xw_callVi (C := "AdviceWeaverModel") (T := T_MD) ⟨hx, hb, hml, hown, hts⟩ (c_MD_explore l D A ad cs Z tt fu s7 s12 r3 r14 hc13) (cwV 1 hts (gd_V hw_513 hw_514 hw_515 hw_433 hw_516) rfl rfl rfl (by decide +kernel) ⟨Nat.le_of_ble_eq_true rfl, Nat.le_of_ble_eq_true rfl⟩) hP hK hD hX hS (by decide) kr_MD (by decide) rfl rfl hl.1 rfl (Nat.le_of_ble_eq_true rfl) d_MD_depth_35 (fun H locs hP hS => ?_)
      refine lv_pop hx hb d_MD_depth_38 rfl ?_
      refine lv_aload_n hx hb d_MD_depth_39 rfl (lv_at hl 1 rfl) ?_
      refine xw_getR (C := "AdviceWeaverModel") (T := T_MD) hx hb hts hin_MD hown hK hP (by decide) kr_MD (by decide) rfl 21 (by decide) (hts _ hw_479) (fun _ h9 => h9) rfl d_MD_depth_40 ?_
      refine lv_iload_n hx hb d_MD_depth_43 rfl (lv_at hl 4 rfl) ?_
      obtain ⟨hg15, h⟩ := xw_grdI h
      refine xw_iald hx hb hK hP (by decide) kr_m_depths (by decide) hg15 d_MD_depth_44 ?_
      exact xw_iretE hx hb hr hlk hP hK hD hX hS h d_MD_depth_45
    · replace h := xw_ifF hc11 h
      refine lv_iconst (v := xw_i (-1)) hx hb d_MD_depth_30 rfl ?_
      exact xw_iretE hx hb hr hlk hP hK hD hX hS h d_MD_depth_31
