/-! the reference, piece 2 -/
theorem d_MD_transformer_0 : decode b_MD_transformer 0 = .ok (.iload_n 2, 1) := by decide +kernel
theorem d_MD_transformer_1 : decode b_MD_transformer 1 = .ok (.ifCond .eq 14, 3) := by decide +kernel
theorem d_MD_transformer_4 : decode b_MD_transformer 4 = .ok (.iload_n 2, 1) := by decide +kernel
theorem d_MD_transformer_5 : decode b_MD_transformer 5 = .ok (.bipush 97, 2) := by decide +kernel
theorem d_MD_transformer_7 : decode b_MD_transformer 7 = .ok (.bipush 122, 2) := by decide +kernel
theorem d_MD_transformer_9 : decode b_MD_transformer 9 = .ok (.invokestatic 96, 3) := by decide +kernel
theorem d_MD_transformer_12 : decode b_MD_transformer 12 = .ok (.ifCond .ne 20, 3) := by decide +kernel
theorem d_MD_transformer_15 : decode b_MD_transformer 15 = .ok (.iload_n 3, 1) := by decide +kernel
theorem d_MD_transformer_16 : decode b_MD_transformer 16 = .ok (.iconst (-1), 1) := by decide +kernel
theorem d_MD_transformer_17 : decode b_MD_transformer 17 = .ok (.iconst 2, 1) := by decide +kernel
theorem d_MD_transformer_18 : decode b_MD_transformer 18 = .ok (.invokestatic 96, 3) := by decide +kernel
theorem d_MD_transformer_21 : decode b_MD_transformer 21 = .ok (.ifCond .ne 11, 3) := by decide +kernel
theorem d_MD_transformer_24 : decode b_MD_transformer 24 = .ok (.aload_n 0, 1) := by decide +kernel
theorem d_MD_transformer_25 : decode b_MD_transformer 25 = .ok (.getfield 188, 3) := by decide +kernel
theorem d_MD_transformer_28 : decode b_MD_transformer 28 = .ok (.iconst 3, 1) := by decide +kernel
theorem d_MD_transformer_29 : decode b_MD_transformer 29 = .ok (.if_icmp .lt 5, 3) := by decide +kernel
theorem d_MD_transformer_32 : decode b_MD_transformer 32 = .ok (.iconst (-1), 1) := by decide +kernel
theorem d_MD_transformer_33 : decode b_MD_transformer 33 = .ok (.ireturn, 1) := by decide +kernel
theorem d_MD_transformer_34 : decode b_MD_transformer 34 = .ok (.aload_n 0, 1) := by decide +kernel
theorem d_MD_transformer_35 : decode b_MD_transformer 35 = .ok (.getfield 37, 3) := by decide +kernel
theorem d_MD_transformer_38 : decode b_MD_transformer 38 = .ok (.aload_n 0, 1) := by decide +kernel
theorem d_MD_transformer_39 : decode b_MD_transformer 39 = .ok (.getfield 188, 3) := by decide +kernel
theorem d_MD_transformer_42 : decode b_MD_transformer 42 = .ok (.iload_n 1, 1) := by decide +kernel
theorem d_MD_transformer_43 : decode b_MD_transformer 43 = .ok (.bastore, 1) := by decide +kernel
theorem d_MD_transformer_44 : decode b_MD_transformer 44 = .ok (.aload_n 0, 1) := by decide +kernel
theorem d_MD_transformer_45 : decode b_MD_transformer 45 = .ok (.getfield 41, 3) := by decide +kernel
theorem d_MD_transformer_48 : decode b_MD_transformer 48 = .ok (.aload_n 0, 1) := by decide +kernel
theorem d_MD_transformer_49 : decode b_MD_transformer 49 = .ok (.getfield 188, 3) := by decide +kernel
theorem d_MD_transformer_52 : decode b_MD_transformer 52 = .ok (.iload_n 2, 1) := by decide +kernel
theorem d_MD_transformer_53 : decode b_MD_transformer 53 = .ok (.iastore, 1) := by decide +kernel
theorem d_MD_transformer_54 : decode b_MD_transformer 54 = .ok (.aload_n 0, 1) := by decide +kernel
theorem d_MD_transformer_55 : decode b_MD_transformer 55 = .ok (.getfield 44, 3) := by decide +kernel
theorem d_MD_transformer_58 : decode b_MD_transformer 58 = .ok (.aload_n 0, 1) := by decide +kernel
theorem d_MD_transformer_59 : decode b_MD_transformer 59 = .ok (.getfield 188, 3) := by decide +kernel
theorem d_MD_transformer_62 : decode b_MD_transformer 62 = .ok (.iload_n 3, 1) := by decide +kernel
theorem d_MD_transformer_63 : decode b_MD_transformer 63 = .ok (.iastore, 1) := by decide +kernel
theorem d_MD_transformer_64 : decode b_MD_transformer 64 = .ok (.aload_n 0, 1) := by decide +kernel
theorem d_MD_transformer_65 : decode b_MD_transformer 65 = .ok (.dup, 1) := by decide +kernel
theorem d_MD_transformer_66 : decode b_MD_transformer 66 = .ok (.getfield 188, 3) := by decide +kernel
theorem d_MD_transformer_69 : decode b_MD_transformer 69 = .ok (.iconst 1, 1) := by decide +kernel
theorem d_MD_transformer_70 : decode b_MD_transformer 70 = .ok (.iadd, 1) := by decide +kernel
theorem d_MD_transformer_71 : decode b_MD_transformer 71 = .ok (.putfield 188, 3) := by decide +kernel
theorem d_MD_transformer_74 : decode b_MD_transformer 74 = .ok (.aload_n 0, 1) := by decide +kernel
theorem d_MD_transformer_75 : decode b_MD_transformer 75 = .ok (.getfield 188, 3) := by decide +kernel
theorem d_MD_transformer_78 : decode b_MD_transformer 78 = .ok (.iconst 1, 1) := by decide +kernel
theorem d_MD_transformer_79 : decode b_MD_transformer 79 = .ok (.isub, 1) := by decide +kernel
theorem d_MD_transformer_80 : decode b_MD_transformer 80 = .ok (.ireturn, 1) := by decide +kernel
theorem d_MD_unchain_0 : decode b_MD_unchain 0 = .ok (.aload_n 0, 1) := by decide +kernel
theorem d_MD_unchain_1 : decode b_MD_unchain 1 = .ok (.iconst 0, 1) := by decide +kernel
theorem d_MD_unchain_2 : decode b_MD_unchain 2 = .ok (.putfield 188, 3) := by decide +kernel
theorem d_MD_unchain_5 : decode b_MD_unchain 5 = .ok (.return_, 1) := by decide +kernel
theorem d_MD_choose_0 : decode b_MD_choose 0 = .ok (.iconst 0, 1) := by decide +kernel
theorem d_MD_choose_1 : decode b_MD_choose 1 = .ok (.istore_n 3, 1) := by decide +kernel
theorem d_MD_choose_2 : decode b_MD_choose 2 = .ok (.iload_n 3, 1) := by decide +kernel
theorem d_MD_choose_3 : decode b_MD_choose 3 = .ok (.bipush 120, 2) := by decide +kernel
theorem d_MD_choose_5 : decode b_MD_choose 5 = .ok (.if_icmp .gt 54, 3) := by decide +kernel
theorem d_MD_choose_8 : decode b_MD_choose 8 = .ok (.aload_n 0, 1) := by decide +kernel
theorem d_MD_choose_9 : decode b_MD_choose 9 = .ok (.getfield 60, 3) := by decide +kernel
theorem d_MD_choose_12 : decode b_MD_choose 12 = .ok (.iload_n 3, 1) := by decide +kernel
theorem d_MD_choose_13 : decode b_MD_choose 13 = .ok (.iload_n 2, 1) := by decide +kernel
theorem d_MD_choose_14 : decode b_MD_choose 14 = .ok (.ifCond .ne 37, 3) := by decide +kernel
theorem d_MD_choose_17 : decode b_MD_choose 17 = .ok (.iload_n 3, 1) := by decide +kernel
theorem d_MD_choose_18 : decode b_MD_choose 18 = .ok (.aload_n 0, 1) := by decide +kernel
theorem d_MD_choose_19 : decode b_MD_choose 19 = .ok (.getfield 25, 3) := by decide +kernel
theorem d_MD_choose_22 : decode b_MD_choose 22 = .ok (.iload_n 1, 1) := by decide +kernel
theorem d_MD_choose_23 : decode b_MD_choose 23 = .ok (.iaload, 1) := by decide +kernel
theorem d_MD_choose_24 : decode b_MD_choose 24 = .ok (.if_icmp .ge 27, 3) := by decide +kernel
theorem d_MD_choose_27 : decode b_MD_choose 27 = .ok (.aload_n 0, 1) := by decide +kernel
theorem d_MD_choose_28 : decode b_MD_choose 28 = .ok (.getfield 50, 3) := by decide +kernel
theorem d_MD_choose_31 : decode b_MD_choose 31 = .ok (.iload_n 3, 1) := by decide +kernel
theorem d_MD_choose_32 : decode b_MD_choose 32 = .ok (.baload, 1) := by decide +kernel
theorem d_MD_choose_33 : decode b_MD_choose 33 = .ok (.ifCond .eq 18, 3) := by decide +kernel
theorem d_MD_choose_36 : decode b_MD_choose 36 = .ok (.aload_n 0, 1) := by decide +kernel
theorem d_MD_choose_37 : decode b_MD_choose 37 = .ok (.iload_n 1, 1) := by decide +kernel
theorem d_MD_choose_38 : decode b_MD_choose 38 = .ok (.iload_n 3, 1) := by decide +kernel
theorem d_MD_choose_39 : decode b_MD_choose 39 = .ok (.invokevirtual 104, 3) := by decide +kernel
theorem d_MD_choose_42 : decode b_MD_choose 42 = .ok (.bipush 14, 2) := by decide +kernel
theorem d_MD_choose_44 : decode b_MD_choose 44 = .ok (.if_icmp .ne 7, 3) := by decide +kernel
theorem d_MD_choose_47 : decode b_MD_choose 47 = .ok (.iconst 1, 1) := by decide +kernel
theorem d_MD_choose_48 : decode b_MD_choose 48 = .ok (.goto 4, 3) := by decide +kernel
theorem d_MD_choose_51 : decode b_MD_choose 51 = .ok (.iconst 0, 1) := by decide +kernel
theorem d_MD_choose_52 : decode b_MD_choose 52 = .ok (.bastore, 1) := by decide +kernel
theorem d_MD_choose_53 : decode b_MD_choose 53 = .ok (.iinc 3 1, 3) := by decide +kernel
theorem d_MD_choose_56 : decode b_MD_choose 56 = .ok (.goto (-54), 3) := by decide +kernel
theorem d_MD_choose_59 : decode b_MD_choose 59 = .ok (.iload_n 2, 1) := by decide +kernel
theorem d_MD_choose_60 : decode b_MD_choose 60 = .ok (.ifCond .ne 4, 3) := by decide +kernel
theorem d_MD_choose_63 : decode b_MD_choose 63 = .ok (.return_, 1) := by decide +kernel
theorem d_MD_choose_64 : decode b_MD_choose 64 = .ok (.aload_n 0, 1) := by decide +kernel
theorem d_MD_choose_65 : decode b_MD_choose 65 = .ok (.getfield 60, 3) := by decide +kernel
theorem d_MD_choose_68 : decode b_MD_choose 68 = .ok (.iconst 0, 1) := by decide +kernel
theorem d_MD_choose_69 : decode b_MD_choose 69 = .ok (.iconst 1, 1) := by decide +kernel
theorem d_MD_choose_70 : decode b_MD_choose 70 = .ok (.bastore, 1) := by decide +kernel
theorem d_MD_choose_71 : decode b_MD_choose 71 = .ok (.iconst 0, 1) := by decide +kernel
theorem d_MD_choose_72 : decode b_MD_choose 72 = .ok (.istore_n 3, 1) := by decide +kernel
theorem d_MD_choose_73 : decode b_MD_choose 73 = .ok (.iload_n 3, 1) := by decide +kernel
theorem d_MD_choose_74 : decode b_MD_choose 74 = .ok (.aload_n 0, 1) := by decide +kernel
theorem d_MD_choose_75 : decode b_MD_choose 75 = .ok (.getfield 25, 3) := by decide +kernel
theorem d_MD_choose_78 : decode b_MD_choose 78 = .ok (.iload_n 1, 1) := by decide +kernel
theorem d_MD_choose_79 : decode b_MD_choose 79 = .ok (.iaload, 1) := by decide +kernel
theorem d_MD_choose_80 : decode b_MD_choose 80 = .ok (.if_icmp .ge 84, 3) := by decide +kernel
theorem d_MD_choose_83 : decode b_MD_choose 83 = .ok (.aload_n 0, 1) := by decide +kernel
theorem d_MD_choose_84 : decode b_MD_choose 84 = .ok (.iload_n 1, 1) := by decide +kernel
theorem d_MD_choose_85 : decode b_MD_choose 85 = .ok (.iload_n 3, 1) := by decide +kernel
theorem d_MD_choose_86 : decode b_MD_choose 86 = .ok (.invokevirtual 104, 3) := by decide +kernel
theorem d_MD_choose_89 : decode b_MD_choose 89 = .ok (.istore 4, 2) := by decide +kernel
theorem d_MD_choose_91 : decode b_MD_choose 91 = .ok (.aload_n 0, 1) := by decide +kernel
theorem d_MD_choose_92 : decode b_MD_choose 92 = .ok (.getfield 50, 3) := by decide +kernel
theorem d_MD_choose_95 : decode b_MD_choose 95 = .ok (.iload_n 3, 1) := by decide +kernel
theorem d_MD_choose_96 : decode b_MD_choose 96 = .ok (.baload, 1) := by decide +kernel
theorem d_MD_choose_97 : decode b_MD_choose 97 = .ok (.ifCond .eq 23, 3) := by decide +kernel
theorem d_MD_choose_100 : decode b_MD_choose 100 = .ok (.iload 4, 2) := by decide +kernel
theorem d_MD_choose_102 : decode b_MD_choose 102 = .ok (.invokestatic 119, 3) := by decide +kernel
theorem d_MD_choose_105 : decode b_MD_choose 105 = .ok (.ifCond .eq 15, 3) := by decide +kernel
theorem d_MD_choose_108 : decode b_MD_choose 108 = .ok (.aload_n 0, 1) := by decide +kernel
theorem d_MD_choose_109 : decode b_MD_choose 109 = .ok (.getfield 60, 3) := by decide +kernel
theorem d_MD_choose_112 : decode b_MD_choose 112 = .ok (.aload_n 0, 1) := by decide +kernel
theorem d_MD_choose_113 : decode b_MD_choose 113 = .ok (.iload_n 1, 1) := by decide +kernel
theorem d_MD_choose_114 : decode b_MD_choose 114 = .ok (.iload_n 3, 1) := by decide +kernel
theorem d_MD_choose_115 : decode b_MD_choose 115 = .ok (.invokevirtual 122, 3) := by decide +kernel
theorem d_MD_choose_118 : decode b_MD_choose 118 = .ok (.iconst 1, 1) := by decide +kernel
theorem d_MD_choose_119 : decode b_MD_choose 119 = .ok (.bastore, 1) := by decide +kernel
theorem d_MD_choose_120 : decode b_MD_choose 120 = .ok (.aload_n 0, 1) := by decide +kernel
theorem d_MD_choose_121 : decode b_MD_choose 121 = .ok (.getfield 50, 3) := by decide +kernel
theorem d_MD_choose_124 : decode b_MD_choose 124 = .ok (.iload_n 3, 1) := by decide +kernel
theorem d_MD_choose_125 : decode b_MD_choose 125 = .ok (.baload, 1) := by decide +kernel
theorem d_MD_choose_126 : decode b_MD_choose 126 = .ok (.ifCond .eq 32, 3) := by decide +kernel
theorem d_MD_choose_129 : decode b_MD_choose 129 = .ok (.iload 4, 2) := by decide +kernel
theorem d_MD_choose_131 : decode b_MD_choose 131 = .ok (.invokestatic 119, 3) := by decide +kernel
theorem d_MD_choose_134 : decode b_MD_choose 134 = .ok (.ifCond .ne 11, 3) := by decide +kernel
theorem d_MD_choose_137 : decode b_MD_choose 137 = .ok (.iload 4, 2) := by decide +kernel
theorem d_MD_choose_139 : decode b_MD_choose 139 = .ok (.invokestatic 153, 3) := by decide +kernel
theorem d_MD_choose_142 : decode b_MD_choose 142 = .ok (.ifCond .eq 16, 3) := by decide +kernel
theorem d_MD_choose_145 : decode b_MD_choose 145 = .ok (.aload_n 0, 1) := by decide +kernel
theorem d_MD_choose_146 : decode b_MD_choose 146 = .ok (.getfield 60, 3) := by decide +kernel
theorem d_MD_choose_149 : decode b_MD_choose 149 = .ok (.iload_n 3, 1) := by decide +kernel
theorem d_MD_choose_150 : decode b_MD_choose 150 = .ok (.iload 4, 2) := by decide +kernel
theorem d_MD_choose_152 : decode b_MD_choose 152 = .ok (.invokestatic 111, 3) := by decide +kernel
theorem d_MD_choose_155 : decode b_MD_choose 155 = .ok (.iadd, 1) := by decide +kernel
theorem d_MD_choose_156 : decode b_MD_choose 156 = .ok (.iconst 1, 1) := by decide +kernel
theorem d_MD_choose_157 : decode b_MD_choose 157 = .ok (.bastore, 1) := by decide +kernel
theorem d_MD_choose_158 : decode b_MD_choose 158 = .ok (.iinc 3 1, 3) := by decide +kernel
theorem d_MD_choose_161 : decode b_MD_choose 161 = .ok (.goto (-88), 3) := by decide +kernel
theorem d_MD_choose_164 : decode b_MD_choose 164 = .ok (.iconst 0, 1) := by decide +kernel
theorem d_MD_choose_165 : decode b_MD_choose 165 = .ok (.istore_n 3, 1) := by decide +kernel
theorem d_MD_choose_166 : decode b_MD_choose 166 = .ok (.iload_n 3, 1) := by decide +kernel
theorem d_MD_choose_167 : decode b_MD_choose 167 = .ok (.aload_n 0, 1) := by decide +kernel
theorem d_MD_choose_168 : decode b_MD_choose 168 = .ok (.getfield 31, 3) := by decide +kernel
theorem d_MD_choose_171 : decode b_MD_choose 171 = .ok (.iload_n 1, 1) := by decide +kernel
theorem d_MD_choose_172 : decode b_MD_choose 172 = .ok (.iaload, 1) := by decide +kernel
theorem d_MD_choose_173 : decode b_MD_choose 173 = .ok (.if_icmp .ge 30, 3) := by decide +kernel
theorem d_MD_choose_176 : decode b_MD_choose 176 = .ok (.aload_n 0, 1) := by decide +kernel
theorem d_MD_choose_177 : decode b_MD_choose 177 = .ok (.getfield 60, 3) := by decide +kernel
theorem d_MD_choose_180 : decode b_MD_choose 180 = .ok (.aload_n 0, 1) := by decide +kernel
theorem d_MD_choose_181 : decode b_MD_choose 181 = .ok (.getfield 34, 3) := by decide +kernel
theorem d_MD_choose_184 : decode b_MD_choose 184 = .ok (.bipush 20, 2) := by decide +kernel
theorem d_MD_choose_186 : decode b_MD_choose 186 = .ok (.iload_n 1, 1) := by decide +kernel
theorem d_MD_choose_187 : decode b_MD_choose 187 = .ok (.imul, 1) := by decide +kernel
theorem d_MD_choose_188 : decode b_MD_choose 188 = .ok (.iconst 4, 1) := by decide +kernel
theorem d_MD_choose_189 : decode b_MD_choose 189 = .ok (.iload_n 3, 1) := by decide +kernel
theorem d_MD_choose_190 : decode b_MD_choose 190 = .ok (.imul, 1) := by decide +kernel
theorem d_MD_choose_191 : decode b_MD_choose 191 = .ok (.iadd, 1) := by decide +kernel
theorem d_MD_choose_192 : decode b_MD_choose 192 = .ok (.iconst 2, 1) := by decide +kernel
theorem d_MD_choose_193 : decode b_MD_choose 193 = .ok (.iadd, 1) := by decide +kernel
theorem d_MD_choose_194 : decode b_MD_choose 194 = .ok (.iaload, 1) := by decide +kernel
theorem d_MD_choose_195 : decode b_MD_choose 195 = .ok (.iconst 1, 1) := by decide +kernel
theorem d_MD_choose_196 : decode b_MD_choose 196 = .ok (.bastore, 1) := by decide +kernel
theorem d_MD_choose_197 : decode b_MD_choose 197 = .ok (.iinc 3 1, 3) := by decide +kernel
theorem d_MD_choose_200 : decode b_MD_choose 200 = .ok (.goto (-34), 3) := by decide +kernel
theorem d_MD_choose_203 : decode b_MD_choose 203 = .ok (.aload_n 0, 1) := by decide +kernel
theorem d_MD_choose_204 : decode b_MD_choose 204 = .ok (.getfield 60, 3) := by decide +kernel
theorem d_MD_choose_207 : decode b_MD_choose 207 = .ok (.aload_n 0, 1) := by decide +kernel
theorem d_MD_choose_208 : decode b_MD_choose 208 = .ok (.getfield 25, 3) := by decide +kernel
theorem d_MD_choose_211 : decode b_MD_choose 211 = .ok (.iload_n 1, 1) := by decide +kernel
theorem d_MD_choose_212 : decode b_MD_choose 212 = .ok (.iaload, 1) := by decide +kernel
theorem d_MD_choose_213 : decode b_MD_choose 213 = .ok (.iconst 0, 1) := by decide +kernel
theorem d_MD_choose_214 : decode b_MD_choose 214 = .ok (.bastore, 1) := by decide +kernel
theorem d_MD_choose_215 : decode b_MD_choose 215 = .ok (.return_, 1) := by decide +kernel
theorem d_MD_lay_0 : decode b_MD_lay 0 = .ok (.iload_n 2, 1) := by decide +kernel
theorem d_MD_lay_1 : decode b_MD_lay 1 = .ok (.istore_n 3, 1) := by decide +kernel
theorem d_MD_lay_2 : decode b_MD_lay 2 = .ok (.iconst 0, 1) := by decide +kernel
theorem d_MD_lay_3 : decode b_MD_lay 3 = .ok (.istore 4, 2) := by decide +kernel
theorem d_MD_lay_5 : decode b_MD_lay 5 = .ok (.iload 4, 2) := by decide +kernel
theorem d_MD_lay_7 : decode b_MD_lay 7 = .ok (.aload_n 0, 1) := by decide +kernel
theorem d_MD_lay_8 : decode b_MD_lay 8 = .ok (.getfield 25, 3) := by decide +kernel
theorem d_MD_lay_11 : decode b_MD_lay 11 = .ok (.iload_n 1, 1) := by decide +kernel
theorem d_MD_lay_12 : decode b_MD_lay 12 = .ok (.iaload, 1) := by decide +kernel
theorem d_MD_lay_13 : decode b_MD_lay 13 = .ok (.if_icmp .ge 82, 3) := by decide +kernel
theorem d_MD_lay_16 : decode b_MD_lay 16 = .ok (.aload_n 0, 1) := by decide +kernel
theorem d_MD_lay_17 : decode b_MD_lay 17 = .ok (.getfield 50, 3) := by decide +kernel
theorem d_MD_lay_20 : decode b_MD_lay 20 = .ok (.iload 4, 2) := by decide +kernel
theorem d_MD_lay_22 : decode b_MD_lay 22 = .ok (.baload, 1) := by decide +kernel
theorem d_MD_lay_23 : decode b_MD_lay 23 = .ok (.ifCond .eq 66, 3) := by decide +kernel
theorem d_MD_lay_26 : decode b_MD_lay 26 = .ok (.aload_n 0, 1) := by decide +kernel
theorem d_MD_lay_27 : decode b_MD_lay 27 = .ok (.getfield 66, 3) := by decide +kernel
theorem d_MD_lay_30 : decode b_MD_lay 30 = .ok (.iload 4, 2) := by decide +kernel
theorem d_MD_lay_32 : decode b_MD_lay 32 = .ok (.iload_n 3, 1) := by decide +kernel
theorem d_MD_lay_33 : decode b_MD_lay 33 = .ok (.iastore, 1) := by decide +kernel
theorem d_MD_lay_34 : decode b_MD_lay 34 = .ok (.aload_n 0, 1) := by decide +kernel
theorem d_MD_lay_35 : decode b_MD_lay 35 = .ok (.getfield 60, 3) := by decide +kernel
theorem d_MD_lay_38 : decode b_MD_lay 38 = .ok (.iload 4, 2) := by decide +kernel
theorem d_MD_lay_40 : decode b_MD_lay 40 = .ok (.baload, 1) := by decide +kernel
theorem d_MD_lay_41 : decode b_MD_lay 41 = .ok (.ifCond .eq 9, 3) := by decide +kernel
theorem d_MD_lay_44 : decode b_MD_lay 44 = .ok (.iload_n 3, 1) := by decide +kernel
theorem d_MD_lay_45 : decode b_MD_lay 45 = .ok (.iconst 2, 1) := by decide +kernel
theorem d_MD_lay_46 : decode b_MD_lay 46 = .ok (.iadd, 1) := by decide +kernel
theorem d_MD_lay_47 : decode b_MD_lay 47 = .ok (.goto 4, 3) := by decide +kernel
theorem d_MD_lay_50 : decode b_MD_lay 50 = .ok (.iload_n 3, 1) := by decide +kernel
theorem d_MD_lay_51 : decode b_MD_lay 51 = .ok (.istore_n 3, 1) := by decide +kernel
theorem d_MD_lay_52 : decode b_MD_lay 52 = .ok (.aload_n 0, 1) := by decide +kernel
theorem d_MD_lay_53 : decode b_MD_lay 53 = .ok (.getfield 69, 3) := by decide +kernel
theorem d_MD_lay_56 : decode b_MD_lay 56 = .ok (.iload 4, 2) := by decide +kernel
theorem d_MD_lay_58 : decode b_MD_lay 58 = .ok (.iload_n 3, 1) := by decide +kernel
theorem d_MD_lay_59 : decode b_MD_lay 59 = .ok (.iastore, 1) := by decide +kernel
theorem d_MD_lay_60 : decode b_MD_lay 60 = .ok (.iload_n 3, 1) := by decide +kernel
theorem d_MD_lay_61 : decode b_MD_lay 61 = .ok (.aload_n 0, 1) := by decide +kernel
theorem d_MD_lay_62 : decode b_MD_lay 62 = .ok (.iload_n 1, 1) := by decide +kernel
theorem d_MD_lay_63 : decode b_MD_lay 63 = .ok (.iload 4, 2) := by decide +kernel
theorem d_MD_lay_65 : decode b_MD_lay 65 = .ok (.invokevirtual 104, 3) := by decide +kernel
theorem d_MD_lay_68 : decode b_MD_lay 68 = .ok (.invokestatic 111, 3) := by decide +kernel
theorem d_MD_lay_71 : decode b_MD_lay 71 = .ok (.iadd, 1) := by decide +kernel
theorem d_MD_lay_72 : decode b_MD_lay 72 = .ok (.aload_n 0, 1) := by decide +kernel
theorem d_MD_lay_73 : decode b_MD_lay 73 = .ok (.getfield 63, 3) := by decide +kernel
theorem d_MD_lay_76 : decode b_MD_lay 76 = .ok (.iload 4, 2) := by decide +kernel
theorem d_MD_lay_78 : decode b_MD_lay 78 = .ok (.baload, 1) := by decide +kernel
theorem d_MD_lay_79 : decode b_MD_lay 79 = .ok (.ifCond .eq 7, 3) := by decide +kernel
theorem d_MD_lay_82 : decode b_MD_lay 82 = .ok (.iconst 1, 1) := by decide +kernel
theorem d_MD_lay_83 : decode b_MD_lay 83 = .ok (.goto 4, 3) := by decide +kernel
theorem d_MD_lay_86 : decode b_MD_lay 86 = .ok (.iconst 0, 1) := by decide +kernel
theorem d_MD_lay_87 : decode b_MD_lay 87 = .ok (.iadd, 1) := by decide +kernel
theorem d_MD_lay_88 : decode b_MD_lay 88 = .ok (.istore_n 3, 1) := by decide +kernel
theorem d_MD_lay_89 : decode b_MD_lay 89 = .ok (.iinc 4 1, 3) := by decide +kernel
theorem d_MD_lay_92 : decode b_MD_lay 92 = .ok (.goto (-87), 3) := by decide +kernel
theorem d_MD_lay_95 : decode b_MD_lay 95 = .ok (.aload_n 0, 1) := by decide +kernel
theorem d_MD_lay_96 : decode b_MD_lay 96 = .ok (.getfield 66, 3) := by decide +kernel
theorem d_MD_lay_99 : decode b_MD_lay 99 = .ok (.aload_n 0, 1) := by decide +kernel
theorem d_MD_lay_100 : decode b_MD_lay 100 = .ok (.getfield 25, 3) := by decide +kernel
theorem d_MD_lay_103 : decode b_MD_lay 103 = .ok (.iload_n 1, 1) := by decide +kernel
theorem d_MD_lay_104 : decode b_MD_lay 104 = .ok (.iaload, 1) := by decide +kernel
theorem d_MD_lay_105 : decode b_MD_lay 105 = .ok (.iload_n 3, 1) := by decide +kernel
theorem d_MD_lay_106 : decode b_MD_lay 106 = .ok (.iastore, 1) := by decide +kernel
theorem d_MD_lay_107 : decode b_MD_lay 107 = .ok (.iconst 0, 1) := by decide +kernel
theorem d_MD_lay_108 : decode b_MD_lay 108 = .ok (.istore 4, 2) := by decide +kernel
theorem d_MD_lay_110 : decode b_MD_lay 110 = .ok (.iconst 0, 1) := by decide +kernel
theorem d_MD_lay_111 : decode b_MD_lay 111 = .ok (.istore 5, 2) := by decide +kernel
theorem d_MD_lay_113 : decode b_MD_lay 113 = .ok (.iload 5, 2) := by decide +kernel
theorem d_MD_lay_115 : decode b_MD_lay 115 = .ok (.aload_n 0, 1) := by decide +kernel
theorem d_MD_lay_116 : decode b_MD_lay 116 = .ok (.getfield 25, 3) := by decide +kernel
theorem d_MD_lay_119 : decode b_MD_lay 119 = .ok (.iload_n 1, 1) := by decide +kernel
theorem d_MD_lay_120 : decode b_MD_lay 120 = .ok (.iaload, 1) := by decide +kernel
theorem d_MD_lay_121 : decode b_MD_lay 121 = .ok (.if_icmp .ge 95, 3) := by decide +kernel
theorem d_MD_lay_124 : decode b_MD_lay 124 = .ok (.aload_n 0, 1) := by decide +kernel
theorem d_MD_lay_125 : decode b_MD_lay 125 = .ok (.getfield 50, 3) := by decide +kernel
theorem d_MD_lay_128 : decode b_MD_lay 128 = .ok (.iload 5, 2) := by decide +kernel
theorem d_MD_lay_130 : decode b_MD_lay 130 = .ok (.baload, 1) := by decide +kernel
theorem d_MD_lay_131 : decode b_MD_lay 131 = .ok (.ifCond .eq 79, 3) := by decide +kernel
theorem d_MD_lay_134 : decode b_MD_lay 134 = .ok (.aload_n 0, 1) := by decide +kernel
theorem d_MD_lay_135 : decode b_MD_lay 135 = .ok (.getfield 63, 3) := by decide +kernel
theorem d_MD_lay_138 : decode b_MD_lay 138 = .ok (.iload 5, 2) := by decide +kernel
theorem d_MD_lay_140 : decode b_MD_lay 140 = .ok (.baload, 1) := by decide +kernel
theorem d_MD_lay_141 : decode b_MD_lay 141 = .ok (.ifCond .ne 69, 3) := by decide +kernel
theorem d_MD_lay_144 : decode b_MD_lay 144 = .ok (.aload_n 0, 1) := by decide +kernel
theorem d_MD_lay_145 : decode b_MD_lay 145 = .ok (.iload_n 1, 1) := by decide +kernel
theorem d_MD_lay_146 : decode b_MD_lay 146 = .ok (.iload 5, 2) := by decide +kernel
theorem d_MD_lay_148 : decode b_MD_lay 148 = .ok (.invokevirtual 104, 3) := by decide +kernel
theorem d_MD_lay_151 : decode b_MD_lay 151 = .ok (.invokestatic 119, 3) := by decide +kernel
theorem d_MD_lay_154 : decode b_MD_lay 154 = .ok (.ifCond .eq 56, 3) := by decide +kernel
theorem d_MD_lay_157 : decode b_MD_lay 157 = .ok (.aload_n 0, 1) := by decide +kernel
theorem d_MD_lay_158 : decode b_MD_lay 158 = .ok (.iload_n 1, 1) := by decide +kernel
theorem d_MD_lay_159 : decode b_MD_lay 159 = .ok (.iload 5, 2) := by decide +kernel
theorem d_MD_lay_161 : decode b_MD_lay 161 = .ok (.invokevirtual 104, 3) := by decide +kernel
theorem d_MD_lay_164 : decode b_MD_lay 164 = .ok (.bipush 20, 2) := by decide +kernel
theorem d_MD_lay_166 : decode b_MD_lay 166 = .ok (.if_icmp .ge 44, 3) := by decide +kernel
theorem d_MD_lay_169 : decode b_MD_lay 169 = .ok (.aload_n 0, 1) := by decide +kernel
theorem d_MD_lay_170 : decode b_MD_lay 170 = .ok (.getfield 66, 3) := by decide +kernel
theorem d_MD_lay_173 : decode b_MD_lay 173 = .ok (.aload_n 0, 1) := by decide +kernel
theorem d_MD_lay_174 : decode b_MD_lay 174 = .ok (.iload_n 1, 1) := by decide +kernel
theorem d_MD_lay_175 : decode b_MD_lay 175 = .ok (.iload 5, 2) := by decide +kernel
theorem d_MD_lay_177 : decode b_MD_lay 177 = .ok (.invokevirtual 122, 3) := by decide +kernel
theorem d_MD_lay_180 : decode b_MD_lay 180 = .ok (.iaload, 1) := by decide +kernel
theorem d_MD_lay_181 : decode b_MD_lay 181 = .ok (.aload_n 0, 1) := by decide +kernel
theorem d_MD_lay_182 : decode b_MD_lay 182 = .ok (.getfield 69, 3) := by decide +kernel
theorem d_MD_lay_185 : decode b_MD_lay 185 = .ok (.iload 5, 2) := by decide +kernel
theorem d_MD_lay_187 : decode b_MD_lay 187 = .ok (.iaload, 1) := by decide +kernel
theorem d_MD_lay_188 : decode b_MD_lay 188 = .ok (.isub, 1) := by decide +kernel
theorem d_MD_lay_189 : decode b_MD_lay 189 = .ok (.bipush (-24), 2) := by decide +kernel
theorem d_MD_lay_191 : decode b_MD_lay 191 = .ok (.bipush 24, 2) := by decide +kernel
theorem d_MD_lay_193 : decode b_MD_lay 193 = .ok (.invokestatic 96, 3) := by decide +kernel
theorem d_MD_lay_196 : decode b_MD_lay 196 = .ok (.ifCond .eq 14, 3) := by decide +kernel
theorem d_MD_lay_199 : decode b_MD_lay 199 = .ok (.aload_n 0, 1) := by decide +kernel
theorem d_MD_lay_200 : decode b_MD_lay 200 = .ok (.getfield 63, 3) := by decide +kernel
theorem d_MD_lay_203 : decode b_MD_lay 203 = .ok (.iload 5, 2) := by decide +kernel
theorem d_MD_lay_205 : decode b_MD_lay 205 = .ok (.iconst 1, 1) := by decide +kernel
theorem d_MD_lay_206 : decode b_MD_lay 206 = .ok (.bastore, 1) := by decide +kernel
theorem d_MD_lay_207 : decode b_MD_lay 207 = .ok (.iconst 1, 1) := by decide +kernel
theorem d_MD_lay_208 : decode b_MD_lay 208 = .ok (.istore 4, 2) := by decide +kernel
theorem d_MD_lay_210 : decode b_MD_lay 210 = .ok (.iinc 5 1, 3) := by decide +kernel
theorem d_MD_lay_213 : decode b_MD_lay 213 = .ok (.goto (-100), 3) := by decide +kernel
theorem d_MD_lay_216 : decode b_MD_lay 216 = .ok (.iload 4, 2) := by decide +kernel
theorem d_MD_lay_218 : decode b_MD_lay 218 = .ok (.ireturn, 1) := by decide +kernel
theorem d_MD_emit_0 : decode b_MD_emit 0 = .ok (.aload_n 0, 1) := by decide +kernel
theorem d_MD_emit_1 : decode b_MD_emit 1 = .ok (.getfield 72, 3) := by decide +kernel
theorem d_MD_emit_4 : decode b_MD_emit 4 = .ok (.aload_n 0, 1) := by decide +kernel
theorem d_MD_emit_5 : decode b_MD_emit 5 = .ok (.getfield 191, 3) := by decide +kernel
theorem d_MD_emit_8 : decode b_MD_emit 8 = .ok (.iload_n 1, 1) := by decide +kernel
theorem d_MD_emit_9 : decode b_MD_emit 9 = .ok (.sipush 255, 3) := by decide +kernel
theorem d_MD_emit_12 : decode b_MD_emit 12 = .ok (.iand, 1) := by decide +kernel
theorem d_MD_emit_13 : decode b_MD_emit 13 = .ok (.iastore, 1) := by decide +kernel
theorem d_MD_emit_14 : decode b_MD_emit 14 = .ok (.aload_n 0, 1) := by decide +kernel
theorem d_MD_emit_15 : decode b_MD_emit 15 = .ok (.dup, 1) := by decide +kernel
theorem d_MD_emit_16 : decode b_MD_emit 16 = .ok (.getfield 191, 3) := by decide +kernel
theorem d_MD_emit_19 : decode b_MD_emit 19 = .ok (.iconst 1, 1) := by decide +kernel
theorem d_MD_emit_20 : decode b_MD_emit 20 = .ok (.iadd, 1) := by decide +kernel
theorem d_MD_emit_21 : decode b_MD_emit 21 = .ok (.putfield 191, 3) := by decide +kernel
theorem d_MD_emit_24 : decode b_MD_emit 24 = .ok (.return_, 1) := by decide +kernel
theorem d_MD_emitOne_0 : decode b_MD_emitOne 0 = .ok (.aload_n 0, 1) := by decide +kernel
theorem d_MD_emitOne_1 : decode b_MD_emitOne 1 = .ok (.iload_n 1, 1) := by decide +kernel
theorem d_MD_emitOne_2 : decode b_MD_emitOne 2 = .ok (.iload_n 2, 1) := by decide +kernel
theorem d_MD_emitOne_3 : decode b_MD_emitOne 3 = .ok (.invokevirtual 104, 3) := by decide +kernel
theorem d_MD_emitOne_6 : decode b_MD_emitOne 6 = .ok (.istore_n 3, 1) := by decide +kernel
theorem d_MD_emitOne_7 : decode b_MD_emitOne 7 = .ok (.iload_n 3, 1) := by decide +kernel
theorem d_MD_emitOne_8 : decode b_MD_emitOne 8 = .ok (.invokestatic 119, 3) := by decide +kernel
theorem d_MD_emitOne_11 : decode b_MD_emitOne 11 = .ok (.ifCond .eq 24, 3) := by decide +kernel
theorem d_MD_emitOne_14 : decode b_MD_emitOne 14 = .ok (.aload_n 0, 1) := by decide +kernel
theorem d_MD_emitOne_15 : decode b_MD_emitOne 15 = .ok (.getfield 66, 3) := by decide +kernel
theorem d_MD_emitOne_18 : decode b_MD_emitOne 18 = .ok (.aload_n 0, 1) := by decide +kernel
theorem d_MD_emitOne_19 : decode b_MD_emitOne 19 = .ok (.iload_n 1, 1) := by decide +kernel
theorem d_MD_emitOne_20 : decode b_MD_emitOne 20 = .ok (.iload_n 2, 1) := by decide +kernel
theorem d_MD_emitOne_21 : decode b_MD_emitOne 21 = .ok (.invokevirtual 122, 3) := by decide +kernel
theorem d_MD_emitOne_24 : decode b_MD_emitOne 24 = .ok (.iaload, 1) := by decide +kernel
theorem d_MD_emitOne_25 : decode b_MD_emitOne 25 = .ok (.aload_n 0, 1) := by decide +kernel
theorem d_MD_emitOne_26 : decode b_MD_emitOne 26 = .ok (.getfield 69, 3) := by decide +kernel
theorem d_MD_emitOne_29 : decode b_MD_emitOne 29 = .ok (.iload_n 2, 1) := by decide +kernel
theorem d_MD_emitOne_30 : decode b_MD_emitOne 30 = .ok (.iaload, 1) := by decide +kernel
theorem d_MD_emitOne_31 : decode b_MD_emitOne 31 = .ok (.isub, 1) := by decide +kernel
theorem d_MD_emitOne_32 : decode b_MD_emitOne 32 = .ok (.goto 4, 3) := by decide +kernel
theorem d_MD_emitOne_35 : decode b_MD_emitOne 35 = .ok (.iconst 0, 1) := by decide +kernel
theorem d_MD_emitOne_36 : decode b_MD_emitOne 36 = .ok (.istore 4, 2) := by decide +kernel
theorem d_MD_emitOne_38 : decode b_MD_emitOne 38 = .ok (.aload_n 0, 1) := by decide +kernel
theorem d_MD_emitOne_39 : decode b_MD_emitOne 39 = .ok (.getfield 63, 3) := by decide +kernel
theorem d_MD_emitOne_42 : decode b_MD_emitOne 42 = .ok (.iload_n 2, 1) := by decide +kernel
theorem d_MD_emitOne_43 : decode b_MD_emitOne 43 = .ok (.baload, 1) := by decide +kernel
theorem d_MD_emitOne_44 : decode b_MD_emitOne 44 = .ok (.ifCond .ne 15, 3) := by decide +kernel
theorem d_MD_emitOne_47 : decode b_MD_emitOne 47 = .ok (.iload_n 3, 1) := by decide +kernel
theorem d_MD_emitOne_48 : decode b_MD_emitOne 48 = .ok (.bipush 20, 2) := by decide +kernel
theorem d_MD_emitOne_50 : decode b_MD_emitOne 50 = .ok (.if_icmp .lt 13, 3) := by decide +kernel
theorem d_MD_emitOne_53 : decode b_MD_emitOne 53 = .ok (.iload_n 3, 1) := by decide +kernel
theorem d_MD_emitOne_54 : decode b_MD_emitOne 54 = .ok (.bipush 22, 2) := by decide +kernel
theorem d_MD_emitOne_56 : decode b_MD_emitOne 56 = .ok (.if_icmp .gt 7, 3) := by decide +kernel
theorem d_MD_emitOne_59 : decode b_MD_emitOne 59 = .ok (.iconst 1, 1) := by decide +kernel
theorem d_MD_emitOne_60 : decode b_MD_emitOne 60 = .ok (.goto 4, 3) := by decide +kernel
theorem d_MD_emitOne_63 : decode b_MD_emitOne 63 = .ok (.iconst 0, 1) := by decide +kernel
theorem d_MD_emitOne_64 : decode b_MD_emitOne 64 = .ok (.istore 5, 2) := by decide +kernel
theorem d_MD_emitOne_66 : decode b_MD_emitOne 66 = .ok (.aload_n 0, 1) := by decide +kernel
theorem d_MD_emitOne_67 : decode b_MD_emitOne 67 = .ok (.aload_n 0, 1) := by decide +kernel
theorem d_MD_emitOne_68 : decode b_MD_emitOne 68 = .ok (.getfield 63, 3) := by decide +kernel
theorem d_MD_emitOne_71 : decode b_MD_emitOne 71 = .ok (.iload_n 2, 1) := by decide +kernel
theorem d_MD_emitOne_72 : decode b_MD_emitOne 72 = .ok (.baload, 1) := by decide +kernel
theorem d_MD_emitOne_73 : decode b_MD_emitOne 73 = .ok (.ifCond .eq 10, 3) := by decide +kernel
theorem d_MD_emitOne_76 : decode b_MD_emitOne 76 = .ok (.iload_n 3, 1) := by decide +kernel
theorem d_MD_emitOne_77 : decode b_MD_emitOne 77 = .ok (.bipush 10, 2) := by decide +kernel
theorem d_MD_emitOne_79 : decode b_MD_emitOne 79 = .ok (.iadd, 1) := by decide +kernel
theorem d_MD_emitOne_80 : decode b_MD_emitOne 80 = .ok (.goto 4, 3) := by decide +kernel
theorem d_MD_emitOne_83 : decode b_MD_emitOne 83 = .ok (.iload_n 3, 1) := by decide +kernel
theorem d_MD_emitOne_84 : decode b_MD_emitOne 84 = .ok (.invokevirtual 194, 3) := by decide +kernel
theorem d_MD_emitOne_87 : decode b_MD_emitOne 87 = .ok (.iload_n 3, 1) := by decide +kernel
theorem d_MD_emitOne_88 : decode b_MD_emitOne 88 = .ok (.invokestatic 119, 3) := by decide +kernel
theorem d_MD_emitOne_91 : decode b_MD_emitOne 91 = .ok (.ifCond .eq 17, 3) := by decide +kernel
theorem d_MD_emitOne_94 : decode b_MD_emitOne 94 = .ok (.iload 5, 2) := by decide +kernel
theorem d_MD_emitOne_96 : decode b_MD_emitOne 96 = .ok (.ifCond .eq 12, 3) := by decide +kernel
theorem d_MD_emitOne_99 : decode b_MD_emitOne 99 = .ok (.aload_n 0, 1) := by decide +kernel
theorem d_MD_emitOne_100 : decode b_MD_emitOne 100 = .ok (.iload 4, 2) := by decide +kernel
theorem d_MD_emitOne_102 : decode b_MD_emitOne 102 = .ok (.bipush 8, 2) := by decide +kernel
theorem d_MD_emitOne_104 : decode b_MD_emitOne 104 = .ok (.ishr, 1) := by decide +kernel
theorem d_MD_emitOne_105 : decode b_MD_emitOne 105 = .ok (.invokevirtual 194, 3) := by decide +kernel
theorem d_MD_emitOne_108 : decode b_MD_emitOne 108 = .ok (.iload_n 3, 1) := by decide +kernel
theorem d_MD_emitOne_109 : decode b_MD_emitOne 109 = .ok (.invokestatic 119, 3) := by decide +kernel
theorem d_MD_emitOne_112 : decode b_MD_emitOne 112 = .ok (.ifCond .eq 9, 3) := by decide +kernel
theorem d_MD_emitOne_115 : decode b_MD_emitOne 115 = .ok (.aload_n 0, 1) := by decide +kernel
theorem d_MD_emitOne_116 : decode b_MD_emitOne 116 = .ok (.iload 4, 2) := by decide +kernel
theorem d_MD_emitOne_118 : decode b_MD_emitOne 118 = .ok (.invokevirtual 194, 3) := by decide +kernel
theorem d_MD_emitOne_121 : decode b_MD_emitOne 121 = .ok (.iconst 1, 1) := by decide +kernel
theorem d_MD_emitOne_122 : decode b_MD_emitOne 122 = .ok (.istore 6, 2) := by decide +kernel
theorem d_MD_emitOne_124 : decode b_MD_emitOne 124 = .ok (.iload 6, 2) := by decide +kernel
theorem d_MD_emitOne_126 : decode b_MD_emitOne 126 = .ok (.iload_n 3, 1) := by decide +kernel
theorem d_MD_emitOne_127 : decode b_MD_emitOne 127 = .ok (.invokestatic 111, 3) := by decide +kernel
theorem d_MD_emitOne_130 : decode b_MD_emitOne 130 = .ok (.if_icmp .ge 29, 3) := by decide +kernel
theorem d_MD_emitOne_133 : decode b_MD_emitOne 133 = .ok (.iload_n 3, 1) := by decide +kernel
theorem d_MD_emitOne_134 : decode b_MD_emitOne 134 = .ok (.invokestatic 119, 3) := by decide +kernel
theorem d_MD_emitOne_137 : decode b_MD_emitOne 137 = .ok (.ifCond .ne 22, 3) := by decide +kernel
theorem d_MD_emitOne_140 : decode b_MD_emitOne 140 = .ok (.aload_n 0, 1) := by decide +kernel
theorem d_MD_emitOne_141 : decode b_MD_emitOne 141 = .ok (.aload_n 0, 1) := by decide +kernel
theorem d_MD_emitOne_142 : decode b_MD_emitOne 142 = .ok (.iload_n 1, 1) := by decide +kernel
theorem d_MD_emitOne_143 : decode b_MD_emitOne 143 = .ok (.iload_n 2, 1) := by decide +kernel
theorem d_MD_emitOne_144 : decode b_MD_emitOne 144 = .ok (.iload 6, 2) := by decide +kernel
theorem d_MD_emitOne_146 : decode b_MD_emitOne 146 = .ok (.iadd, 1) := by decide +kernel
theorem d_MD_emitOne_147 : decode b_MD_emitOne 147 = .ok (.invokevirtual 104, 3) := by decide +kernel
theorem d_MD_emitOne_150 : decode b_MD_emitOne 150 = .ok (.invokevirtual 194, 3) := by decide +kernel
theorem d_MD_emitOne_153 : decode b_MD_emitOne 153 = .ok (.iinc 6 1, 3) := by decide +kernel
theorem d_MD_emitOne_156 : decode b_MD_emitOne 156 = .ok (.goto (-32), 3) := by decide +kernel
theorem d_MD_emitOne_159 : decode b_MD_emitOne 159 = .ok (.return_, 1) := by decide +kernel
theorem d_MD_transform_0 : decode b_MD_transform 0 = .ok (.aload_n 0, 1) := by decide +kernel
theorem d_MD_transform_1 : decode b_MD_transform 1 = .ok (.iload_n 1, 1) := by decide +kernel
theorem d_MD_transform_2 : decode b_MD_transform 2 = .ok (.invokevirtual 115, 3) := by decide +kernel
theorem d_MD_transform_5 : decode b_MD_transform 5 = .ok (.pop, 1) := by decide +kernel
theorem d_MD_transform_6 : decode b_MD_transform 6 = .ok (.aload_n 0, 1) := by decide +kernel
theorem d_MD_transform_7 : decode b_MD_transform 7 = .ok (.iload_n 1, 1) := by decide +kernel
theorem d_MD_transform_8 : decode b_MD_transform 8 = .ok (.aload_n 0, 1) := by decide +kernel
theorem d_MD_transform_9 : decode b_MD_transform 9 = .ok (.getfield 37, 3) := by decide +kernel
theorem d_MD_transform_12 : decode b_MD_transform 12 = .ok (.iload_n 2, 1) := by decide +kernel
theorem d_MD_transform_13 : decode b_MD_transform 13 = .ok (.baload, 1) := by decide +kernel
theorem d_MD_transform_14 : decode b_MD_transform 14 = .ok (.invokevirtual 197, 3) := by decide +kernel
theorem d_MD_transform_17 : decode b_MD_transform 17 = .ok (.iconst 0, 1) := by decide +kernel
theorem d_MD_transform_18 : decode b_MD_transform 18 = .ok (.istore_n 3, 1) := by decide +kernel
theorem d_MD_transform_19 : decode b_MD_transform 19 = .ok (.iload_n 3, 1) := by decide +kernel
theorem d_MD_transform_20 : decode b_MD_transform 20 = .ok (.bipush 120, 2) := by decide +kernel
theorem d_MD_transform_22 : decode b_MD_transform 22 = .ok (.if_icmp .gt 16, 3) := by decide +kernel
theorem d_MD_transform_25 : decode b_MD_transform 25 = .ok (.aload_n 0, 1) := by decide +kernel
theorem d_MD_transform_26 : decode b_MD_transform 26 = .ok (.getfield 63, 3) := by decide +kernel
theorem d_MD_transform_29 : decode b_MD_transform 29 = .ok (.iload_n 3, 1) := by decide +kernel
theorem d_MD_transform_30 : decode b_MD_transform 30 = .ok (.iconst 0, 1) := by decide +kernel
theorem d_MD_transform_31 : decode b_MD_transform 31 = .ok (.bastore, 1) := by decide +kernel
theorem d_MD_transform_32 : decode b_MD_transform 32 = .ok (.iinc 3 1, 3) := by decide +kernel
theorem d_MD_transform_35 : decode b_MD_transform 35 = .ok (.goto (-16), 3) := by decide +kernel
theorem d_MD_transform_38 : decode b_MD_transform 38 = .ok (.iconst 1, 1) := by decide +kernel
theorem d_MD_transform_39 : decode b_MD_transform 39 = .ok (.istore_n 3, 1) := by decide +kernel
theorem d_MD_transform_40 : decode b_MD_transform 40 = .ok (.iload_n 3, 1) := by decide +kernel
theorem d_MD_transform_41 : decode b_MD_transform 41 = .ok (.ifCond .eq 26, 3) := by decide +kernel
theorem d_MD_transform_44 : decode b_MD_transform 44 = .ok (.aload_n 0, 1) := by decide +kernel
theorem d_MD_transform_45 : decode b_MD_transform 45 = .ok (.iload_n 1, 1) := by decide +kernel
theorem d_MD_transform_46 : decode b_MD_transform 46 = .ok (.aload_n 0, 1) := by decide +kernel
theorem d_MD_transform_47 : decode b_MD_transform 47 = .ok (.getfield 37, 3) := by decide +kernel
theorem d_MD_transform_50 : decode b_MD_transform 50 = .ok (.iload_n 2, 1) := by decide +kernel
theorem d_MD_transform_51 : decode b_MD_transform 51 = .ok (.baload, 1) := by decide +kernel
theorem d_MD_transform_52 : decode b_MD_transform 52 = .ok (.ifCond .eq 7, 3) := by decide +kernel
theorem d_MD_transform_55 : decode b_MD_transform 55 = .ok (.iconst 0, 1) := by decide +kernel
theorem d_MD_transform_56 : decode b_MD_transform 56 = .ok (.goto 4, 3) := by decide +kernel
theorem d_MD_transform_59 : decode b_MD_transform 59 = .ok (.iconst 2, 1) := by decide +kernel
theorem d_MD_transform_60 : decode b_MD_transform 60 = .ok (.invokevirtual 201, 3) := by decide +kernel
theorem d_MD_transform_63 : decode b_MD_transform 63 = .ok (.istore_n 3, 1) := by decide +kernel
theorem d_MD_transform_64 : decode b_MD_transform 64 = .ok (.goto (-24), 3) := by decide +kernel
theorem d_MD_transform_67 : decode b_MD_transform 67 = .ok (.aload_n 0, 1) := by decide +kernel
theorem d_MD_transform_68 : decode b_MD_transform 68 = .ok (.getfield 66, 3) := by decide +kernel
theorem d_MD_transform_71 : decode b_MD_transform 71 = .ok (.aload_n 0, 1) := by decide +kernel
theorem d_MD_transform_72 : decode b_MD_transform 72 = .ok (.getfield 25, 3) := by decide +kernel
theorem d_MD_transform_75 : decode b_MD_transform 75 = .ok (.iload_n 1, 1) := by decide +kernel
theorem d_MD_transform_76 : decode b_MD_transform 76 = .ok (.iaload, 1) := by decide +kernel
theorem d_MD_transform_77 : decode b_MD_transform 77 = .ok (.iaload, 1) := by decide +kernel
theorem d_MD_transform_78 : decode b_MD_transform 78 = .ok (.istore 4, 2) := by decide +kernel
theorem d_MD_transform_80 : decode b_MD_transform 80 = .ok (.iload 4, 2) := by decide +kernel
theorem d_MD_transform_82 : decode b_MD_transform 82 = .ok (.aload_n 0, 1) := by decide +kernel
theorem d_MD_transform_83 : decode b_MD_transform 83 = .ok (.getfield 37, 3) := by decide +kernel
theorem d_MD_transform_86 : decode b_MD_transform 86 = .ok (.iload_n 2, 1) := by decide +kernel
theorem d_MD_transform_87 : decode b_MD_transform 87 = .ok (.baload, 1) := by decide +kernel
theorem d_MD_transform_88 : decode b_MD_transform 88 = .ok (.ifCond .eq 7, 3) := by decide +kernel
theorem d_MD_transform_91 : decode b_MD_transform 91 = .ok (.iconst 0, 1) := by decide +kernel
theorem d_MD_transform_92 : decode b_MD_transform 92 = .ok (.goto 4, 3) := by decide +kernel
theorem d_MD_transform_95 : decode b_MD_transform 95 = .ok (.iconst 3, 1) := by decide +kernel
theorem d_MD_transform_96 : decode b_MD_transform 96 = .ok (.iadd, 1) := by decide +kernel
theorem d_MD_transform_97 : decode b_MD_transform 97 = .ok (.bipush 120, 2) := by decide +kernel
theorem d_MD_transform_99 : decode b_MD_transform 99 = .ok (.if_icmp .gt 22, 3) := by decide +kernel
theorem d_MD_transform_102 : decode b_MD_transform 102 = .ok (.aload_n 0, 1) := by decide +kernel
theorem d_MD_transform_103 : decode b_MD_transform 103 = .ok (.getfield 37, 3) := by decide +kernel
theorem d_MD_transform_106 : decode b_MD_transform 106 = .ok (.iload_n 2, 1) := by decide +kernel
theorem d_MD_transform_107 : decode b_MD_transform 107 = .ok (.baload, 1) := by decide +kernel
theorem d_MD_transform_108 : decode b_MD_transform 108 = .ok (.ifCond .ne 15, 3) := by decide +kernel
theorem d_MD_transform_111 : decode b_MD_transform 111 = .ok (.aload_n 0, 1) := by decide +kernel
theorem d_MD_transform_112 : decode b_MD_transform 112 = .ok (.getfield 31, 3) := by decide +kernel
theorem d_MD_transform_115 : decode b_MD_transform 115 = .ok (.iload_n 1, 1) := by decide +kernel
theorem d_MD_transform_116 : decode b_MD_transform 116 = .ok (.iaload, 1) := by decide +kernel
theorem d_MD_transform_117 : decode b_MD_transform 117 = .ok (.iconst 5, 1) := by decide +kernel
theorem d_MD_transform_118 : decode b_MD_transform 118 = .ok (.if_icmp .ne 5, 3) := by decide +kernel
theorem d_MD_transform_121 : decode b_MD_transform 121 = .ok (.iconst 0, 1) := by decide +kernel
theorem d_MD_transform_122 : decode b_MD_transform 122 = .ok (.ireturn, 1) := by decide +kernel
theorem d_MD_transform_123 : decode b_MD_transform 123 = .ok (.aload_n 0, 1) := by decide +kernel
theorem d_MD_transform_124 : decode b_MD_transform 124 = .ok (.iconst 0, 1) := by decide +kernel
theorem d_MD_transform_125 : decode b_MD_transform 125 = .ok (.putfield 191, 3) := by decide +kernel
theorem d_MD_transform_128 : decode b_MD_transform 128 = .ok (.iconst 0, 1) := by decide +kernel
theorem d_MD_transform_129 : decode b_MD_transform 129 = .ok (.istore 5, 2) := by decide +kernel
theorem d_MD_transform_131 : decode b_MD_transform 131 = .ok (.aload_n 0, 1) := by decide +kernel
theorem d_MD_transform_132 : decode b_MD_transform 132 = .ok (.getfield 37, 3) := by decide +kernel
theorem d_MD_transform_135 : decode b_MD_transform 135 = .ok (.iload_n 2, 1) := by decide +kernel
theorem d_MD_transform_136 : decode b_MD_transform 136 = .ok (.baload, 1) := by decide +kernel
theorem d_MD_transform_137 : decode b_MD_transform 137 = .ok (.ifCond .ne 16, 3) := by decide +kernel
theorem d_MD_transform_140 : decode b_MD_transform 140 = .ok (.aload_n 0, 1) := by decide +kernel
theorem d_MD_transform_141 : decode b_MD_transform 141 = .ok (.bipush 30, 2) := by decide +kernel
theorem d_MD_transform_143 : decode b_MD_transform 143 = .ok (.invokevirtual 194, 3) := by decide +kernel
theorem d_MD_transform_146 : decode b_MD_transform 146 = .ok (.aload_n 0, 1) := by decide +kernel
theorem d_MD_transform_147 : decode b_MD_transform 147 = .ok (.iconst 3, 1) := by decide +kernel
theorem d_MD_transform_148 : decode b_MD_transform 148 = .ok (.iload_n 2, 1) := by decide +kernel
theorem d_MD_transform_149 : decode b_MD_transform 149 = .ok (.imul, 1) := by decide +kernel
theorem d_MD_transform_150 : decode b_MD_transform 150 = .ok (.invokevirtual 194, 3) := by decide +kernel
theorem d_MD_transform_153 : decode b_MD_transform 153 = .ok (.iconst 0, 1) := by decide +kernel
theorem d_MD_transform_154 : decode b_MD_transform 154 = .ok (.istore 6, 2) := by decide +kernel
theorem d_MD_transform_156 : decode b_MD_transform 156 = .ok (.iload 6, 2) := by decide +kernel
theorem d_MD_transform_158 : decode b_MD_transform 158 = .ok (.aload_n 0, 1) := by decide +kernel
theorem d_MD_transform_159 : decode b_MD_transform 159 = .ok (.getfield 25, 3) := by decide +kernel
theorem d_MD_transform_162 : decode b_MD_transform 162 = .ok (.iload_n 1, 1) := by decide +kernel
theorem d_MD_transform_163 : decode b_MD_transform 163 = .ok (.iaload, 1) := by decide +kernel
theorem d_MD_transform_164 : decode b_MD_transform 164 = .ok (.if_icmp .ge 92, 3) := by decide +kernel
theorem d_MD_transform_167 : decode b_MD_transform 167 = .ok (.aload_n 0, 1) := by decide +kernel
theorem d_MD_transform_168 : decode b_MD_transform 168 = .ok (.getfield 50, 3) := by decide +kernel
theorem d_MD_transform_171 : decode b_MD_transform 171 = .ok (.iload 6, 2) := by decide +kernel
theorem d_MD_transform_173 : decode b_MD_transform 173 = .ok (.baload, 1) := by decide +kernel
theorem d_MD_transform_174 : decode b_MD_transform 174 = .ok (.ifCond .eq 59, 3) := by decide +kernel
theorem d_MD_transform_177 : decode b_MD_transform 177 = .ok (.aload_n 0, 1) := by decide +kernel
theorem d_MD_transform_178 : decode b_MD_transform 178 = .ok (.getfield 60, 3) := by decide +kernel
theorem d_MD_transform_181 : decode b_MD_transform 181 = .ok (.iload 6, 2) := by decide +kernel
theorem d_MD_transform_183 : decode b_MD_transform 183 = .ok (.baload, 1) := by decide +kernel
theorem d_MD_transform_184 : decode b_MD_transform 184 = .ok (.ifCond .eq 49, 3) := by decide +kernel
theorem d_MD_transform_187 : decode b_MD_transform 187 = .ok (.aload_n 0, 1) := by decide +kernel
theorem d_MD_transform_188 : decode b_MD_transform 188 = .ok (.aload_n 0, 1) := by decide +kernel
theorem d_MD_transform_189 : decode b_MD_transform 189 = .ok (.getfield 37, 3) := by decide +kernel
theorem d_MD_transform_192 : decode b_MD_transform 192 = .ok (.iload_n 2, 1) := by decide +kernel
theorem d_MD_transform_193 : decode b_MD_transform 193 = .ok (.baload, 1) := by decide +kernel
theorem d_MD_transform_194 : decode b_MD_transform 194 = .ok (.ifCond .eq 8, 3) := by decide +kernel
theorem d_MD_transform_197 : decode b_MD_transform 197 = .ok (.bipush 31, 2) := by decide +kernel
theorem d_MD_transform_199 : decode b_MD_transform 199 = .ok (.goto 5, 3) := by decide +kernel
theorem d_MD_transform_202 : decode b_MD_transform 202 = .ok (.bipush 30, 2) := by decide +kernel
theorem d_MD_transform_204 : decode b_MD_transform 204 = .ok (.invokevirtual 194, 3) := by decide +kernel
theorem d_MD_transform_207 : decode b_MD_transform 207 = .ok (.aload_n 0, 1) := by decide +kernel
theorem d_MD_transform_208 : decode b_MD_transform 208 = .ok (.aload_n 0, 1) := by decide +kernel
theorem d_MD_transform_209 : decode b_MD_transform 209 = .ok (.getfield 37, 3) := by decide +kernel
theorem d_MD_transform_212 : decode b_MD_transform 212 = .ok (.iload_n 2, 1) := by decide +kernel
theorem d_MD_transform_213 : decode b_MD_transform 213 = .ok (.baload, 1) := by decide +kernel
theorem d_MD_transform_214 : decode b_MD_transform 214 = .ok (.ifCond .eq 8, 3) := by decide +kernel
theorem d_MD_transform_217 : decode b_MD_transform 217 = .ok (.iload 5, 2) := by decide +kernel
theorem d_MD_transform_219 : decode b_MD_transform 219 = .ok (.goto 8, 3) := by decide +kernel
theorem d_MD_transform_222 : decode b_MD_transform 222 = .ok (.iconst 3, 1) := by decide +kernel
theorem d_MD_transform_223 : decode b_MD_transform 223 = .ok (.iload_n 2, 1) := by decide +kernel
theorem d_MD_transform_224 : decode b_MD_transform 224 = .ok (.imul, 1) := by decide +kernel
theorem d_MD_transform_225 : decode b_MD_transform 225 = .ok (.iconst 1, 1) := by decide +kernel
theorem d_MD_transform_226 : decode b_MD_transform 226 = .ok (.iadd, 1) := by decide +kernel
theorem d_MD_transform_227 : decode b_MD_transform 227 = .ok (.invokevirtual 194, 3) := by decide +kernel
theorem d_MD_transform_230 : decode b_MD_transform 230 = .ok (.iinc 5 1, 3) := by decide +kernel
theorem d_MD_transform_233 : decode b_MD_transform 233 = .ok (.aload_n 0, 1) := by decide +kernel
theorem d_MD_transform_234 : decode b_MD_transform 234 = .ok (.getfield 50, 3) := by decide +kernel
theorem d_MD_transform_237 : decode b_MD_transform 237 = .ok (.iload 6, 2) := by decide +kernel
theorem d_MD_transform_239 : decode b_MD_transform 239 = .ok (.baload, 1) := by decide +kernel
theorem d_MD_transform_240 : decode b_MD_transform 240 = .ok (.ifCond .eq 10, 3) := by decide +kernel
theorem d_MD_transform_243 : decode b_MD_transform 243 = .ok (.aload_n 0, 1) := by decide +kernel
theorem d_MD_transform_244 : decode b_MD_transform 244 = .ok (.iload_n 1, 1) := by decide +kernel
theorem d_MD_transform_245 : decode b_MD_transform 245 = .ok (.iload 6, 2) := by decide +kernel
theorem d_MD_transform_247 : decode b_MD_transform 247 = .ok (.invokevirtual 204, 3) := by decide +kernel
theorem d_MD_transform_250 : decode b_MD_transform 250 = .ok (.iinc 6 1, 3) := by decide +kernel
theorem d_MD_transform_253 : decode b_MD_transform 253 = .ok (.goto (-97), 3) := by decide +kernel
theorem d_MD_transform_256 : decode b_MD_transform 256 = .ok (.iconst 0, 1) := by decide +kernel
theorem d_MD_transform_257 : decode b_MD_transform 257 = .ok (.istore 6, 2) := by decide +kernel
theorem d_MD_transform_259 : decode b_MD_transform 259 = .ok (.iload 6, 2) := by decide +kernel
theorem d_MD_transform_261 : decode b_MD_transform 261 = .ok (.iconst 4, 1) := by decide +kernel
theorem d_MD_transform_262 : decode b_MD_transform 262 = .ok (.aload_n 0, 1) := by decide +kernel
theorem d_MD_transform_263 : decode b_MD_transform 263 = .ok (.getfield 31, 3) := by decide +kernel
theorem d_MD_transform_266 : decode b_MD_transform 266 = .ok (.iload_n 1, 1) := by decide +kernel
theorem d_MD_transform_267 : decode b_MD_transform 267 = .ok (.iaload, 1) := by decide +kernel
theorem d_MD_transform_268 : decode b_MD_transform 268 = .ok (.imul, 1) := by decide +kernel
theorem d_MD_transform_269 : decode b_MD_transform 269 = .ok (.if_icmp .ge 61, 3) := by decide +kernel
theorem d_MD_transform_272 : decode b_MD_transform 272 = .ok (.aload_n 0, 1) := by decide +kernel
theorem d_MD_transform_273 : decode b_MD_transform 273 = .ok (.getfield 34, 3) := by decide +kernel
theorem d_MD_transform_276 : decode b_MD_transform 276 = .ok (.bipush 20, 2) := by decide +kernel
theorem d_MD_transform_278 : decode b_MD_transform 278 = .ok (.iload_n 1, 1) := by decide +kernel
theorem d_MD_transform_279 : decode b_MD_transform 279 = .ok (.imul, 1) := by decide +kernel
theorem d_MD_transform_280 : decode b_MD_transform 280 = .ok (.iload 6, 2) := by decide +kernel
theorem d_MD_transform_282 : decode b_MD_transform 282 = .ok (.iadd, 1) := by decide +kernel
theorem d_MD_transform_283 : decode b_MD_transform 283 = .ok (.iload 6, 2) := by decide +kernel
theorem d_MD_transform_285 : decode b_MD_transform 285 = .ok (.iconst 4, 1) := by decide +kernel
theorem d_MD_transform_286 : decode b_MD_transform 286 = .ok (.irem, 1) := by decide +kernel
theorem d_MD_transform_287 : decode b_MD_transform 287 = .ok (.iconst 3, 1) := by decide +kernel
theorem d_MD_transform_288 : decode b_MD_transform 288 = .ok (.if_icmp .ne 18, 3) := by decide +kernel
theorem d_MD_transform_291 : decode b_MD_transform 291 = .ok (.aload_n 0, 1) := by decide +kernel
theorem d_MD_transform_292 : decode b_MD_transform 292 = .ok (.getfield 34, 3) := by decide +kernel
theorem d_MD_transform_295 : decode b_MD_transform 295 = .ok (.bipush 20, 2) := by decide +kernel
theorem d_MD_transform_297 : decode b_MD_transform 297 = .ok (.iload_n 1, 1) := by decide +kernel
theorem d_MD_transform_298 : decode b_MD_transform 298 = .ok (.imul, 1) := by decide +kernel
theorem d_MD_transform_299 : decode b_MD_transform 299 = .ok (.iload 6, 2) := by decide +kernel
theorem d_MD_transform_301 : decode b_MD_transform 301 = .ok (.iadd, 1) := by decide +kernel
theorem d_MD_transform_302 : decode b_MD_transform 302 = .ok (.iaload, 1) := by decide +kernel
theorem d_MD_transform_303 : decode b_MD_transform 303 = .ok (.goto 20, 3) := by decide +kernel
theorem d_MD_transform_306 : decode b_MD_transform 306 = .ok (.aload_n 0, 1) := by decide +kernel
theorem d_MD_transform_307 : decode b_MD_transform 307 = .ok (.getfield 66, 3) := by decide +kernel
theorem d_MD_transform_310 : decode b_MD_transform 310 = .ok (.aload_n 0, 1) := by decide +kernel
theorem d_MD_transform_311 : decode b_MD_transform 311 = .ok (.getfield 34, 3) := by decide +kernel
theorem d_MD_transform_314 : decode b_MD_transform 314 = .ok (.bipush 20, 2) := by decide +kernel
theorem d_MD_transform_316 : decode b_MD_transform 316 = .ok (.iload_n 1, 1) := by decide +kernel
theorem d_MD_transform_317 : decode b_MD_transform 317 = .ok (.imul, 1) := by decide +kernel
theorem d_MD_transform_318 : decode b_MD_transform 318 = .ok (.iload 6, 2) := by decide +kernel
theorem d_MD_transform_320 : decode b_MD_transform 320 = .ok (.iadd, 1) := by decide +kernel
theorem d_MD_transform_321 : decode b_MD_transform 321 = .ok (.iaload, 1) := by decide +kernel
theorem d_MD_transform_322 : decode b_MD_transform 322 = .ok (.iaload, 1) := by decide +kernel
theorem d_MD_transform_323 : decode b_MD_transform 323 = .ok (.iastore, 1) := by decide +kernel
theorem d_MD_transform_324 : decode b_MD_transform 324 = .ok (.iinc 6 1, 3) := by decide +kernel
theorem d_MD_transform_327 : decode b_MD_transform 327 = .ok (.goto (-68), 3) := by decide +kernel
theorem d_MD_transform_330 : decode b_MD_transform 330 = .ok (.aload_n 0, 1) := by decide +kernel
theorem d_MD_transform_331 : decode b_MD_transform 331 = .ok (.getfield 37, 3) := by decide +kernel
theorem d_MD_transform_334 : decode b_MD_transform 334 = .ok (.iload_n 2, 1) := by decide +kernel
theorem d_MD_transform_335 : decode b_MD_transform 335 = .ok (.baload, 1) := by decide +kernel
theorem d_MD_transform_336 : decode b_MD_transform 336 = .ok (.ifCond .ne 89, 3) := by decide +kernel
theorem d_MD_transform_339 : decode b_MD_transform 339 = .ok (.aload_n 0, 1) := by decide +kernel
theorem d_MD_transform_340 : decode b_MD_transform 340 = .ok (.bipush 30, 2) := by decide +kernel
theorem d_MD_transform_342 : decode b_MD_transform 342 = .ok (.invokevirtual 194, 3) := by decide +kernel
theorem d_MD_transform_345 : decode b_MD_transform 345 = .ok (.aload_n 0, 1) := by decide +kernel
theorem d_MD_transform_346 : decode b_MD_transform 346 = .ok (.iconst 3, 1) := by decide +kernel
theorem d_MD_transform_347 : decode b_MD_transform 347 = .ok (.iload_n 2, 1) := by decide +kernel
theorem d_MD_transform_348 : decode b_MD_transform 348 = .ok (.imul, 1) := by decide +kernel
theorem d_MD_transform_349 : decode b_MD_transform 349 = .ok (.iconst 2, 1) := by decide +kernel
theorem d_MD_transform_350 : decode b_MD_transform 350 = .ok (.iadd, 1) := by decide +kernel
theorem d_MD_transform_351 : decode b_MD_transform 351 = .ok (.invokevirtual 194, 3) := by decide +kernel
theorem d_MD_transform_354 : decode b_MD_transform 354 = .ok (.aload_n 0, 1) := by decide +kernel
theorem d_MD_transform_355 : decode b_MD_transform 355 = .ok (.bipush 32, 2) := by decide +kernel
theorem d_MD_transform_357 : decode b_MD_transform 357 = .ok (.invokevirtual 194, 3) := by decide +kernel
theorem d_MD_transform_360 : decode b_MD_transform 360 = .ok (.bipush 20, 2) := by decide +kernel
theorem d_MD_transform_362 : decode b_MD_transform 362 = .ok (.iload_n 1, 1) := by decide +kernel
theorem d_MD_transform_363 : decode b_MD_transform 363 = .ok (.imul, 1) := by decide +kernel
theorem d_MD_transform_364 : decode b_MD_transform 364 = .ok (.iconst 4, 1) := by decide +kernel
theorem d_MD_transform_365 : decode b_MD_transform 365 = .ok (.aload_n 0, 1) := by decide +kernel
theorem d_MD_transform_366 : decode b_MD_transform 366 = .ok (.getfield 31, 3) := by decide +kernel
theorem d_MD_transform_369 : decode b_MD_transform 369 = .ok (.iload_n 1, 1) := by decide +kernel
theorem d_MD_transform_370 : decode b_MD_transform 370 = .ok (.iaload, 1) := by decide +kernel
theorem d_MD_transform_371 : decode b_MD_transform 371 = .ok (.imul, 1) := by decide +kernel
theorem d_MD_transform_372 : decode b_MD_transform 372 = .ok (.iadd, 1) := by decide +kernel
theorem d_MD_transform_373 : decode b_MD_transform 373 = .ok (.istore 6, 2) := by decide +kernel
theorem d_MD_transform_375 : decode b_MD_transform 375 = .ok (.aload_n 0, 1) := by decide +kernel
theorem d_MD_transform_376 : decode b_MD_transform 376 = .ok (.getfield 34, 3) := by decide +kernel
theorem d_MD_transform_379 : decode b_MD_transform 379 = .ok (.iload 6, 2) := by decide +kernel
theorem d_MD_transform_381 : decode b_MD_transform 381 = .ok (.iconst 0, 1) := by decide +kernel
theorem d_MD_transform_382 : decode b_MD_transform 382 = .ok (.iastore, 1) := by decide +kernel
theorem d_MD_transform_383 : decode b_MD_transform 383 = .ok (.aload_n 0, 1) := by decide +kernel
theorem d_MD_transform_384 : decode b_MD_transform 384 = .ok (.getfield 34, 3) := by decide +kernel
theorem d_MD_transform_387 : decode b_MD_transform 387 = .ok (.iload 6, 2) := by decide +kernel
theorem d_MD_transform_389 : decode b_MD_transform 389 = .ok (.iconst 1, 1) := by decide +kernel
theorem d_MD_transform_390 : decode b_MD_transform 390 = .ok (.iadd, 1) := by decide +kernel
theorem d_MD_transform_391 : decode b_MD_transform 391 = .ok (.iload 4, 2) := by decide +kernel
theorem d_MD_transform_393 : decode b_MD_transform 393 = .ok (.iastore, 1) := by decide +kernel
theorem d_MD_transform_394 : decode b_MD_transform 394 = .ok (.aload_n 0, 1) := by decide +kernel
theorem d_MD_transform_395 : decode b_MD_transform 395 = .ok (.getfield 34, 3) := by decide +kernel
theorem d_MD_transform_398 : decode b_MD_transform 398 = .ok (.iload 6, 2) := by decide +kernel
theorem d_MD_transform_400 : decode b_MD_transform 400 = .ok (.iconst 2, 1) := by decide +kernel
theorem d_MD_transform_401 : decode b_MD_transform 401 = .ok (.iadd, 1) := by decide +kernel
theorem d_MD_transform_402 : decode b_MD_transform 402 = .ok (.iload 4, 2) := by decide +kernel
theorem d_MD_transform_404 : decode b_MD_transform 404 = .ok (.iastore, 1) := by decide +kernel
theorem d_MD_transform_405 : decode b_MD_transform 405 = .ok (.aload_n 0, 1) := by decide +kernel
theorem d_MD_transform_406 : decode b_MD_transform 406 = .ok (.getfield 34, 3) := by decide +kernel
theorem d_MD_transform_409 : decode b_MD_transform 409 = .ok (.iload 6, 2) := by decide +kernel
theorem d_MD_transform_411 : decode b_MD_transform 411 = .ok (.iconst 3, 1) := by decide +kernel
theorem d_MD_transform_412 : decode b_MD_transform 412 = .ok (.iadd, 1) := by decide +kernel
theorem d_MD_transform_413 : decode b_MD_transform 413 = .ok (.iconst 0, 1) := by decide +kernel
theorem d_MD_transform_414 : decode b_MD_transform 414 = .ok (.iastore, 1) := by decide +kernel
theorem d_MD_transform_415 : decode b_MD_transform 415 = .ok (.aload_n 0, 1) := by decide +kernel
theorem d_MD_transform_416 : decode b_MD_transform 416 = .ok (.getfield 31, 3) := by decide +kernel
theorem d_MD_transform_419 : decode b_MD_transform 419 = .ok (.iload_n 1, 1) := by decide +kernel
theorem d_MD_transform_420 : decode b_MD_transform 420 = .ok (.dup2, 1) := by decide +kernel
theorem d_MD_transform_421 : decode b_MD_transform 421 = .ok (.iaload, 1) := by decide +kernel
theorem d_MD_transform_422 : decode b_MD_transform 422 = .ok (.iconst 1, 1) := by decide +kernel
theorem d_MD_transform_423 : decode b_MD_transform 423 = .ok (.iadd, 1) := by decide +kernel
theorem d_MD_transform_424 : decode b_MD_transform 424 = .ok (.iastore, 1) := by decide +kernel
theorem d_MD_transform_425 : decode b_MD_transform 425 = .ok (.iconst 0, 1) := by decide +kernel
theorem d_MD_transform_426 : decode b_MD_transform 426 = .ok (.istore 6, 2) := by decide +kernel
theorem d_MD_transform_428 : decode b_MD_transform 428 = .ok (.iload 6, 2) := by decide +kernel
theorem d_MD_transform_430 : decode b_MD_transform 430 = .ok (.aload_n 0, 1) := by decide +kernel
theorem d_MD_transform_431 : decode b_MD_transform 431 = .ok (.getfield 191, 3) := by decide +kernel
theorem d_MD_transform_434 : decode b_MD_transform 434 = .ok (.if_icmp .ge 28, 3) := by decide +kernel
theorem d_MD_transform_437 : decode b_MD_transform 437 = .ok (.aload_n 0, 1) := by decide +kernel
theorem d_MD_transform_438 : decode b_MD_transform 438 = .ok (.getfield 28, 3) := by decide +kernel
theorem d_MD_transform_441 : decode b_MD_transform 441 = .ok (.bipush 120, 2) := by decide +kernel
theorem d_MD_transform_443 : decode b_MD_transform 443 = .ok (.iload_n 1, 1) := by decide +kernel
theorem d_MD_transform_444 : decode b_MD_transform 444 = .ok (.imul, 1) := by decide +kernel
theorem d_MD_transform_445 : decode b_MD_transform 445 = .ok (.iload 6, 2) := by decide +kernel
theorem d_MD_transform_447 : decode b_MD_transform 447 = .ok (.iadd, 1) := by decide +kernel
theorem d_MD_transform_448 : decode b_MD_transform 448 = .ok (.aload_n 0, 1) := by decide +kernel
theorem d_MD_transform_449 : decode b_MD_transform 449 = .ok (.getfield 72, 3) := by decide +kernel
theorem d_MD_transform_452 : decode b_MD_transform 452 = .ok (.iload 6, 2) := by decide +kernel
theorem d_MD_transform_454 : decode b_MD_transform 454 = .ok (.iaload, 1) := by decide +kernel
theorem d_MD_transform_455 : decode b_MD_transform 455 = .ok (.iastore, 1) := by decide +kernel
theorem d_MD_transform_456 : decode b_MD_transform 456 = .ok (.iinc 6 1, 3) := by decide +kernel
theorem d_MD_transform_459 : decode b_MD_transform 459 = .ok (.goto (-31), 3) := by decide +kernel
theorem d_MD_transform_462 : decode b_MD_transform 462 = .ok (.aload_n 0, 1) := by decide +kernel
theorem d_MD_transform_463 : decode b_MD_transform 463 = .ok (.getfield 25, 3) := by decide +kernel
theorem d_MD_transform_466 : decode b_MD_transform 466 = .ok (.iload_n 1, 1) := by decide +kernel
theorem d_MD_transform_467 : decode b_MD_transform 467 = .ok (.aload_n 0, 1) := by decide +kernel
theorem d_MD_transform_468 : decode b_MD_transform 468 = .ok (.getfield 191, 3) := by decide +kernel
theorem d_MD_transform_471 : decode b_MD_transform 471 = .ok (.iastore, 1) := by decide +kernel
theorem d_MD_transform_472 : decode b_MD_transform 472 = .ok (.iconst 1, 1) := by decide +kernel
theorem d_MD_transform_473 : decode b_MD_transform 473 = .ok (.ireturn, 1) := by decide +kernel
def f_MD_transformer (fu : Nat) (s0 : xw_S) (p1 : Int) (p2 : Int) (p3 : Int) : Option (xw_S × Int) :=
 xw_jn (fun (s8 : xw_S) => xw_bn2 (f_MD_outside fu s8 p3 (-1) 2) (fun s9 r11 => xw_grd (xw_r r11) (xw_if (r11 = 0) (xw_grd (xw_r (s9.1 0 15)) (xw_if (s9.1 0 15 < 3) (xw_grd ((0 ≤ s9.1 0 15 ∧ s9.1 0 15 < ((3 : Nat) : Int)) ∧ (p1 = 0 ∨ p1 = 1)) (xw_let (xw_st s9 10 (s9.1 0 15).toNat p1) (fun s17 => xw_grd ((0 ≤ s17.1 0 15 ∧ s17.1 0 15 < ((3 : Nat) : Int))) (xw_let (xw_st s17 11 (s17.1 0 15).toNat p2) (fun s20 => xw_grd ((0 ≤ s20.1 0 15 ∧ s20.1 0 15 < ((3 : Nat) : Int))) (xw_let (xw_st s20 12 (s20.1 0 15).toNat p3) (fun s23 => xw_let (xw_st s23 0 15 ((s23.1 0 15) + 1)) (fun s25 => some (s25, (s25.1 0 15) - 1)))))))))
 (some (s9, -1))))
 (some (s9, -1)))))
 (fun (j15 : xw_S → Option (xw_S × Int)) => xw_grd (xw_r p2) (xw_if (p2 = 0) (j15 s0)
 (xw_bn2 (f_MD_outside fu s0 p2 97 122) (fun s3 r5 => xw_grd (xw_r r5) (xw_if (r5 = 0) (j15 s3)
 (some (s3, -1)))))))
set_option maxRecDepth 100000 in
set_option maxHeartbeats 4000000 in
theorem c_MD_transformer (l : Launch) (D : va_G) (A : Nat → Prop) (ad : Nat → Nat) (cs : Nat → ClassId) (Z : va_W) (tt : Nat → Nat) (fu : Nat) (s0 sZ : xw_S) (p1 : Int) (p2 : Int) (p3 : Int) (r0 : Int) (h : f_MD_transformer fu s0 p1 p2 p3 = some (sZ, r0)) : Met l y_MD_transformer w_MD_transformer ({ frames := 1, cells := 0, slots := 0, locals := 22 }) (va_Pc [.ref (ad 0), .int (xw_i p1), .int (xw_i p2), .int (xw_i p3)] (xw_H D vwCl A kdR 29 ad cs Z tt s0)) (va_Qi (fun r u => r = xw_i r0 ∧ u = sZ) (xw_H D vwCl A kdR 29 ad cs Z tt) A) 0 0 A := by
  refine Met.ofW (cc := b_MD_transformer) (maxL := 4) (ret := (some .int)) (by decide) rfl ?_
  intro p e s m args below meth c s₁ B hml hv
  obtain ⟨rfl, hP, hK, hD, hX⟩ := hv
  have hx := B.exec
  have hb := B.bytes
  have hr := B.returns
  have hts0 := atoms_spec (ws := w_MD_transformer) B.pre
  have hts := fun w (hw : w ∈ wAll) => hts0 w (List.mem_cons_of_mem _ hw)
  have hown : s.vm.findClass "AdviceWeaverModel" = some m.cls := findClass_of_methodNamed B.named
  have hlk := B.notSynchronized
  clear hts0 B
  have hS : va_S A s.heap s.heap [] := va_S.rf
  have hl := lv_entry [.ref (ad 0), .int (xw_i p1), .int (xw_i p2), .int (xw_i p3)] (n := 4) (Nat.le_of_ble_eq_true rfl)
  rw [lg_entry_eq]
  generalize (lg_sl [.ref (ad 0), .int (xw_i p1), .int (xw_i p2), .int (xw_i p3)] ++ List.replicate (4 - (lg_sl [.ref (ad 0), .int (xw_i p1), .int (xw_i p2), .int (xw_i p3)]).length) Slot.unset).toArray = ls at hl ⊢
  have hl : lv_has ls 4 [(0, .ref (ad 0)), (1, .int (xw_i p1)), (2, .int (xw_i p2)), (3, .int (xw_i p3))] := hl
  unfold f_MD_transformer at h
  refine lv_iload_n hx hb d_MD_transformer_0 rfl (lv_at hl 2 rfl) ?_
  refine xw_jnI (fun j => ∀ (sq : xw_S), j sq = some (sZ, r0) → ∀ (H : Heap) (locs : List Loc) (ls : Array Slot), va_P D vwCl (xw_ws kdR 29 ad cs Z sq) H → va_S A s.heap H locs → lv_has ls 4 [(0, .ref (ad 0)), (1, .int (xw_i p1)), (2, .int (xw_i p2)), (3, .int (xw_i p3))] → W p l e (headSpec w_MD_transformer ({ frames := 1, cells := 0, slots := 0, locals := 22 })).room s m [.ref (ad 0), .int (xw_i p1), .int (xw_i p2), .int (xw_i p3)].toArray below meth c H locs 0 0 (MQ below (va_Qi (fun r u => r = xw_i r0 ∧ u = sZ) (xw_H D vwCl A kdR 29 ad cs Z tt) A) [.ref (ad 0), .int (xw_i p1), .int (xw_i p2), .int (xw_i p3)].toArray s 0 0 A) (F0 m 15 ls [])) h ?_ ?_
  · intro s8 h H locs ls hP hS hl
    refine lv_iload_n hx hb d_MD_transformer_15 rfl (lv_at hl 3 rfl) ?_
    refine lv_iconst (v := xw_i (-1)) hx hb d_MD_transformer_16 rfl ?_
    refine lv_iconst (v := xw_i 2) hx hb d_MD_transformer_17 rfl ?_
    obtain ⟨s9, r11, hc10, h⟩ := xw_bn2I h
    refine xw_callSi ⟨hx, hb, hml, hown, hts⟩ (c_MD_outside l D A ad cs Z tt fu s8 s9 p3 (-1) 2 r11 hc10) (va_cwS 3 hts (gd_S hw_431 hw_432 hw_433 hw_434) rfl rfl rfl (by decide +kernel) ⟨Nat.le_of_ble_eq_true rfl, Nat.le_of_ble_eq_true rfl⟩) hP hK hD hX hS rfl hl.1 rfl (Nat.le_of_ble_eq_true rfl) d_MD_transformer_18 (fun H locs hP hS => ?_)
    obtain ⟨hg12, h⟩ := xw_grdI h
    refine xw_if_ne (tgt := 32) hx hb hg12 d_MD_transformer_21 (by decide) (fun hc13 => ?_) (fun hc13 => ?_)
    · replace h := xw_ifF hc13 h
      refine lv_iconst (v := xw_i (-1)) hx hb d_MD_transformer_32 rfl ?_
      cases h
      exact xw_iret hx hb hr hlk hP hK hD hX hS d_MD_transformer_33
    · replace h := xw_ifT hc13 h
      refine lv_aload_n hx hb d_MD_transformer_24 rfl (lv_at hl 0 rfl) ?_
      refine xw_getI (C := "AdviceWeaverModel") (T := T_MD) hx hb hts hin_MD hown hK hP (by decide) kr_MD (by decide) rfl 15 (by decide) (hts _ hw_524) (fun _ h9 => h9) rfl d_MD_transformer_25 ?_
      refine lv_iconst (v := xw_i 3) hx hb d_MD_transformer_28 rfl ?_
      obtain ⟨hg14, h⟩ := xw_grdI h
      refine xw_icmp_lt (tgt := 34) hx hb hg14 (by decide) d_MD_transformer_29 (by decide) (fun hc15 => ?_) (fun hc15 => ?_)
      · replace h := xw_ifT hc15 h
        refine lv_aload_n hx hb d_MD_transformer_34 rfl (lv_at hl 0 rfl) ?_
        refine xw_getR (C := "AdviceWeaverModel") (T := T_MD) hx hb hts hin_MD hown hK hP (by decide) kr_MD (by decide) rfl 16 (by decide) (hts _ hw_525) (fun _ h9 => h9) rfl d_MD_transformer_35 ?_
        refine lv_aload_n hx hb d_MD_transformer_38 rfl (lv_at hl 0 rfl) ?_
        refine xw_getI (C := "AdviceWeaverModel") (T := T_MD) hx hb hts hin_MD hown hK hP (by decide) kr_MD (by decide) rfl 15 (by decide) (hts _ hw_524) (fun _ h9 => h9) rfl d_MD_transformer_39 ?_
        refine lv_iload_n hx hb d_MD_transformer_42 rfl (lv_at hl 1 rfl) ?_
        obtain ⟨hg16, h⟩ := xw_grdI h
        refine xw_zast hx hb hK hP hD hS (by decide) kr_m_cover (by decide) hg16.1 hg16.2 d_MD_transformer_43 (fun s17 e18 H locs hP hS => ?_)
        replace h := xw_letI e18 h
        refine lv_aload_n hx hb d_MD_transformer_44 rfl (lv_at hl 0 rfl) ?_
        refine xw_getR (C := "AdviceWeaverModel") (T := T_MD) hx hb hts hin_MD hown hK hP (by decide) kr_MD (by decide) rfl 17 (by decide) (hts _ hw_526) (fun _ h9 => h9) rfl d_MD_transformer_45 ?_
        refine lv_aload_n hx hb d_MD_transformer_48 rfl (lv_at hl 0 rfl) ?_
        refine xw_getI (C := "AdviceWeaverModel") (T := T_MD) hx hb hts hin_MD hown hK hP (by decide) kr_MD (by decide) rfl 15 (by decide) (hts _ hw_524) (fun _ h9 => h9) rfl d_MD_transformer_49 ?_
        refine lv_iload_n hx hb d_MD_transformer_52 rfl (lv_at hl 2 rfl) ?_
        obtain ⟨hg19, h⟩ := xw_grdI h
        refine xw_iast hx hb hK hP hD hS (by decide) kr_m_letter (by decide) hg19 d_MD_transformer_53 (fun s20 e21 H locs hP hS => ?_)
        replace h := xw_letI e21 h
        refine lv_aload_n hx hb d_MD_transformer_54 rfl (lv_at hl 0 rfl) ?_
        refine xw_getR (C := "AdviceWeaverModel") (T := T_MD) hx hb hts hin_MD hown hK hP (by decide) kr_MD (by decide) rfl 18 (by decide) (hts _ hw_527) (fun _ h9 => h9) rfl d_MD_transformer_55 ?_
        refine lv_aload_n hx hb d_MD_transformer_58 rfl (lv_at hl 0 rfl) ?_
        refine xw_getI (C := "AdviceWeaverModel") (T := T_MD) hx hb hts hin_MD hown hK hP (by decide) kr_MD (by decide) rfl 15 (by decide) (hts _ hw_524) (fun _ h9 => h9) rfl d_MD_transformer_59 ?_
        refine lv_iload_n hx hb d_MD_transformer_62 rfl (lv_at hl 3 rfl) ?_
        obtain ⟨hg22, h⟩ := xw_grdI h
        refine xw_iast hx hb hK hP hD hS (by decide) kr_m_wanted (by decide) hg22 d_MD_transformer_63 (fun s23 e24 H locs hP hS => ?_)
        replace h := xw_letI e24 h
        refine lv_aload_n hx hb d_MD_transformer_64 rfl (lv_at hl 0 rfl) ?_
        refine lv_dup hx hb d_MD_transformer_65 rfl ?_
        refine xw_getI (C := "AdviceWeaverModel") (T := T_MD) hx hb hts hin_MD hown hK hP (by decide) kr_MD (by decide) rfl 15 (by decide) (hts _ hw_524) (fun _ h9 => h9) rfl d_MD_transformer_66 ?_
        refine lv_iconst (v := xw_i 1) hx hb d_MD_transformer_69 rfl ?_
        refine xw_iadd hx hb d_MD_transformer_70 ?_
        refine xw_putI (C := "AdviceWeaverModel") (T := T_MD) hx hb hts hin_MD ty_MD ty_MD_ok nm_MD hown hK hP hD hS (by decide) kr_MD (by decide) rfl 15 (by decide) (hts _ hw_524) (fun _ h9 => h9) rfl (by decide +kernel) rfl d_MD_transformer_71 (fun s25 e26 H locs hP hS => ?_)
        replace h := xw_letI e26 h
        refine lv_aload_n hx hb d_MD_transformer_74 rfl (lv_at hl 0 rfl) ?_
        refine xw_getI (C := "AdviceWeaverModel") (T := T_MD) hx hb hts hin_MD hown hK hP (by decide) kr_MD (by decide) rfl 15 (by decide) (hts _ hw_524) (fun _ h9 => h9) rfl d_MD_transformer_75 ?_
        refine lv_iconst (v := xw_i 1) hx hb d_MD_transformer_78 rfl ?_
        refine xw_isub hx hb d_MD_transformer_79 ?_
        cases h
        exact xw_iret hx hb hr hlk hP hK hD hX hS d_MD_transformer_80
      · replace h := xw_ifF hc15 h
        refine lv_iconst (v := xw_i (-1)) hx hb d_MD_transformer_32 rfl ?_
        cases h
        exact xw_iret hx hb hr hlk hP hK hD hX hS d_MD_transformer_33
  · intro j15 hj15 h
    obtain ⟨hg1, h⟩ := xw_grdI h
    refine xw_if_eq (tgt := 15) hx hb hg1 d_MD_transformer_1 (by decide) (fun hc2 => ?_) (fun hc2 => ?_)
    · replace h := xw_ifT hc2 h
      exact hj15 s0 h _ _ _ hP hS (lv_sub hl [0, 1, 2, 3] rfl)
    · replace h := xw_ifF hc2 h
      refine lv_iload_n hx hb d_MD_transformer_4 rfl (lv_at hl 2 rfl) ?_
      refine lv_bipush (v := xw_i 97) hx hb d_MD_transformer_5 (by decide) ?_
      refine lv_bipush (v := xw_i 122) hx hb d_MD_transformer_7 (by decide) ?_
      obtain ⟨s3, r5, hc4, h⟩ := xw_bn2I h
      refine xw_callSi ⟨hx, hb, hml, hown, hts⟩ (c_MD_outside l D A ad cs Z tt fu s0 s3 p2 97 122 r5 hc4) (va_cwS 3 hts (gd_S hw_431 hw_432 hw_433 hw_434) rfl rfl rfl (by decide +kernel) ⟨Nat.le_of_ble_eq_true rfl, Nat.le_of_ble_eq_true rfl⟩) hP hK hD hX hS rfl hl.1 rfl (Nat.le_of_ble_eq_true rfl) d_MD_transformer_9 (fun H locs hP hS => ?_)
      obtain ⟨hg6, h⟩ := xw_grdI h
      refine xw_if_ne (tgt := 32) hx hb hg6 d_MD_transformer_12 (by decide) (fun hc7 => ?_) (fun hc7 => ?_)
      · replace h := xw_ifF hc7 h
        refine lv_iconst (v := xw_i (-1)) hx hb d_MD_transformer_32 rfl ?_
        cases h
        exact xw_iret hx hb hr hlk hP hK hD hX hS d_MD_transformer_33
      · replace h := xw_ifT hc7 h
        exact hj15 s3 h _ _ _ hP hS (lv_sub hl [0, 1, 2, 3] rfl)
def f_MD_unchain (fu : Nat) (s0 : xw_S) : Option xw_S :=
 xw_let (xw_st s0 0 15 0) (fun s1 => some s1)
set_option maxRecDepth 100000 in
set_option maxHeartbeats 4000000 in
theorem c_MD_unchain (l : Launch) (D : va_G) (A : Nat → Prop) (ad : Nat → Nat) (cs : Nat → ClassId) (Z : va_W) (tt : Nat → Nat) (fu : Nat) (s0 sZ : xw_S) (h : f_MD_unchain fu s0 = some sZ) : Met l y_MD_unchain w_MD_unchain ({ frames := 0, cells := 0, slots := 0, locals := 0 }) (va_Pc [.ref (ad 0)] (xw_H D vwCl A kdR 29 ad cs Z tt s0)) (va_Qv (fun u => u = sZ) (xw_H D vwCl A kdR 29 ad cs Z tt) A) 0 0 A := by
  refine Met.ofW (cc := b_MD_unchain) (maxL := 1) (ret := none) (by decide) rfl ?_
  intro p e s m args below meth c s₁ B hml hv
  obtain ⟨rfl, hP, hK, hD, hX⟩ := hv
  have hx := B.exec
  have hb := B.bytes
  have hr := B.returns
  have hts0 := atoms_spec (ws := w_MD_unchain) B.pre
  have hts := fun w (hw : w ∈ wAll) => hts0 w (List.mem_cons_of_mem _ hw)
  have hown : s.vm.findClass "AdviceWeaverModel" = some m.cls := findClass_of_methodNamed B.named
  have hlk := B.notSynchronized
  clear hts0 B
  have hS : va_S A s.heap s.heap [] := va_S.rf
  have hl := lv_entry [.ref (ad 0)] (n := 1) (Nat.le_of_ble_eq_true rfl)
  rw [lg_entry_eq]
  generalize (lg_sl [.ref (ad 0)] ++ List.replicate (1 - (lg_sl [.ref (ad 0)]).length) Slot.unset).toArray = ls at hl ⊢
  have hl : lv_has ls 1 [(0, .ref (ad 0))] := hl
  unfold f_MD_unchain at h
  refine lv_aload_n hx hb d_MD_unchain_0 rfl (lv_at hl 0 rfl) ?_
  refine lv_iconst (v := xw_i 0) hx hb d_MD_unchain_1 rfl ?_
  refine xw_putI (C := "AdviceWeaverModel") (T := T_MD) hx hb hts hin_MD ty_MD ty_MD_ok nm_MD hown hK hP hD hS (by decide) kr_MD (by decide) rfl 15 (by decide) (hts _ hw_524) (fun _ h9 => h9) rfl (by decide +kernel) rfl d_MD_unchain_2 (fun s1 e2 H locs hP hS => ?_)
  replace h := xw_letI e2 h
  cases h
  exact xw_vret hx hb hr hlk hP hK hD hX hS d_MD_unchain_5
def lp_MD_choose_2 (fu : Nat) (c1_2 : Int) (c2_2 : Int) (k59 : xw_S → Option xw_S) : Nat → xw_S → Int → Option xw_S
  | 0, _, _ => none
  | n + 1, s1, i3_2 =>
    xw_grd (xw_r i3_2) (xw_if (120 < i3_2) (k59 s1)
     (xw_jn (fun (s18 : xw_S) (i3_52 : Int) (t0_52 : Int) (t1_52 : Int) => xw_grd ((0 ≤ t1_52 ∧ t1_52 < ((121 : Nat) : Int)) ∧ (t0_52 = 0 ∨ t0_52 = 1)) (xw_let (xw_st s18 17 (t1_52).toNat t0_52) (fun s20 => xw_let (i3_52 + 1) (fun v22 => lp_MD_choose_2 fu c1_2 c2_2 k59 n s20 v22))))
     (fun (j52 : xw_S → Int → Int → Int → Option xw_S) => xw_jn (fun (s17 : xw_S) (i3_51 : Int) (t0_51 : Int) => j52 s17 i3_51 0 t0_51)
     (fun (j51 : xw_S → Int → Int → Option xw_S) => xw_grd (xw_r c2_2) (xw_if (c2_2 = 0) (xw_grd ((0 ≤ c1_2 ∧ c1_2 < ((12 : Nat) : Int))) (xw_grd (xw_r (s1.1 6 (c1_2).toNat)) (xw_if (s1.1 6 (c1_2).toNat ≤ i3_2) (j51 s1 i3_2 i3_2)
     (xw_grd ((0 ≤ i3_2 ∧ i3_2 < ((121 : Nat) : Int))) (xw_grd (xw_r (s1.1 14 (i3_2).toNat)) (xw_if (s1.1 14 (i3_2).toNat = 0) (j51 s1 i3_2 i3_2)
     (xw_bn2 (f_MD_op fu s1 c1_2 i3_2) (fun s12 r14 => xw_grd (xw_r r14) (xw_if (r14 = 14) (j52 s12 i3_2 1 i3_2)
     (j51 s12 i3_2 i3_2))))))))))
     (j51 s1 i3_2 i3_2))))))
def lp_MD_choose_73 (fu : Nat) (c1_73 : Int) (k164 : xw_S → Option xw_S) : Nat → xw_S → Int → Option xw_S
  | 0, _, _ => none
  | n + 1, s29, i3_73 =>
    xw_grd ((0 ≤ c1_73 ∧ c1_73 < ((12 : Nat) : Int))) (xw_grd (xw_r i3_73 ∧ xw_r (s29.1 6 (c1_73).toNat)) (xw_if (s29.1 6 (c1_73).toNat ≤ i3_73) (k164 s29)
     (xw_bn2 (f_MD_op fu s29 c1_73 i3_73) (fun s33 r35 => xw_grd ((0 ≤ i3_73 ∧ i3_73 < ((121 : Nat) : Int))) (xw_jn (fun (s50 : xw_S) (i3_120 : Int) (i4_120 : Int) => xw_grd ((0 ≤ i3_120 ∧ i3_120 < ((121 : Nat) : Int))) (xw_jn (fun (s71 : xw_S) (i3_158 : Int) => xw_let (i3_158 + 1) (fun v72 => lp_MD_choose_73 fu c1_73 k164 n s71 v72))
     (fun (j158 : xw_S → Int → Option xw_S) => xw_grd (xw_r (s50.1 14 (i3_120).toNat)) (xw_if (s50.1 14 (i3_120).toNat = 0) (j158 s50 i3_120)
     (xw_bn2 (f_MD_branches fu s50 i4_120) (fun s54 r56 => xw_jn (fun (s64 : xw_S) (i3_145 : Int) (i4_145 : Int) => xw_bn2 (f_MD_sizeOf fu s64 i4_145) (fun s65 r67 => xw_grd ((0 ≤ i3_145 + r67 ∧ i3_145 + r67 < ((121 : Nat) : Int))) (xw_let (xw_st s65 17 (i3_145 + r67).toNat 1) (fun s69 => j158 s69 i3_145))))
     (fun (j145 : xw_S → Int → Int → Option xw_S) => xw_grd (xw_r r56) (xw_if (r56 = 0) (xw_bn2 (f_MD_ends fu s54 i4_120) (fun s59 r61 => xw_grd (xw_r r61) (xw_if (r61 = 0) (j158 s59 i3_120)
     (j145 s59 i3_120 i4_120))))
     (j145 s54 i3_120 i4_120)))))))))
     (fun (j120 : xw_S → Int → Int → Option xw_S) => xw_grd (xw_r (s33.1 14 (i3_73).toNat)) (xw_if (s33.1 14 (i3_73).toNat = 0) (j120 s33 i3_73 r35)
     (xw_bn2 (f_MD_branches fu s33 r35) (fun s39 r41 => xw_grd (xw_r r41) (xw_if (r41 = 0) (j120 s39 i3_73 r35)
     (xw_bn2 (f_MD_target fu s39 c1_73 i3_73) (fun s44 r46 => xw_grd ((0 ≤ r46 ∧ r46 < ((121 : Nat) : Int))) (xw_let (xw_st s44 17 (r46).toNat 1) (fun s48 => j120 s48 i3_73 r35))))))))))))))
def lp_MD_choose_166 (fu : Nat) (c1_166 : Int) (k203 : xw_S → Option xw_S) : Nat → xw_S → Int → Option xw_S
  | 0, _, _ => none
  | n + 1, s75, i3_166 =>
    xw_grd ((0 ≤ c1_166 ∧ c1_166 < ((12 : Nat) : Int))) (xw_grd (xw_r i3_166 ∧ xw_r (s75.1 8 (c1_166).toNat)) (xw_if (s75.1 8 (c1_166).toNat ≤ i3_166) (k203 s75)
     (xw_grd ((0 ≤ ((20 * c1_166) + (4 * i3_166)) + 2 ∧ ((20 * c1_166) + (4 * i3_166)) + 2 < ((240 : Nat) : Int))) (xw_grd ((0 ≤ s75.1 9 (((20 * c1_166) + (4 * i3_166)) + 2).toNat ∧ s75.1 9 (((20 * c1_166) + (4 * i3_166)) + 2).toNat < ((121 : Nat) : Int))) (xw_let (xw_st s75 17 (s75.1 9 (((20 * c1_166) + (4 * i3_166)) + 2).toNat).toNat 1) (fun s81 => xw_let (i3_166 + 1) (fun v83 => lp_MD_choose_166 fu c1_166 k203 n s81 v83)))))))
def f_MD_choose (fu : Nat) (s0 : xw_S) (p1 : Int) (p2 : Int) : Option xw_S :=
 xw_jn (fun (s24 : xw_S) => xw_grd (xw_r p2) (xw_if (p2 = 0) (some s24)
 (xw_let (xw_st s24 17 (0 : Int).toNat 1) (fun s27 => xw_jn (fun (s74 : xw_S) => xw_jn (fun (s85 : xw_S) => xw_grd ((0 ≤ p1 ∧ p1 < ((12 : Nat) : Int))) (xw_grd ((0 ≤ s85.1 6 (p1).toNat ∧ s85.1 6 (p1).toNat < ((121 : Nat) : Int))) (xw_let (xw_st s85 17 (s85.1 6 (p1).toNat).toNat 0) (fun s88 => some s88))))
 (fun (k203 : xw_S → Option xw_S) => lp_MD_choose_166 fu p1 k203 fu s74 0))
 (fun (k164 : xw_S → Option xw_S) => lp_MD_choose_73 fu p1 k164 fu s27 0)))))
 (fun (k59 : xw_S → Option xw_S) => lp_MD_choose_2 fu p1 p2 k59 fu s0 0)
set_option maxRecDepth 100000 in
set_option maxHeartbeats 4000000 in
theorem c_MD_choose (l : Launch) (D : va_G) (A : Nat → Prop) (ad : Nat → Nat) (cs : Nat → ClassId) (Z : va_W) (tt : Nat → Nat) (fu : Nat) (s0 sZ : xw_S) (p1 : Int) (p2 : Int) (h : f_MD_choose fu s0 p1 p2 = some sZ) : Met l y_MD_choose w_MD_choose ({ frames := 2, cells := 0, slots := 0, locals := 44 }) (va_Pc [.ref (ad 0), .int (xw_i p1), .int (xw_i p2)] (xw_H D vwCl A kdR 29 ad cs Z tt s0)) (va_Qv (fun u => u = sZ) (xw_H D vwCl A kdR 29 ad cs Z tt) A) 0 0 A := by
  refine Met.ofW (cc := b_MD_choose) (maxL := 5) (ret := none) (by decide) rfl ?_
  intro p e s m args below meth c s₁ B hml hv
  obtain ⟨rfl, hP, hK, hD, hX⟩ := hv
  have hx := B.exec
  have hb := B.bytes
  have hr := B.returns
  have hts0 := atoms_spec (ws := w_MD_choose) B.pre
  have hts := fun w (hw : w ∈ wAll) => hts0 w (List.mem_cons_of_mem _ hw)
  have hown : s.vm.findClass "AdviceWeaverModel" = some m.cls := findClass_of_methodNamed B.named
  have hlk := B.notSynchronized
  clear hts0 B
  have hS : va_S A s.heap s.heap [] := va_S.rf
  have hl := lv_entry [.ref (ad 0), .int (xw_i p1), .int (xw_i p2)] (n := 5) (Nat.le_of_ble_eq_true rfl)
  rw [lg_entry_eq]
  generalize (lg_sl [.ref (ad 0), .int (xw_i p1), .int (xw_i p2)] ++ List.replicate (5 - (lg_sl [.ref (ad 0), .int (xw_i p1), .int (xw_i p2)]).length) Slot.unset).toArray = ls at hl ⊢
  have hl : lv_has ls 5 [(0, .ref (ad 0)), (1, .int (xw_i p1)), (2, .int (xw_i p2))] := hl
  have hlp2 : ∀ (c1_2 : Int) (c2_2 : Int) (k59 : xw_S → Option xw_S) (hk59 : ∀ (sq : xw_S), k59 sq = some sZ → ∀ (H : Heap) (locs : List Loc) (ls : Array Slot), va_P D vwCl (xw_ws kdR 29 ad cs Z sq) H → va_S A s.heap H locs → lv_has ls 5 [(0, .ref (ad 0)), (1, .int (xw_i c1_2)), (2, .int (xw_i c2_2))] → W p l e (headSpec w_MD_choose ({ frames := 2, cells := 0, slots := 0, locals := 44 })).room s m [.ref (ad 0), .int (xw_i p1), .int (xw_i p2)].toArray below meth c H locs 0 0 (MQ below (va_Qv (fun u => u = sZ) (xw_H D vwCl A kdR 29 ad cs Z tt) A) [.ref (ad 0), .int (xw_i p1), .int (xw_i p2)].toArray s 0 0 A) (F0 m 59 ls [])) (n : Nat), ∀ (sq : xw_S) (i3_2 : Int), lp_MD_choose_2 fu c1_2 c2_2 k59 n sq i3_2 = some sZ → ∀ (H : Heap) (locs : List Loc) (ls : Array Slot), va_P D vwCl (xw_ws kdR 29 ad cs Z sq) H → va_S A s.heap H locs → lv_has ls 5 [(0, .ref (ad 0)), (1, .int (xw_i c1_2)), (2, .int (xw_i c2_2)), (3, .int (xw_i i3_2))] → W p l e (headSpec w_MD_choose ({ frames := 2, cells := 0, slots := 0, locals := 44 })).room s m [.ref (ad 0), .int (xw_i p1), .int (xw_i p2)].toArray below meth c H locs 0 0 (MQ below (va_Qv (fun u => u = sZ) (xw_H D vwCl A kdR 29 ad cs Z tt) A) [.ref (ad 0), .int (xw_i p1), .int (xw_i p2)].toArray s 0 0 A) (F0 m 2 ls []) := by
    intro c1_2 c2_2 k59 hk59 n
    induction n with
    | zero =>
      intro sq i3_2 h
      cases (show (none : Option xw_S) = some sZ from h)
    | succ n ih2 =>
      intro s1 i3_2 h H locs ls hP hS hl
      unfold lp_MD_choose_2 at h
      refine lv_iload_n hx hb d_MD_choose_2 rfl (lv_at hl 3 rfl) ?_
      refine lv_bipush (v := xw_i 120) hx hb d_MD_choose_3 (by decide) ?_
      obtain ⟨hg2, h⟩ := xw_grdI h
      refine xw_icmp_gt (tgt := 59) hx hb hg2 (by decide) d_MD_choose_5 (by decide) (fun hc3 => ?_) (fun hc3 => ?_)
      · replace h := xw_ifT hc3 h
        exact hk59 s1 h _ _ _ hP hS (lv_sub hl [0, 1, 2] rfl)
      · replace h := xw_ifF hc3 h
        refine lv_aload_n hx hb d_MD_choose_8 rfl (lv_at hl 0 rfl) ?_
        refine xw_getR (C := "AdviceWeaverModel") (T := T_MD) hx hb hts hin_MD hown hK hP (by decide) kr_MD (by decide) rfl 25 (by decide) (hts _ hw_528) (fun _ h9 => h9) rfl d_MD_choose_9 ?_
        refine lv_iload_n hx hb d_MD_choose_12 rfl (lv_at hl 3 rfl) ?_
        refine lv_iload_n hx hb d_MD_choose_13 rfl (lv_at hl 2 rfl) ?_
        refine xw_jnI (fun j => ∀ (sq : xw_S) (i3_52 : Int) (t0_52 : Int) (t1_52 : Int), j sq i3_52 t0_52 t1_52 = some sZ → ∀ (H : Heap) (locs : List Loc) (ls : Array Slot), va_P D vwCl (xw_ws kdR 29 ad cs Z sq) H → va_S A s.heap H locs → lv_has ls 5 [(0, .ref (ad 0)), (1, .int (xw_i c1_2)), (2, .int (xw_i c2_2)), (3, .int (xw_i i3_52))] → W p l e (headSpec w_MD_choose ({ frames := 2, cells := 0, slots := 0, locals := 44 })).room s m [.ref (ad 0), .int (xw_i p1), .int (xw_i p2)].toArray below meth c H locs 0 0 (MQ below (va_Qv (fun u => u = sZ) (xw_H D vwCl A kdR 29 ad cs Z tt) A) [.ref (ad 0), .int (xw_i p1), .int (xw_i p2)].toArray s 0 0 A) (F0 m 52 ls [.int (xw_i t0_52), .int (xw_i t1_52), .ref (ad 17)])) h ?_ ?_
        · intro s18 i3_52 t0_52 t1_52 h H locs ls hP hS hl
          obtain ⟨hg19, h⟩ := xw_grdI h
          refine xw_zast hx hb hK hP hD hS (by decide) kr_m_before (by decide) hg19.1 hg19.2 d_MD_choose_52 (fun s20 e21 H locs hP hS => ?_)
          replace h := xw_letI e21 h
          obtain ⟨v22, e23⟩ : ∃ z, z = i3_52 + 1 := ⟨_, rfl⟩
          replace h := xw_letI e23 h
          refine xw_iinc (lv' := [(3, .int (xw_i v22)), (0, .ref (ad 0)), (1, .int (xw_i c1_2)), (2, .int (xw_i c2_2))]) hx hb d_MD_choose_53 hl (k := 3) rfl (by decide) (by rw [e23]; rfl) (fun ls hl => ?_)
          refine lv_goto (tgt := 2) hx hb d_MD_choose_56 (by decide) ?_
          exact ih2 s20 v22 h _ _ _ hP hS (lv_sub hl [1, 2, 3, 0] rfl)
        · intro j52 hj52 h
          refine xw_jnI (fun j => ∀ (sq : xw_S) (i3_51 : Int) (t0_51 : Int), j sq i3_51 t0_51 = some sZ → ∀ (H : Heap) (locs : List Loc) (ls : Array Slot), va_P D vwCl (xw_ws kdR 29 ad cs Z sq) H → va_S A s.heap H locs → lv_has ls 5 [(0, .ref (ad 0)), (1, .int (xw_i c1_2)), (2, .int (xw_i c2_2)), (3, .int (xw_i i3_51))] → W p l e (headSpec w_MD_choose ({ frames := 2, cells := 0, slots := 0, locals := 44 })).room s m [.ref (ad 0), .int (xw_i p1), .int (xw_i p2)].toArray below meth c H locs 0 0 (MQ below (va_Qv (fun u => u = sZ) (xw_H D vwCl A kdR 29 ad cs Z tt) A) [.ref (ad 0), .int (xw_i p1), .int (xw_i p2)].toArray s 0 0 A) (F0 m 51 ls [.int (xw_i t0_51), .ref (ad 17)])) h ?_ ?_
          · intro s17 i3_51 t0_51 h H locs ls hP hS hl
            refine lv_iconst (v := xw_i 0) hx hb d_MD_choose_51 rfl ?_
            exact hj52 s17 i3_51 0 t0_51 h _ _ _ hP hS (lv_sub hl [0, 1, 2, 3] rfl)
          · intro j51 hj51 h
            obtain ⟨hg4, h⟩ := xw_grdI h
            refine xw_if_ne (tgt := 51) hx hb hg4 d_MD_choose_14 (by decide) (fun hc5 => ?_) (fun hc5 => ?_)
            · replace h := xw_ifF hc5 h
              exact hj51 s1 i3_2 i3_2 h _ _ _ hP hS (lv_sub hl [0, 1, 2, 3] rfl)
            · replace h := xw_ifT hc5 h
              refine lv_iload_n hx hb d_MD_choose_17 rfl (lv_at hl 3 rfl) ?_
              refine lv_aload_n hx hb d_MD_choose_18 rfl (lv_at hl 0 rfl) ?_
              refine xw_getR (C := "AdviceWeaverModel") (T := T_MD) hx hb hts hin_MD hown hK hP (by decide) kr_MD (by decide) rfl 6 (by decide) (hts _ hw_447) (fun _ h9 => h9) rfl d_MD_choose_19 ?_
              refine lv_iload_n hx hb d_MD_choose_22 rfl (lv_at hl 1 rfl) ?_
              obtain ⟨hg6, h⟩ := xw_grdI h
              refine xw_iald hx hb hK hP (by decide) kr_m_length (by decide) hg6 d_MD_choose_23 ?_
              obtain ⟨hg7, h⟩ := xw_grdI h
              refine xw_icmp_ge (tgt := 51) hx hb hg2 hg7 d_MD_choose_24 (by decide) (fun hc8 => ?_) (fun hc8 => ?_)
              · replace h := xw_ifT hc8 h
                exact hj51 s1 i3_2 i3_2 h _ _ _ hP hS (lv_sub hl [0, 1, 2, 3] rfl)
              · replace h := xw_ifF hc8 h
                refine lv_aload_n hx hb d_MD_choose_27 rfl (lv_at hl 0 rfl) ?_
                refine xw_getR (C := "AdviceWeaverModel") (T := T_MD) hx hb hts hin_MD hown hK hP (by decide) kr_MD (by decide) rfl 20 (by decide) (hts _ hw_451) (fun _ h9 => h9) rfl d_MD_choose_28 ?_
                refine lv_iload_n hx hb d_MD_choose_31 rfl (lv_at hl 3 rfl) ?_
                obtain ⟨hg9, h⟩ := xw_grdI h
                refine xw_zald hx hb hK hP (by decide) kr_m_begins (by decide) hg9 d_MD_choose_32 ?_
                obtain ⟨hg10, h⟩ := xw_grdI h
                refine xw_if_eq (tgt := 51) hx hb hg10 d_MD_choose_33 (by decide) (fun hc11 => ?_) (fun hc11 => ?_)
                · replace h := xw_ifT hc11 h
                  exact hj51 s1 i3_2 i3_2 h _ _ _ hP hS (lv_sub hl [0, 1, 2, 3] rfl)
                · replace h := xw_ifF hc11 h
                  refine lv_aload_n hx hb d_MD_choose_36 rfl (lv_at hl 0 rfl) ?_
                  refine lv_iload_n hx hb d_MD_choose_37 rfl (lv_at hl 1 rfl) ?_
                  refine lv_iload_n hx hb d_MD_choose_38 rfl (lv_at hl 3 rfl) ?_
                  obtain ⟨s12, r14, hc13, h⟩ := xw_bn2I h
                  refine xw_callVi (C := "AdviceWeaverModel") (T := T_MD) ⟨hx, hb, hml, hown, hts⟩ (c_MD_op l D A ad cs Z tt fu s1 s12 c1_2 i3_2 r14 hc13) (cwV 2 hts (gd_V hw_452 hw_453 hw_454 hw_433 hw_455) rfl rfl rfl (by decide +kernel) ⟨Nat.le_of_ble_eq_true rfl, Nat.le_of_ble_eq_true rfl⟩) hP hK hD hX hS (by decide) kr_MD (by decide) rfl rfl hl.1 rfl (Nat.le_of_ble_eq_true rfl) d_MD_choose_39 (fun H locs hP hS => ?_)
                  refine lv_bipush (v := xw_i 14) hx hb d_MD_choose_42 (by decide) ?_
                  obtain ⟨hg15, h⟩ := xw_grdI h
                  refine xw_icmp_ne (tgt := 51) hx hb hg15 (by decide) d_MD_choose_44 (by decide) (fun hc16 => ?_) (fun hc16 => ?_)
                  · replace h := xw_ifF hc16 h
                    exact hj51 s12 i3_2 i3_2 h _ _ _ hP hS (lv_sub hl [0, 1, 2, 3] rfl)
                  · replace h := xw_ifT hc16 h
                    refine lv_iconst (v := xw_i 1) hx hb d_MD_choose_47 rfl ?_
                    refine lv_goto (tgt := 52) hx hb d_MD_choose_48 (by decide) ?_
                    exact hj52 s12 i3_2 1 i3_2 h _ _ _ hP hS (lv_sub hl [0, 1, 2, 3] rfl)
  have hlp73 : ∀ (c1_73 : Int) (k164 : xw_S → Option xw_S) (hk164 : ∀ (sq : xw_S), k164 sq = some sZ → ∀ (H : Heap) (locs : List Loc) (ls : Array Slot), va_P D vwCl (xw_ws kdR 29 ad cs Z sq) H → va_S A s.heap H locs → lv_has ls 5 [(0, .ref (ad 0)), (1, .int (xw_i c1_73))] → W p l e (headSpec w_MD_choose ({ frames := 2, cells := 0, slots := 0, locals := 44 })).room s m [.ref (ad 0), .int (xw_i p1), .int (xw_i p2)].toArray below meth c H locs 0 0 (MQ below (va_Qv (fun u => u = sZ) (xw_H D vwCl A kdR 29 ad cs Z tt) A) [.ref (ad 0), .int (xw_i p1), .int (xw_i p2)].toArray s 0 0 A) (F0 m 164 ls [])) (n : Nat), ∀ (sq : xw_S) (i3_73 : Int), lp_MD_choose_73 fu c1_73 k164 n sq i3_73 = some sZ → ∀ (H : Heap) (locs : List Loc) (ls : Array Slot), va_P D vwCl (xw_ws kdR 29 ad cs Z sq) H → va_S A s.heap H locs → lv_has ls 5 [(0, .ref (ad 0)), (1, .int (xw_i c1_73)), (3, .int (xw_i i3_73))] → W p l e (headSpec w_MD_choose ({ frames := 2, cells := 0, slots := 0, locals := 44 })).room s m [.ref (ad 0), .int (xw_i p1), .int (xw_i p2)].toArray below meth c H locs 0 0 (MQ below (va_Qv (fun u => u = sZ) (xw_H D vwCl A kdR 29 ad cs Z tt) A) [.ref (ad 0), .int (xw_i p1), .int (xw_i p2)].toArray s 0 0 A) (F0 m 73 ls []) := by
    intro c1_73 k164 hk164 n
    induction n with
    | zero =>
      intro sq i3_73 h
      cases (show (none : Option xw_S) = some sZ from h)
    | succ n ih73 =>
      intro s29 i3_73 h H locs ls hP hS hl
      unfold lp_MD_choose_73 at h
      refine lv_iload_n hx hb d_MD_choose_73 rfl (lv_at hl 2 rfl) ?_
      refine lv_aload_n hx hb d_MD_choose_74 rfl (lv_at hl 0 rfl) ?_
      refine xw_getR (C := "AdviceWeaverModel") (T := T_MD) hx hb hts hin_MD hown hK hP (by decide) kr_MD (by decide) rfl 6 (by decide) (hts _ hw_447) (fun _ h9 => h9) rfl d_MD_choose_75 ?_
      refine lv_iload_n hx hb d_MD_choose_78 rfl (lv_at hl 1 rfl) ?_
      obtain ⟨hg30, h⟩ := xw_grdI h
      refine xw_iald hx hb hK hP (by decide) kr_m_length (by decide) hg30 d_MD_choose_79 ?_
      obtain ⟨hg31, h⟩ := xw_grdI h
      refine xw_icmp_ge (tgt := 164) hx hb hg31.1 hg31.2 d_MD_choose_80 (by decide) (fun hc32 => ?_) (fun hc32 => ?_)
      · replace h := xw_ifT hc32 h
        exact hk164 s29 h _ _ _ hP hS (lv_sub hl [0, 1] rfl)
      · replace h := xw_ifF hc32 h
        refine lv_aload_n hx hb d_MD_choose_83 rfl (lv_at hl 0 rfl) ?_
        refine lv_iload_n hx hb d_MD_choose_84 rfl (lv_at hl 1 rfl) ?_
        refine lv_iload_n hx hb d_MD_choose_85 rfl (lv_at hl 2 rfl) ?_
        obtain ⟨s33, r35, hc34, h⟩ := xw_bn2I h
        refine xw_callVi (C := "AdviceWeaverModel") (T := T_MD) ⟨hx, hb, hml, hown, hts⟩ (c_MD_op l D A ad cs Z tt fu s29 s33 c1_73 i3_73 r35 hc34) (cwV 2 hts (gd_V hw_452 hw_453 hw_454 hw_433 hw_455) rfl rfl rfl (by decide +kernel) ⟨Nat.le_of_ble_eq_true rfl, Nat.le_of_ble_eq_true rfl⟩) hP hK hD hX hS (by decide) kr_MD (by decide) rfl rfl hl.1 rfl (Nat.le_of_ble_eq_true rfl) d_MD_choose_86 (fun H locs hP hS => ?_)
        refine lv_istore hx hb d_MD_choose_89 hl (by decide) rfl (fun ls hl => ?_)
        refine lv_aload_n hx hb d_MD_choose_91 rfl (lv_at hl 1 rfl) ?_
        refine xw_getR (C := "AdviceWeaverModel") (T := T_MD) hx hb hts hin_MD hown hK hP (by decide) kr_MD (by decide) rfl 20 (by decide) (hts _ hw_451) (fun _ h9 => h9) rfl d_MD_choose_92 ?_
        refine lv_iload_n hx hb d_MD_choose_95 rfl (lv_at hl 3 rfl) ?_
        obtain ⟨hg36, h⟩ := xw_grdI h
        refine xw_zald hx hb hK hP (by decide) kr_m_begins (by decide) hg36 d_MD_choose_96 ?_
        refine xw_jnI (fun j => ∀ (sq : xw_S) (i3_120 : Int) (i4_120 : Int), j sq i3_120 i4_120 = some sZ → ∀ (H : Heap) (locs : List Loc) (ls : Array Slot), va_P D vwCl (xw_ws kdR 29 ad cs Z sq) H → va_S A s.heap H locs → lv_has ls 5 [(0, .ref (ad 0)), (1, .int (xw_i c1_73)), (3, .int (xw_i i3_120)), (4, .int (xw_i i4_120))] → W p l e (headSpec w_MD_choose ({ frames := 2, cells := 0, slots := 0, locals := 44 })).room s m [.ref (ad 0), .int (xw_i p1), .int (xw_i p2)].toArray below meth c H locs 0 0 (MQ below (va_Qv (fun u => u = sZ) (xw_H D vwCl A kdR 29 ad cs Z tt) A) [.ref (ad 0), .int (xw_i p1), .int (xw_i p2)].toArray s 0 0 A) (F0 m 120 ls [])) h ?_ ?_
        · intro s50 i3_120 i4_120 h H locs ls hP hS hl
          refine lv_aload_n hx hb d_MD_choose_120 rfl (lv_at hl 0 rfl) ?_
          refine xw_getR (C := "AdviceWeaverModel") (T := T_MD) hx hb hts hin_MD hown hK hP (by decide) kr_MD (by decide) rfl 20 (by decide) (hts _ hw_451) (fun _ h9 => h9) rfl d_MD_choose_121 ?_
          refine lv_iload_n hx hb d_MD_choose_124 rfl (lv_at hl 2 rfl) ?_
          obtain ⟨hg51, h⟩ := xw_grdI h
          refine xw_zald hx hb hK hP (by decide) kr_m_begins (by decide) hg51 d_MD_choose_125 ?_
          refine xw_jnI (fun j => ∀ (sq : xw_S) (i3_158 : Int), j sq i3_158 = some sZ → ∀ (H : Heap) (locs : List Loc) (ls : Array Slot), va_P D vwCl (xw_ws kdR 29 ad cs Z sq) H → va_S A s.heap H locs → lv_has ls 5 [(0, .ref (ad 0)), (1, .int (xw_i c1_73)), (3, .int (xw_i i3_158))] → W p l e (headSpec w_MD_choose ({ frames := 2, cells := 0, slots := 0, locals := 44 })).room s m [.ref (ad 0), .int (xw_i p1), .int (xw_i p2)].toArray below meth c H locs 0 0 (MQ below (va_Qv (fun u => u = sZ) (xw_H D vwCl A kdR 29 ad cs Z tt) A) [.ref (ad 0), .int (xw_i p1), .int (xw_i p2)].toArray s 0 0 A) (F0 m 158 ls [])) h ?_ ?_
          · intro s71 i3_158 h H locs ls hP hS hl
            obtain ⟨v72, e73⟩ : ∃ z, z = i3_158 + 1 := ⟨_, rfl⟩
            replace h := xw_letI e73 h
            refine xw_iinc (lv' := [(3, .int (xw_i v72)), (0, .ref (ad 0)), (1, .int (xw_i c1_73))]) hx hb d_MD_choose_158 hl (k := 2) rfl (by decide) (by rw [e73]; rfl) (fun ls hl => ?_)
            refine lv_goto (tgt := 73) hx hb d_MD_choose_161 (by decide) ?_
            exact ih73 s71 v72 h _ _ _ hP hS (lv_sub hl [1, 2, 0] rfl)
          · intro j158 hj158 h
            obtain ⟨hg52, h⟩ := xw_grdI h
            refine xw_if_eq (tgt := 158) hx hb hg52 d_MD_choose_126 (by decide) (fun hc53 => ?_) (fun hc53 => ?_)
            · replace h := xw_ifT hc53 h
              exact hj158 s50 i3_120 h _ _ _ hP hS (lv_sub hl [0, 1, 2] rfl)
            · replace h := xw_ifF hc53 h
              refine lv_iload hx hb d_MD_choose_129 (lv_at hl 3 rfl) ?_
              obtain ⟨s54, r56, hc55, h⟩ := xw_bn2I h
              refine xw_callSi ⟨hx, hb, hml, hown, hts⟩ (c_MD_branches l D A ad cs Z tt fu s50 s54 i4_120 r56 hc55) (va_cwS 1 hts (gd_S hw_467 hw_468 hw_433 hw_469) rfl rfl rfl (by decide +kernel) ⟨Nat.le_of_ble_eq_true rfl, Nat.le_of_ble_eq_true rfl⟩) hP hK hD hX hS rfl hl.1 rfl (Nat.le_of_ble_eq_true rfl) d_MD_choose_131 (fun H locs hP hS => ?_)
              refine xw_jnI (fun j => ∀ (sq : xw_S) (i3_145 : Int) (i4_145 : Int), j sq i3_145 i4_145 = some sZ → ∀ (H : Heap) (locs : List Loc) (ls : Array Slot), va_P D vwCl (xw_ws kdR 29 ad cs Z sq) H → va_S A s.heap H locs → lv_has ls 5 [(0, .ref (ad 0)), (1, .int (xw_i c1_73)), (3, .int (xw_i i3_145)), (4, .int (xw_i i4_145))] → W p l e (headSpec w_MD_choose ({ frames := 2, cells := 0, slots := 0, locals := 44 })).room s m [.ref (ad 0), .int (xw_i p1), .int (xw_i p2)].toArray below meth c H locs 0 0 (MQ below (va_Qv (fun u => u = sZ) (xw_H D vwCl A kdR 29 ad cs Z tt) A) [.ref (ad 0), .int (xw_i p1), .int (xw_i p2)].toArray s 0 0 A) (F0 m 145 ls [])) h ?_ ?_
              · intro s64 i3_145 i4_145 h H locs ls hP hS hl
                refine lv_aload_n hx hb d_MD_choose_145 rfl (lv_at hl 0 rfl) ?_
                refine xw_getR (C := "AdviceWeaverModel") (T := T_MD) hx hb hts hin_MD hown hK hP (by decide) kr_MD (by decide) rfl 25 (by decide) (hts _ hw_528) (fun _ h9 => h9) rfl d_MD_choose_146 ?_
                refine lv_iload_n hx hb d_MD_choose_149 rfl (lv_at hl 2 rfl) ?_
                refine lv_iload hx hb d_MD_choose_150 (lv_at hl 3 rfl) ?_
                obtain ⟨s65, r67, hc66, h⟩ := xw_bn2I h
                refine xw_callSi ⟨hx, hb, hml, hown, hts⟩ (c_MD_sizeOf l D A ad cs Z tt fu s64 s65 i4_145 r67 hc66) (va_cwS 1 hts (gd_S hw_456 hw_457 hw_433 hw_458) rfl rfl rfl (by decide +kernel) ⟨Nat.le_of_ble_eq_true rfl, Nat.le_of_ble_eq_true rfl⟩) hP hK hD hX hS rfl hl.1 rfl (Nat.le_of_ble_eq_true rfl) d_MD_choose_152 (fun H locs hP hS => ?_)
                refine xw_iadd hx hb d_MD_choose_155 ?_
                refine lv_iconst (v := xw_i 1) hx hb d_MD_choose_156 rfl ?_
                obtain ⟨hg68, h⟩ := xw_grdI h
                refine xw_zast hx hb hK hP hD hS (by decide) kr_m_before (by decide) hg68 (by decide) d_MD_choose_157 (fun s69 e70 H locs hP hS => ?_)
                replace h := xw_letI e70 h
                exact hj158 s69 i3_145 h _ _ _ hP hS (lv_sub hl [0, 1, 2] rfl)
              · intro j145 hj145 h
                obtain ⟨hg57, h⟩ := xw_grdI h
                refine xw_if_ne (tgt := 145) hx hb hg57 d_MD_choose_134 (by decide) (fun hc58 => ?_) (fun hc58 => ?_)
                · replace h := xw_ifF hc58 h
                  exact hj145 s54 i3_120 i4_120 h _ _ _ hP hS (lv_sub hl [0, 1, 2, 3] rfl)
                · replace h := xw_ifT hc58 h
                  refine lv_iload hx hb d_MD_choose_137 (lv_at hl 3 rfl) ?_
                  obtain ⟨s59, r61, hc60, h⟩ := xw_bn2I h
                  refine xw_callSi ⟨hx, hb, hml, hown, hts⟩ (c_MD_ends l D A ad cs Z tt fu s54 s59 i4_120 r61 hc60) (va_cwS 1 hts (gd_S hw_498 hw_499 hw_433 hw_500) rfl rfl rfl (by decide +kernel) ⟨Nat.le_of_ble_eq_true rfl, Nat.le_of_ble_eq_true rfl⟩) hP hK hD hX hS rfl hl.1 rfl (Nat.le_of_ble_eq_true rfl) d_MD_choose_139 (fun H locs hP hS => ?_)
                  obtain ⟨hg62, h⟩ := xw_grdI h
                  refine xw_if_eq (tgt := 158) hx hb hg62 d_MD_choose_142 (by decide) (fun hc63 => ?_) (fun hc63 => ?_)
                  · replace h := xw_ifT hc63 h
                    exact hj158 s59 i3_120 h _ _ _ hP hS (lv_sub hl [0, 1, 2] rfl)
                  · replace h := xw_ifF hc63 h
                    exact hj145 s59 i3_120 i4_120 h _ _ _ hP hS (lv_sub hl [0, 1, 2, 3] rfl)
        · intro j120 hj120 h
          obtain ⟨hg37, h⟩ := xw_grdI h
          refine xw_if_eq (tgt := 120) hx hb hg37 d_MD_choose_97 (by decide) (fun hc38 => ?_) (fun hc38 => ?_)
          · replace h := xw_ifT hc38 h
            exact hj120 s33 i3_73 r35 h _ _ _ hP hS (lv_sub hl [1, 2, 3, 0] rfl)
          · replace h := xw_ifF hc38 h
            refine lv_iload hx hb d_MD_choose_100 (lv_at hl 0 rfl) ?_
            obtain ⟨s39, r41, hc40, h⟩ := xw_bn2I h
            refine xw_callSi ⟨hx, hb, hml, hown, hts⟩ (c_MD_branches l D A ad cs Z tt fu s33 s39 r35 r41 hc40) (va_cwS 1 hts (gd_S hw_467 hw_468 hw_433 hw_469) rfl rfl rfl (by decide +kernel) ⟨Nat.le_of_ble_eq_true rfl, Nat.le_of_ble_eq_true rfl⟩) hP hK hD hX hS rfl hl.1 rfl (Nat.le_of_ble_eq_true rfl) d_MD_choose_102 (fun H locs hP hS => ?_)
            obtain ⟨hg42, h⟩ := xw_grdI h
            refine xw_if_eq (tgt := 120) hx hb hg42 d_MD_choose_105 (by decide) (fun hc43 => ?_) (fun hc43 => ?_)
            · replace h := xw_ifT hc43 h
              exact hj120 s39 i3_73 r35 h _ _ _ hP hS (lv_sub hl [1, 2, 3, 0] rfl)
            · replace h := xw_ifF hc43 h
              refine lv_aload_n hx hb d_MD_choose_108 rfl (lv_at hl 1 rfl) ?_
              refine xw_getR (C := "AdviceWeaverModel") (T := T_MD) hx hb hts hin_MD hown hK hP (by decide) kr_MD (by decide) rfl 25 (by decide) (hts _ hw_528) (fun _ h9 => h9) rfl d_MD_choose_109 ?_
              refine lv_aload_n hx hb d_MD_choose_112 rfl (lv_at hl 1 rfl) ?_
              refine lv_iload_n hx hb d_MD_choose_113 rfl (lv_at hl 2 rfl) ?_
              refine lv_iload_n hx hb d_MD_choose_114 rfl (lv_at hl 3 rfl) ?_
              obtain ⟨s44, r46, hc45, h⟩ := xw_bn2I h
              refine xw_callVi (C := "AdviceWeaverModel") (T := T_MD) ⟨hx, hb, hml, hown, hts⟩ (c_MD_target l D A ad cs Z tt fu s39 s44 c1_73 i3_73 r46 hc45) (cwV 2 hts (gd_V hw_470 hw_471 hw_472 hw_433 hw_473) rfl rfl rfl (by decide +kernel) ⟨Nat.le_of_ble_eq_true rfl, Nat.le_of_ble_eq_true rfl⟩) hP hK hD hX hS (by decide) kr_MD (by decide) rfl rfl hl.1 rfl (Nat.le_of_ble_eq_true rfl) d_MD_choose_115 (fun H locs hP hS => ?_)
              refine lv_iconst (v := xw_i 1) hx hb d_MD_choose_118 rfl ?_
              obtain ⟨hg47, h⟩ := xw_grdI h
              refine xw_zast hx hb hK hP hD hS (by decide) kr_m_before (by decide) hg47 (by decide) d_MD_choose_119 (fun s48 e49 H locs hP hS => ?_)
              replace h := xw_letI e49 h
              exact hj120 s48 i3_73 r35 h _ _ _ hP hS (lv_sub hl [1, 2, 3, 0] rfl)
  have hlp166 : ∀ (c1_166 : Int) (k203 : xw_S → Option xw_S) (hk203 : ∀ (sq : xw_S), k203 sq = some sZ → ∀ (H : Heap) (locs : List Loc) (ls : Array Slot), va_P D vwCl (xw_ws kdR 29 ad cs Z sq) H → va_S A s.heap H locs → lv_has ls 5 [(0, .ref (ad 0)), (1, .int (xw_i c1_166))] → W p l e (headSpec w_MD_choose ({ frames := 2, cells := 0, slots := 0, locals := 44 })).room s m [.ref (ad 0), .int (xw_i p1), .int (xw_i p2)].toArray below meth c H locs 0 0 (MQ below (va_Qv (fun u => u = sZ) (xw_H D vwCl A kdR 29 ad cs Z tt) A) [.ref (ad 0), .int (xw_i p1), .int (xw_i p2)].toArray s 0 0 A) (F0 m 203 ls [])) (n : Nat), ∀ (sq : xw_S) (i3_166 : Int), lp_MD_choose_166 fu c1_166 k203 n sq i3_166 = some sZ → ∀ (H : Heap) (locs : List Loc) (ls : Array Slot), va_P D vwCl (xw_ws kdR 29 ad cs Z sq) H → va_S A s.heap H locs → lv_has ls 5 [(0, .ref (ad 0)), (1, .int (xw_i c1_166)), (3, .int (xw_i i3_166))] → W p l e (headSpec w_MD_choose ({ frames := 2, cells := 0, slots := 0, locals := 44 })).room s m [.ref (ad 0), .int (xw_i p1), .int (xw_i p2)].toArray below meth c H locs 0 0 (MQ below (va_Qv (fun u => u = sZ) (xw_H D vwCl A kdR 29 ad cs Z tt) A) [.ref (ad 0), .int (xw_i p1), .int (xw_i p2)].toArray s 0 0 A) (F0 m 166 ls []) := by
    intro c1_166 k203 hk203 n
    induction n with
    | zero =>
      intro sq i3_166 h
      cases (show (none : Option xw_S) = some sZ from h)
    | succ n ih166 =>
      intro s75 i3_166 h H locs ls hP hS hl
      unfold lp_MD_choose_166 at h
      refine lv_iload_n hx hb d_MD_choose_166 rfl (lv_at hl 2 rfl) ?_
      refine lv_aload_n hx hb d_MD_choose_167 rfl (lv_at hl 0 rfl) ?_
      refine xw_getR (C := "AdviceWeaverModel") (T := T_MD) hx hb hts hin_MD hown hK hP (by decide) kr_MD (by decide) rfl 8 (by decide) (hts _ hw_449) (fun _ h9 => h9) rfl d_MD_choose_168 ?_
      refine lv_iload_n hx hb d_MD_choose_171 rfl (lv_at hl 1 rfl) ?_
      obtain ⟨hg76, h⟩ := xw_grdI h
      refine xw_iald hx hb hK hP (by decide) kr_m_handlers (by decide) hg76 d_MD_choose_172 ?_
      obtain ⟨hg77, h⟩ := xw_grdI h
      refine xw_icmp_ge (tgt := 203) hx hb hg77.1 hg77.2 d_MD_choose_173 (by decide) (fun hc78 => ?_) (fun hc78 => ?_)
      · replace h := xw_ifT hc78 h
        exact hk203 s75 h _ _ _ hP hS (lv_sub hl [0, 1] rfl)
      · replace h := xw_ifF hc78 h
        refine lv_aload_n hx hb d_MD_choose_176 rfl (lv_at hl 0 rfl) ?_
        refine xw_getR (C := "AdviceWeaverModel") (T := T_MD) hx hb hts hin_MD hown hK hP (by decide) kr_MD (by decide) rfl 25 (by decide) (hts _ hw_528) (fun _ h9 => h9) rfl d_MD_choose_177 ?_
        refine lv_aload_n hx hb d_MD_choose_180 rfl (lv_at hl 0 rfl) ?_
        refine xw_getR (C := "AdviceWeaverModel") (T := T_MD) hx hb hts hin_MD hown hK hP (by decide) kr_MD (by decide) rfl 9 (by decide) (hts _ hw_450) (fun _ h9 => h9) rfl d_MD_choose_181 ?_
        refine lv_bipush (v := xw_i 20) hx hb d_MD_choose_184 (by decide) ?_
        refine lv_iload_n hx hb d_MD_choose_186 rfl (lv_at hl 1 rfl) ?_
        refine xw_imul hx hb d_MD_choose_187 ?_
        refine lv_iconst (v := xw_i 4) hx hb d_MD_choose_188 rfl ?_
        refine lv_iload_n hx hb d_MD_choose_189 rfl (lv_at hl 2 rfl) ?_
        refine xw_imul hx hb d_MD_choose_190 ?_
        refine xw_iadd hx hb d_MD_choose_191 ?_
        refine lv_iconst (v := xw_i 2) hx hb d_MD_choose_192 rfl ?_
        refine xw_iadd hx hb d_MD_choose_193 ?_
        obtain ⟨hg79, h⟩ := xw_grdI h
        refine xw_iald hx hb hK hP (by decide) kr_m_handler (by decide) hg79 d_MD_choose_194 ?_
        refine lv_iconst (v := xw_i 1) hx hb d_MD_choose_195 rfl ?_
        obtain ⟨hg80, h⟩ := xw_grdI h
        refine xw_zast hx hb hK hP hD hS (by decide) kr_m_before (by decide) hg80 (by decide) d_MD_choose_196 (fun s81 e82 H locs hP hS => ?_)
        replace h := xw_letI e82 h
        obtain ⟨v83, e84⟩ : ∃ z, z = i3_166 + 1 := ⟨_, rfl⟩
        replace h := xw_letI e84 h
        refine xw_iinc (lv' := [(3, .int (xw_i v83)), (0, .ref (ad 0)), (1, .int (xw_i c1_166))]) hx hb d_MD_choose_197 hl (k := 2) rfl (by decide) (by rw [e84]; rfl) (fun ls hl => ?_)
        refine lv_goto (tgt := 166) hx hb d_MD_choose_200 (by decide) ?_
        exact ih166 s81 v83 h _ _ _ hP hS (lv_sub hl [1, 2, 0] rfl)
  unfold f_MD_choose at h
  refine lv_iconst (v := xw_i 0) hx hb d_MD_choose_0 rfl ?_
  refine lv_istore_n hx hb d_MD_choose_1 rfl hl (by decide) rfl (fun ls hl => ?_)
  refine xw_jnI (fun j => ∀ (sq : xw_S), j sq = some sZ → ∀ (H : Heap) (locs : List Loc) (ls : Array Slot), va_P D vwCl (xw_ws kdR 29 ad cs Z sq) H → va_S A s.heap H locs → lv_has ls 5 [(0, .ref (ad 0)), (1, .int (xw_i p1)), (2, .int (xw_i p2))] → W p l e (headSpec w_MD_choose ({ frames := 2, cells := 0, slots := 0, locals := 44 })).room s m [.ref (ad 0), .int (xw_i p1), .int (xw_i p2)].toArray below meth c H locs 0 0 (MQ below (va_Qv (fun u => u = sZ) (xw_H D vwCl A kdR 29 ad cs Z tt) A) [.ref (ad 0), .int (xw_i p1), .int (xw_i p2)].toArray s 0 0 A) (F0 m 59 ls [])) h ?_ ?_
  · intro s24 h H locs ls hP hS hl
    refine lv_iload_n hx hb d_MD_choose_59 rfl (lv_at hl 2 rfl) ?_
    obtain ⟨hg25, h⟩ := xw_grdI h
    refine xw_if_ne (tgt := 64) hx hb hg25 d_MD_choose_60 (by decide) (fun hc26 => ?_) (fun hc26 => ?_)
    · replace h := xw_ifF hc26 h
      refine lv_aload_n hx hb d_MD_choose_64 rfl (lv_at hl 0 rfl) ?_
      refine xw_getR (C := "AdviceWeaverModel") (T := T_MD) hx hb hts hin_MD hown hK hP (by decide) kr_MD (by decide) rfl 25 (by decide) (hts _ hw_528) (fun _ h9 => h9) rfl d_MD_choose_65 ?_
      refine lv_iconst (v := xw_i 0) hx hb d_MD_choose_68 rfl ?_
      refine lv_iconst (v := xw_i 1) hx hb d_MD_choose_69 rfl ?_
      refine xw_zast hx hb hK hP hD hS (by decide) kr_m_before (by decide) (by decide) (by decide) d_MD_choose_70 (fun s27 e28 H locs hP hS => ?_)
      replace h := xw_letI e28 h
      refine lv_iconst (v := xw_i 0) hx hb d_MD_choose_71 rfl ?_
      refine lv_istore_n hx hb d_MD_choose_72 rfl hl (by decide) rfl (fun ls hl => ?_)
      refine xw_jnI (fun j => ∀ (sq : xw_S), j sq = some sZ → ∀ (H : Heap) (locs : List Loc) (ls : Array Slot), va_P D vwCl (xw_ws kdR 29 ad cs Z sq) H → va_S A s.heap H locs → lv_has ls 5 [(0, .ref (ad 0)), (1, .int (xw_i p1))] → W p l e (headSpec w_MD_choose ({ frames := 2, cells := 0, slots := 0, locals := 44 })).room s m [.ref (ad 0), .int (xw_i p1), .int (xw_i p2)].toArray below meth c H locs 0 0 (MQ below (va_Qv (fun u => u = sZ) (xw_H D vwCl A kdR 29 ad cs Z tt) A) [.ref (ad 0), .int (xw_i p1), .int (xw_i p2)].toArray s 0 0 A) (F0 m 164 ls [])) h ?_ ?_
      · intro s74 h H locs ls hP hS hl
        refine lv_iconst (v := xw_i 0) hx hb d_MD_choose_164 rfl ?_
        refine lv_istore_n hx hb d_MD_choose_165 rfl hl (by decide) rfl (fun ls hl => ?_)
        refine xw_jnI (fun j => ∀ (sq : xw_S), j sq = some sZ → ∀ (H : Heap) (locs : List Loc) (ls : Array Slot), va_P D vwCl (xw_ws kdR 29 ad cs Z sq) H → va_S A s.heap H locs → lv_has ls 5 [(0, .ref (ad 0)), (1, .int (xw_i p1))] → W p l e (headSpec w_MD_choose ({ frames := 2, cells := 0, slots := 0, locals := 44 })).room s m [.ref (ad 0), .int (xw_i p1), .int (xw_i p2)].toArray below meth c H locs 0 0 (MQ below (va_Qv (fun u => u = sZ) (xw_H D vwCl A kdR 29 ad cs Z tt) A) [.ref (ad 0), .int (xw_i p1), .int (xw_i p2)].toArray s 0 0 A) (F0 m 203 ls [])) h ?_ ?_
        · intro s85 h H locs ls hP hS hl
          refine lv_aload_n hx hb d_MD_choose_203 rfl (lv_at hl 0 rfl) ?_
          refine xw_getR (C := "AdviceWeaverModel") (T := T_MD) hx hb hts hin_MD hown hK hP (by decide) kr_MD (by decide) rfl 25 (by decide) (hts _ hw_528) (fun _ h9 => h9) rfl d_MD_choose_204 ?_
          refine lv_aload_n hx hb d_MD_choose_207 rfl (lv_at hl 0 rfl) ?_
          refine xw_getR (C := "AdviceWeaverModel") (T := T_MD) hx hb hts hin_MD hown hK hP (by decide) kr_MD (by decide) rfl 6 (by decide) (hts _ hw_447) (fun _ h9 => h9) rfl d_MD_choose_208 ?_
          refine lv_iload_n hx hb d_MD_choose_211 rfl (lv_at hl 1 rfl) ?_
          obtain ⟨hg86, h⟩ := xw_grdI h
          refine xw_iald hx hb hK hP (by decide) kr_m_length (by decide) hg86 d_MD_choose_212 ?_
          refine lv_iconst (v := xw_i 0) hx hb d_MD_choose_213 rfl ?_
          obtain ⟨hg87, h⟩ := xw_grdI h
          refine xw_zast hx hb hK hP hD hS (by decide) kr_m_before (by decide) hg87 (by decide) d_MD_choose_214 (fun s88 e89 H locs hP hS => ?_)
          replace h := xw_letI e89 h
          cases h
          exact xw_vret hx hb hr hlk hP hK hD hX hS d_MD_choose_215
        · intro k203 hk203 h
          exact hlp166 p1 k203 hk203 fu s74 0 h _ _ _ hP hS (lv_sub hl [1, 2, 0] rfl)
      · intro k164 hk164 h
        exact hlp73 p1 k164 hk164 fu s27 0 h _ _ _ hP hS (lv_sub hl [1, 2, 0] rfl)
    · replace h := xw_ifT hc26 h
      cases h
      exact xw_vret hx hb hr hlk hP hK hD hX hS d_MD_choose_63
  · intro k59 hk59 h
    exact hlp2 p1 p2 k59 hk59 fu s0 0 h _ _ _ hP hS (lv_sub hl [1, 2, 3, 0] rfl)
def lp_MD_lay_5 (fu : Nat) (c1_5 : Int) (k95 : xw_S → Int → Option (xw_S × Int)) : Nat → xw_S → Int → Int → Option (xw_S × Int)
  | 0, _, _, _ => none
  | n + 1, s1, i3_5, i4_5 =>
    xw_grd ((0 ≤ c1_5 ∧ c1_5 < ((12 : Nat) : Int))) (xw_grd (xw_r i4_5 ∧ xw_r (s1.1 6 (c1_5).toNat)) (xw_if (s1.1 6 (c1_5).toNat ≤ i4_5) (k95 s1 i3_5)
     (xw_grd ((0 ≤ i4_5 ∧ i4_5 < ((121 : Nat) : Int))) (xw_jn (fun (s27 : xw_S) (i3_89 : Int) (i4_89 : Int) => xw_let (i4_89 + 1) (fun v28 => lp_MD_lay_5 fu c1_5 k95 n s27 i3_89 v28))
     (fun (j89 : xw_S → Int → Int → Option (xw_S × Int)) => xw_grd (xw_r (s1.1 14 (i4_5).toNat)) (xw_if (s1.1 14 (i4_5).toNat = 0) (j89 s1 i3_5 i4_5)
     (xw_let (xw_st s1 19 (i4_5).toNat i3_5) (fun s8 => xw_jn (fun (s12 : xw_S) (i4_51 : Int) (t0_51 : Int) => xw_grd ((0 ≤ i4_51 ∧ i4_51 < ((121 : Nat) : Int))) (xw_let (xw_st s12 20 (i4_51).toNat t0_51) (fun s14 => xw_bn2 (f_MD_op fu s14 c1_5 i4_51) (fun s16 r18 => xw_bn2 (f_MD_sizeOf fu s16 r18) (fun s19 r21 => xw_jn (fun (s24 : xw_S) (i4_87 : Int) (t0_87 : Int) (t1_87 : Int) => xw_let (t1_87 + t0_87) (fun v25 => j89 s24 v25 i4_87))
     (fun (j87 : xw_S → Int → Int → Int → Option (xw_S × Int)) => xw_grd (xw_r (s19.1 18 (i4_51).toNat)) (xw_if (s19.1 18 (i4_51).toNat = 0) (j87 s19 i4_51 0 (t0_51 + r21))
     (j87 s19 i4_51 1 (t0_51 + r21)))))))))
     (fun (j51 : xw_S → Int → Int → Option (xw_S × Int)) => xw_grd (xw_r (s8.1 17 (i4_5).toNat)) (xw_if (s8.1 17 (i4_5).toNat = 0) (j51 s8 i4_5 i3_5)
     (j51 s8 i4_5 (i3_5 + 2))))))))))))
def lp_MD_lay_113 (fu : Nat) (c1_113 : Int) (k216 : xw_S → Int → Option (xw_S × Int)) : Nat → xw_S → Int → Int → Option (xw_S × Int)
  | 0, _, _, _ => none
  | n + 1, s35, i4_113, i5_113 =>
    xw_grd ((0 ≤ c1_113 ∧ c1_113 < ((12 : Nat) : Int))) (xw_grd (xw_r i5_113 ∧ xw_r (s35.1 6 (c1_113).toNat)) (xw_if (s35.1 6 (c1_113).toNat ≤ i5_113) (k216 s35 i4_113)
     (xw_grd ((0 ≤ i5_113 ∧ i5_113 < ((121 : Nat) : Int))) (xw_jn (fun (s68 : xw_S) (i4_210 : Int) (i5_210 : Int) => xw_let (i5_210 + 1) (fun v69 => lp_MD_lay_113 fu c1_113 k216 n s68 i4_210 v69))
     (fun (j210 : xw_S → Int → Int → Option (xw_S × Int)) => xw_grd (xw_r (s35.1 14 (i5_113).toNat)) (xw_if (s35.1 14 (i5_113).toNat = 0) (j210 s35 i4_113 i5_113)
     (xw_grd (xw_r (s35.1 18 (i5_113).toNat)) (xw_if (s35.1 18 (i5_113).toNat = 0) (xw_bn2 (f_MD_op fu s35 c1_113 i5_113) (fun s44 r46 => xw_bn2 (f_MD_branches fu s44 r46) (fun s47 r49 => xw_grd (xw_r r49) (xw_if (r49 = 0) (j210 s47 i4_113 i5_113)
     (xw_bn2 (f_MD_op fu s47 c1_113 i5_113) (fun s52 r54 => xw_grd (xw_r r54) (xw_if (20 ≤ r54) (j210 s52 i4_113 i5_113)
     (xw_bn2 (f_MD_target fu s52 c1_113 i5_113) (fun s57 r59 => xw_grd ((0 ≤ r59 ∧ r59 < ((121 : Nat) : Int))) (xw_bn2 (f_MD_outside fu s57 ((s57.1 19 (r59).toNat) - (s57.1 20 (i5_113).toNat)) (-24) 24) (fun s61 r63 => xw_grd (xw_r r63) (xw_if (r63 = 0) (j210 s61 i4_113 i5_113)
     (xw_let (xw_st s61 18 (i5_113).toNat 1) (fun s66 => j210 s66 1 i5_113))))))))))))))
     (j210 s35 i4_113 i5_113)))))))))
def f_MD_lay (fu : Nat) (s0 : xw_S) (p1 : Int) (p2 : Int) : Option (xw_S × Int) :=
 xw_jn (fun (s30 : xw_S) (i3_95 : Int) => xw_grd ((0 ≤ p1 ∧ p1 < ((12 : Nat) : Int))) (xw_grd ((0 ≤ s30.1 6 (p1).toNat ∧ s30.1 6 (p1).toNat < ((121 : Nat) : Int))) (xw_let (xw_st s30 19 (s30.1 6 (p1).toNat).toNat i3_95) (fun s33 => xw_jn (fun (s71 : xw_S) (i4_216 : Int) => xw_grd ((i4_216 = 0 ∨ i4_216 = 1)) (some (s71, i4_216)))
 (fun (k216 : xw_S → Int → Option (xw_S × Int)) => lp_MD_lay_113 fu p1 k216 fu s33 0 0)))))
 (fun (k95 : xw_S → Int → Option (xw_S × Int)) => lp_MD_lay_5 fu p1 k95 fu s0 p2 0)
set_option maxRecDepth 100000 in
set_option maxHeartbeats 4000000 in
theorem c_MD_lay (l : Launch) (D : va_G) (A : Nat → Prop) (ad : Nat → Nat) (cs : Nat → ClassId) (Z : va_W) (tt : Nat → Nat) (fu : Nat) (s0 sZ : xw_S) (p1 : Int) (p2 : Int) (r0 : Int) (h : f_MD_lay fu s0 p1 p2 = some (sZ, r0)) : Met l y_MD_lay w_MD_lay ({ frames := 2, cells := 0, slots := 0, locals := 44 }) (va_Pc [.ref (ad 0), .int (xw_i p1), .int (xw_i p2)] (xw_H D vwCl A kdR 29 ad cs Z tt s0)) (va_Qi (fun r u => r = xw_i r0 ∧ u = sZ) (xw_H D vwCl A kdR 29 ad cs Z tt) A) 0 0 A := by
  refine Met.ofW (cc := b_MD_lay) (maxL := 6) (ret := (some .boolean)) (by decide) rfl ?_
  intro p e s m args below meth c s₁ B hml hv
  obtain ⟨rfl, hP, hK, hD, hX⟩ := hv
  have hx := B.exec
  have hb := B.bytes
  have hr := B.returns
  have hts0 := atoms_spec (ws := w_MD_lay) B.pre
  have hts := fun w (hw : w ∈ wAll) => hts0 w (List.mem_cons_of_mem _ hw)
  have hown : s.vm.findClass "AdviceWeaverModel" = some m.cls := findClass_of_methodNamed B.named
  have hlk := B.notSynchronized
  clear hts0 B
  have hS : va_S A s.heap s.heap [] := va_S.rf
  have hl := lv_entry [.ref (ad 0), .int (xw_i p1), .int (xw_i p2)] (n := 6) (Nat.le_of_ble_eq_true rfl)
  rw [lg_entry_eq]
  generalize (lg_sl [.ref (ad 0), .int (xw_i p1), .int (xw_i p2)] ++ List.replicate (6 - (lg_sl [.ref (ad 0), .int (xw_i p1), .int (xw_i p2)]).length) Slot.unset).toArray = ls at hl ⊢
  have hl : lv_has ls 6 [(0, .ref (ad 0)), (1, .int (xw_i p1)), (2, .int (xw_i p2))] := hl
  have hlp5 : ∀ (c1_5 : Int) (k95 : xw_S → Int → Option (xw_S × Int)) (hk95 : ∀ (sq : xw_S) (i3_95 : Int), k95 sq i3_95 = some (sZ, r0) → ∀ (H : Heap) (locs : List Loc) (ls : Array Slot), va_P D vwCl (xw_ws kdR 29 ad cs Z sq) H → va_S A s.heap H locs → lv_has ls 6 [(0, .ref (ad 0)), (1, .int (xw_i c1_5)), (3, .int (xw_i i3_95))] → W p l e (headSpec w_MD_lay ({ frames := 2, cells := 0, slots := 0, locals := 44 })).room s m [.ref (ad 0), .int (xw_i p1), .int (xw_i p2)].toArray below meth c H locs 0 0 (MQ below (va_Qi (fun r u => r = xw_i r0 ∧ u = sZ) (xw_H D vwCl A kdR 29 ad cs Z tt) A) [.ref (ad 0), .int (xw_i p1), .int (xw_i p2)].toArray s 0 0 A) (F0 m 95 ls [])) (n : Nat), ∀ (sq : xw_S) (i3_5 : Int) (i4_5 : Int), lp_MD_lay_5 fu c1_5 k95 n sq i3_5 i4_5 = some (sZ, r0) → ∀ (H : Heap) (locs : List Loc) (ls : Array Slot), va_P D vwCl (xw_ws kdR 29 ad cs Z sq) H → va_S A s.heap H locs → lv_has ls 6 [(0, .ref (ad 0)), (1, .int (xw_i c1_5)), (3, .int (xw_i i3_5)), (4, .int (xw_i i4_5))] → W p l e (headSpec w_MD_lay ({ frames := 2, cells := 0, slots := 0, locals := 44 })).room s m [.ref (ad 0), .int (xw_i p1), .int (xw_i p2)].toArray below meth c H locs 0 0 (MQ below (va_Qi (fun r u => r = xw_i r0 ∧ u = sZ) (xw_H D vwCl A kdR 29 ad cs Z tt) A) [.ref (ad 0), .int (xw_i p1), .int (xw_i p2)].toArray s 0 0 A) (F0 m 5 ls []) := by
    intro c1_5 k95 hk95 n
    induction n with
    | zero =>
      intro sq i3_5 i4_5 h
      cases (show (none : Option (xw_S × Int)) = some (sZ, r0) from h)
    | succ n ih5 =>
      intro s1 i3_5 i4_5 h H locs ls hP hS hl
      unfold lp_MD_lay_5 at h
      refine lv_iload hx hb d_MD_lay_5 (lv_at hl 3 rfl) ?_
      refine lv_aload_n hx hb d_MD_lay_7 rfl (lv_at hl 0 rfl) ?_
      refine xw_getR (C := "AdviceWeaverModel") (T := T_MD) hx hb hts hin_MD hown hK hP (by decide) kr_MD (by decide) rfl 6 (by decide) (hts _ hw_447) (fun _ h9 => h9) rfl d_MD_lay_8 ?_
      refine lv_iload_n hx hb d_MD_lay_11 rfl (lv_at hl 1 rfl) ?_
      obtain ⟨hg2, h⟩ := xw_grdI h
      refine xw_iald hx hb hK hP (by decide) kr_m_length (by decide) hg2 d_MD_lay_12 ?_
      obtain ⟨hg3, h⟩ := xw_grdI h
      refine xw_icmp_ge (tgt := 95) hx hb hg3.1 hg3.2 d_MD_lay_13 (by decide) (fun hc4 => ?_) (fun hc4 => ?_)
      · replace h := xw_ifT hc4 h
        exact hk95 s1 i3_5 h _ _ _ hP hS (lv_sub hl [0, 1, 2] rfl)
      · replace h := xw_ifF hc4 h
        refine lv_aload_n hx hb d_MD_lay_16 rfl (lv_at hl 0 rfl) ?_
        refine xw_getR (C := "AdviceWeaverModel") (T := T_MD) hx hb hts hin_MD hown hK hP (by decide) kr_MD (by decide) rfl 20 (by decide) (hts _ hw_451) (fun _ h9 => h9) rfl d_MD_lay_17 ?_
        refine lv_iload hx hb d_MD_lay_20 (lv_at hl 3 rfl) ?_
        obtain ⟨hg5, h⟩ := xw_grdI h
        refine xw_zald hx hb hK hP (by decide) kr_m_begins (by decide) hg5 d_MD_lay_22 ?_
        refine xw_jnI (fun j => ∀ (sq : xw_S) (i3_89 : Int) (i4_89 : Int), j sq i3_89 i4_89 = some (sZ, r0) → ∀ (H : Heap) (locs : List Loc) (ls : Array Slot), va_P D vwCl (xw_ws kdR 29 ad cs Z sq) H → va_S A s.heap H locs → lv_has ls 6 [(0, .ref (ad 0)), (1, .int (xw_i c1_5)), (3, .int (xw_i i3_89)), (4, .int (xw_i i4_89))] → W p l e (headSpec w_MD_lay ({ frames := 2, cells := 0, slots := 0, locals := 44 })).room s m [.ref (ad 0), .int (xw_i p1), .int (xw_i p2)].toArray below meth c H locs 0 0 (MQ below (va_Qi (fun r u => r = xw_i r0 ∧ u = sZ) (xw_H D vwCl A kdR 29 ad cs Z tt) A) [.ref (ad 0), .int (xw_i p1), .int (xw_i p2)].toArray s 0 0 A) (F0 m 89 ls [])) h ?_ ?_
        · intro s27 i3_89 i4_89 h H locs ls hP hS hl
          obtain ⟨v28, e29⟩ : ∃ z, z = i4_89 + 1 := ⟨_, rfl⟩
          replace h := xw_letI e29 h
          refine xw_iinc (lv' := [(4, .int (xw_i v28)), (0, .ref (ad 0)), (1, .int (xw_i c1_5)), (3, .int (xw_i i3_89))]) hx hb d_MD_lay_89 hl (k := 3) rfl (by decide) (by rw [e29]; rfl) (fun ls hl => ?_)
          refine lv_goto (tgt := 5) hx hb d_MD_lay_92 (by decide) ?_
          exact ih5 s27 i3_89 v28 h _ _ _ hP hS (lv_sub hl [1, 2, 3, 0] rfl)
        · intro j89 hj89 h
          obtain ⟨hg6, h⟩ := xw_grdI h
          refine xw_if_eq (tgt := 89) hx hb hg6 d_MD_lay_23 (by decide) (fun hc7 => ?_) (fun hc7 => ?_)
          · replace h := xw_ifT hc7 h
            exact hj89 s1 i3_5 i4_5 h _ _ _ hP hS (lv_sub hl [0, 1, 2, 3] rfl)
          · replace h := xw_ifF hc7 h
            refine lv_aload_n hx hb d_MD_lay_26 rfl (lv_at hl 0 rfl) ?_
            refine xw_getR (C := "AdviceWeaverModel") (T := T_MD) hx hb hts hin_MD hown hK hP (by decide) kr_MD (by decide) rfl 27 (by decide) (hts _ hw_529) (fun _ h9 => h9) rfl d_MD_lay_27 ?_
            refine lv_iload hx hb d_MD_lay_30 (lv_at hl 3 rfl) ?_
            refine lv_iload_n hx hb d_MD_lay_32 rfl (lv_at hl 2 rfl) ?_
            refine xw_iast hx hb hK hP hD hS (by decide) kr_m_lead (by decide) hg5 d_MD_lay_33 (fun s8 e9 H locs hP hS => ?_)
            replace h := xw_letI e9 h
            refine lv_aload_n hx hb d_MD_lay_34 rfl (lv_at hl 0 rfl) ?_
            refine xw_getR (C := "AdviceWeaverModel") (T := T_MD) hx hb hts hin_MD hown hK hP (by decide) kr_MD (by decide) rfl 25 (by decide) (hts _ hw_528) (fun _ h9 => h9) rfl d_MD_lay_35 ?_
            refine lv_iload hx hb d_MD_lay_38 (lv_at hl 3 rfl) ?_
            refine xw_zald hx hb hK hP (by decide) kr_m_before (by decide) hg5 d_MD_lay_40 ?_
            refine xw_jnI (fun j => ∀ (sq : xw_S) (i4_51 : Int) (t0_51 : Int), j sq i4_51 t0_51 = some (sZ, r0) → ∀ (H : Heap) (locs : List Loc) (ls : Array Slot), va_P D vwCl (xw_ws kdR 29 ad cs Z sq) H → va_S A s.heap H locs → lv_has ls 6 [(0, .ref (ad 0)), (1, .int (xw_i c1_5)), (4, .int (xw_i i4_51))] → W p l e (headSpec w_MD_lay ({ frames := 2, cells := 0, slots := 0, locals := 44 })).room s m [.ref (ad 0), .int (xw_i p1), .int (xw_i p2)].toArray below meth c H locs 0 0 (MQ below (va_Qi (fun r u => r = xw_i r0 ∧ u = sZ) (xw_H D vwCl A kdR 29 ad cs Z tt) A) [.ref (ad 0), .int (xw_i p1), .int (xw_i p2)].toArray s 0 0 A) (F0 m 51 ls [.int (xw_i t0_51)])) h ?_ ?_
            · intro s12 i4_51 t0_51 h H locs ls hP hS hl
              refine lv_istore_n hx hb d_MD_lay_51 rfl hl (by decide) rfl (fun ls hl => ?_)
              refine lv_aload_n hx hb d_MD_lay_52 rfl (lv_at hl 1 rfl) ?_
              refine xw_getR (C := "AdviceWeaverModel") (T := T_MD) hx hb hts hin_MD hown hK hP (by decide) kr_MD (by decide) rfl 28 (by decide) (hts _ hw_530) (fun _ h9 => h9) rfl d_MD_lay_53 ?_
              refine lv_iload hx hb d_MD_lay_56 (lv_at hl 3 rfl) ?_
              refine lv_iload_n hx hb d_MD_lay_58 rfl (lv_at hl 0 rfl) ?_
              obtain ⟨hg13, h⟩ := xw_grdI h
              refine xw_iast hx hb hK hP hD hS (by decide) kr_m_own (by decide) hg13 d_MD_lay_59 (fun s14 e15 H locs hP hS => ?_)
              replace h := xw_letI e15 h
              refine lv_iload_n hx hb d_MD_lay_60 rfl (lv_at hl 0 rfl) ?_
              refine lv_aload_n hx hb d_MD_lay_61 rfl (lv_at hl 1 rfl) ?_
              refine lv_iload_n hx hb d_MD_lay_62 rfl (lv_at hl 2 rfl) ?_
              refine lv_iload hx hb d_MD_lay_63 (lv_at hl 3 rfl) ?_
              obtain ⟨s16, r18, hc17, h⟩ := xw_bn2I h
              refine xw_callVi (C := "AdviceWeaverModel") (T := T_MD) ⟨hx, hb, hml, hown, hts⟩ (c_MD_op l D A ad cs Z tt fu s14 s16 c1_5 i4_51 r18 hc17) (cwV 2 hts (gd_V hw_452 hw_453 hw_454 hw_433 hw_455) rfl rfl rfl (by decide +kernel) ⟨Nat.le_of_ble_eq_true rfl, Nat.le_of_ble_eq_true rfl⟩) hP hK hD hX hS (by decide) kr_MD (by decide) rfl rfl hl.1 rfl (Nat.le_of_ble_eq_true rfl) d_MD_lay_65 (fun H locs hP hS => ?_)
              obtain ⟨s19, r21, hc20, h⟩ := xw_bn2I h
              refine xw_callSi ⟨hx, hb, hml, hown, hts⟩ (c_MD_sizeOf l D A ad cs Z tt fu s16 s19 r18 r21 hc20) (va_cwS 1 hts (gd_S hw_456 hw_457 hw_433 hw_458) rfl rfl rfl (by decide +kernel) ⟨Nat.le_of_ble_eq_true rfl, Nat.le_of_ble_eq_true rfl⟩) hP hK hD hX hS rfl hl.1 rfl (Nat.le_of_ble_eq_true rfl) d_MD_lay_68 (fun H locs hP hS => ?_)
              refine xw_iadd hx hb d_MD_lay_71 ?_
              refine lv_aload_n hx hb d_MD_lay_72 rfl (lv_at hl 1 rfl) ?_
              refine xw_getR (C := "AdviceWeaverModel") (T := T_MD) hx hb hts hin_MD hown hK hP (by decide) kr_MD (by decide) rfl 26 (by decide) (hts _ hw_531) (fun _ h9 => h9) rfl d_MD_lay_73 ?_
              refine lv_iload hx hb d_MD_lay_76 (lv_at hl 3 rfl) ?_
              refine xw_zald hx hb hK hP (by decide) kr_m_wide (by decide) hg13 d_MD_lay_78 ?_
              refine xw_jnI (fun j => ∀ (sq : xw_S) (i4_87 : Int) (t0_87 : Int) (t1_87 : Int), j sq i4_87 t0_87 t1_87 = some (sZ, r0) → ∀ (H : Heap) (locs : List Loc) (ls : Array Slot), va_P D vwCl (xw_ws kdR 29 ad cs Z sq) H → va_S A s.heap H locs → lv_has ls 6 [(0, .ref (ad 0)), (1, .int (xw_i c1_5)), (4, .int (xw_i i4_87))] → W p l e (headSpec w_MD_lay ({ frames := 2, cells := 0, slots := 0, locals := 44 })).room s m [.ref (ad 0), .int (xw_i p1), .int (xw_i p2)].toArray below meth c H locs 0 0 (MQ below (va_Qi (fun r u => r = xw_i r0 ∧ u = sZ) (xw_H D vwCl A kdR 29 ad cs Z tt) A) [.ref (ad 0), .int (xw_i p1), .int (xw_i p2)].toArray s 0 0 A) (F0 m 87 ls [.int (xw_i t0_87), .int (xw_i t1_87)])) h ?_ ?_
              · intro s24 i4_87 t0_87 t1_87 h H locs ls hP hS hl
                refine xw_iadd hx hb d_MD_lay_87 ?_
                refine xw_topi (fun v25 e26 => ?_)
                replace h := xw_letI e26 h
                refine lv_istore_n hx hb d_MD_lay_88 rfl hl (by decide) rfl (fun ls hl => ?_)
                exact hj89 s24 v25 i4_87 h _ _ _ hP hS (lv_sub hl [1, 2, 0, 3] rfl)
              · intro j87 hj87 h
                obtain ⟨hg22, h⟩ := xw_grdI h
                refine xw_if_eq (tgt := 86) hx hb hg22 d_MD_lay_79 (by decide) (fun hc23 => ?_) (fun hc23 => ?_)
                · replace h := xw_ifT hc23 h
                  refine lv_iconst (v := xw_i 0) hx hb d_MD_lay_86 rfl ?_
                  exact hj87 s19 i4_51 0 (t0_51 + r21) h _ _ _ hP hS (lv_sub hl [1, 2, 3] rfl)
                · replace h := xw_ifF hc23 h
                  refine lv_iconst (v := xw_i 1) hx hb d_MD_lay_82 rfl ?_
                  refine lv_goto (tgt := 87) hx hb d_MD_lay_83 (by decide) ?_
                  exact hj87 s19 i4_51 1 (t0_51 + r21) h _ _ _ hP hS (lv_sub hl [1, 2, 3] rfl)
            · intro j51 hj51 h
              obtain ⟨hg10, h⟩ := xw_grdI h
              refine xw_if_eq (tgt := 50) hx hb hg10 d_MD_lay_41 (by decide) (fun hc11 => ?_) (fun hc11 => ?_)
              · replace h := xw_ifT hc11 h
                refine lv_iload_n hx hb d_MD_lay_50 rfl (lv_at hl 2 rfl) ?_
                exact hj51 s8 i4_5 i3_5 h _ _ _ hP hS (lv_sub hl [0, 1, 3] rfl)
              · replace h := xw_ifF hc11 h
                refine lv_iload_n hx hb d_MD_lay_44 rfl (lv_at hl 2 rfl) ?_
                refine lv_iconst (v := xw_i 2) hx hb d_MD_lay_45 rfl ?_
                refine xw_iadd hx hb d_MD_lay_46 ?_
                refine lv_goto (tgt := 51) hx hb d_MD_lay_47 (by decide) ?_
                exact hj51 s8 i4_5 (i3_5 + 2) h _ _ _ hP hS (lv_sub hl [0, 1, 3] rfl)
  have hlp113 : ∀ (c1_113 : Int) (k216 : xw_S → Int → Option (xw_S × Int)) (hk216 : ∀ (sq : xw_S) (i4_216 : Int), k216 sq i4_216 = some (sZ, r0) → ∀ (H : Heap) (locs : List Loc) (ls : Array Slot), va_P D vwCl (xw_ws kdR 29 ad cs Z sq) H → va_S A s.heap H locs → lv_has ls 6 [(4, .int (xw_i i4_216))] → W p l e (headSpec w_MD_lay ({ frames := 2, cells := 0, slots := 0, locals := 44 })).room s m [.ref (ad 0), .int (xw_i p1), .int (xw_i p2)].toArray below meth c H locs 0 0 (MQ below (va_Qi (fun r u => r = xw_i r0 ∧ u = sZ) (xw_H D vwCl A kdR 29 ad cs Z tt) A) [.ref (ad 0), .int (xw_i p1), .int (xw_i p2)].toArray s 0 0 A) (F0 m 216 ls [])) (n : Nat), ∀ (sq : xw_S) (i4_113 : Int) (i5_113 : Int), lp_MD_lay_113 fu c1_113 k216 n sq i4_113 i5_113 = some (sZ, r0) → ∀ (H : Heap) (locs : List Loc) (ls : Array Slot), va_P D vwCl (xw_ws kdR 29 ad cs Z sq) H → va_S A s.heap H locs → lv_has ls 6 [(0, .ref (ad 0)), (1, .int (xw_i c1_113)), (4, .int (xw_i i4_113)), (5, .int (xw_i i5_113))] → W p l e (headSpec w_MD_lay ({ frames := 2, cells := 0, slots := 0, locals := 44 })).room s m [.ref (ad 0), .int (xw_i p1), .int (xw_i p2)].toArray below meth c H locs 0 0 (MQ below (va_Qi (fun r u => r = xw_i r0 ∧ u = sZ) (xw_H D vwCl A kdR 29 ad cs Z tt) A) [.ref (ad 0), .int (xw_i p1), .int (xw_i p2)].toArray s 0 0 A) (F0 m 113 ls []) := by
    intro c1_113 k216 hk216 n
    induction n with
    | zero =>
      intro sq i4_113 i5_113 h
      cases (show (none : Option (xw_S × Int)) = some (sZ, r0) from h)
    | succ n ih113 =>
      intro s35 i4_113 i5_113 h H locs ls hP hS hl
      unfold lp_MD_lay_113 at h
      refine lv_iload hx hb d_MD_lay_113 (lv_at hl 3 rfl) ?_
      refine lv_aload_n hx hb d_MD_lay_115 rfl (lv_at hl 0 rfl) ?_
      refine xw_getR (C := "AdviceWeaverModel") (T := T_MD) hx hb hts hin_MD hown hK hP (by decide) kr_MD (by decide) rfl 6 (by decide) (hts _ hw_447) (fun _ h9 => h9) rfl d_MD_lay_116 ?_
      refine lv_iload_n hx hb d_MD_lay_119 rfl (lv_at hl 1 rfl) ?_
      obtain ⟨hg36, h⟩ := xw_grdI h
      refine xw_iald hx hb hK hP (by decide) kr_m_length (by decide) hg36 d_MD_lay_120 ?_
      obtain ⟨hg37, h⟩ := xw_grdI h
      refine xw_icmp_ge (tgt := 216) hx hb hg37.1 hg37.2 d_MD_lay_121 (by decide) (fun hc38 => ?_) (fun hc38 => ?_)
      · replace h := xw_ifT hc38 h
        exact hk216 s35 i4_113 h _ _ _ hP hS (lv_sub hl [2] rfl)
      · replace h := xw_ifF hc38 h
        refine lv_aload_n hx hb d_MD_lay_124 rfl (lv_at hl 0 rfl) ?_
        refine xw_getR (C := "AdviceWeaverModel") (T := T_MD) hx hb hts hin_MD hown hK hP (by decide) kr_MD (by decide) rfl 20 (by decide) (hts _ hw_451) (fun _ h9 => h9) rfl d_MD_lay_125 ?_
        refine lv_iload hx hb d_MD_lay_128 (lv_at hl 3 rfl) ?_
        obtain ⟨hg39, h⟩ := xw_grdI h
        refine xw_zald hx hb hK hP (by decide) kr_m_begins (by decide) hg39 d_MD_lay_130 ?_
        refine xw_jnI (fun j => ∀ (sq : xw_S) (i4_210 : Int) (i5_210 : Int), j sq i4_210 i5_210 = some (sZ, r0) → ∀ (H : Heap) (locs : List Loc) (ls : Array Slot), va_P D vwCl (xw_ws kdR 29 ad cs Z sq) H → va_S A s.heap H locs → lv_has ls 6 [(0, .ref (ad 0)), (1, .int (xw_i c1_113)), (4, .int (xw_i i4_210)), (5, .int (xw_i i5_210))] → W p l e (headSpec w_MD_lay ({ frames := 2, cells := 0, slots := 0, locals := 44 })).room s m [.ref (ad 0), .int (xw_i p1), .int (xw_i p2)].toArray below meth c H locs 0 0 (MQ below (va_Qi (fun r u => r = xw_i r0 ∧ u = sZ) (xw_H D vwCl A kdR 29 ad cs Z tt) A) [.ref (ad 0), .int (xw_i p1), .int (xw_i p2)].toArray s 0 0 A) (F0 m 210 ls [])) h ?_ ?_
        · intro s68 i4_210 i5_210 h H locs ls hP hS hl
          obtain ⟨v69, e70⟩ : ∃ z, z = i5_210 + 1 := ⟨_, rfl⟩
          replace h := xw_letI e70 h
          refine xw_iinc (lv' := [(5, .int (xw_i v69)), (0, .ref (ad 0)), (1, .int (xw_i c1_113)), (4, .int (xw_i i4_210))]) hx hb d_MD_lay_210 hl (k := 3) rfl (by decide) (by rw [e70]; rfl) (fun ls hl => ?_)
          refine lv_goto (tgt := 113) hx hb d_MD_lay_213 (by decide) ?_
          exact ih113 s68 i4_210 v69 h _ _ _ hP hS (lv_sub hl [1, 2, 3, 0] rfl)
        · intro j210 hj210 h
          obtain ⟨hg40, h⟩ := xw_grdI h
          refine xw_if_eq (tgt := 210) hx hb hg40 d_MD_lay_131 (by decide) (fun hc41 => ?_) (fun hc41 => ?_)
          · replace h := xw_ifT hc41 h
            exact hj210 s35 i4_113 i5_113 h _ _ _ hP hS (lv_sub hl [0, 1, 2, 3] rfl)
          · replace h := xw_ifF hc41 h
            refine lv_aload_n hx hb d_MD_lay_134 rfl (lv_at hl 0 rfl) ?_
            refine xw_getR (C := "AdviceWeaverModel") (T := T_MD) hx hb hts hin_MD hown hK hP (by decide) kr_MD (by decide) rfl 26 (by decide) (hts _ hw_531) (fun _ h9 => h9) rfl d_MD_lay_135 ?_
            refine lv_iload hx hb d_MD_lay_138 (lv_at hl 3 rfl) ?_
            refine xw_zald hx hb hK hP (by decide) kr_m_wide (by decide) hg39 d_MD_lay_140 ?_
            obtain ⟨hg42, h⟩ := xw_grdI h
            refine xw_if_ne (tgt := 210) hx hb hg42 d_MD_lay_141 (by decide) (fun hc43 => ?_) (fun hc43 => ?_)
            · replace h := xw_ifF hc43 h
              exact hj210 s35 i4_113 i5_113 h _ _ _ hP hS (lv_sub hl [0, 1, 2, 3] rfl)
            · replace h := xw_ifT hc43 h
              refine lv_aload_n hx hb d_MD_lay_144 rfl (lv_at hl 0 rfl) ?_
              refine lv_iload_n hx hb d_MD_lay_145 rfl (lv_at hl 1 rfl) ?_
              refine lv_iload hx hb d_MD_lay_146 (lv_at hl 3 rfl) ?_
              obtain ⟨s44, r46, hc45, h⟩ := xw_bn2I h
              refine xw_callVi (C := "AdviceWeaverModel") (T := T_MD) ⟨hx, hb, hml, hown, hts⟩ (c_MD_op l D A ad cs Z tt fu s35 s44 c1_113 i5_113 r46 hc45) (cwV 2 hts (gd_V hw_452 hw_453 hw_454 hw_433 hw_455) rfl rfl rfl (by decide +kernel) ⟨Nat.le_of_ble_eq_true rfl, Nat.le_of_ble_eq_true rfl⟩) hP hK hD hX hS (by decide) kr_MD (by decide) rfl rfl hl.1 rfl (Nat.le_of_ble_eq_true rfl) d_MD_lay_148 (fun H locs hP hS => ?_)
              obtain ⟨s47, r49, hc48, h⟩ := xw_bn2I h
              refine xw_callSi ⟨hx, hb, hml, hown, hts⟩ (c_MD_branches l D A ad cs Z tt fu s44 s47 r46 r49 hc48) (va_cwS 1 hts (gd_S hw_467 hw_468 hw_433 hw_469) rfl rfl rfl (by decide +kernel) ⟨Nat.le_of_ble_eq_true rfl, Nat.le_of_ble_eq_true rfl⟩) hP hK hD hX hS rfl hl.1 rfl (Nat.le_of_ble_eq_true rfl) d_MD_lay_151 (fun H locs hP hS => ?_)
              obtain ⟨hg50, h⟩ := xw_grdI h
              refine xw_if_eq (tgt := 210) hx hb hg50 d_MD_lay_154 (by decide) (fun hc51 => ?_) (fun hc51 => ?_)
              · replace h := xw_ifT hc51 h
                exact hj210 s47 i4_113 i5_113 h _ _ _ hP hS (lv_sub hl [0, 1, 2, 3] rfl)
              · replace h := xw_ifF hc51 h
                refine lv_aload_n hx hb d_MD_lay_157 rfl (lv_at hl 0 rfl) ?_
                refine lv_iload_n hx hb d_MD_lay_158 rfl (lv_at hl 1 rfl) ?_
                refine lv_iload hx hb d_MD_lay_159 (lv_at hl 3 rfl) ?_
                obtain ⟨s52, r54, hc53, h⟩ := xw_bn2I h
                refine xw_callVi (C := "AdviceWeaverModel") (T := T_MD) ⟨hx, hb, hml, hown, hts⟩ (c_MD_op l D A ad cs Z tt fu s47 s52 c1_113 i5_113 r54 hc53) (cwV 2 hts (gd_V hw_452 hw_453 hw_454 hw_433 hw_455) rfl rfl rfl (by decide +kernel) ⟨Nat.le_of_ble_eq_true rfl, Nat.le_of_ble_eq_true rfl⟩) hP hK hD hX hS (by decide) kr_MD (by decide) rfl rfl hl.1 rfl (Nat.le_of_ble_eq_true rfl) d_MD_lay_161 (fun H locs hP hS => ?_)
                refine lv_bipush (v := xw_i 20) hx hb d_MD_lay_164 (by decide) ?_
                obtain ⟨hg55, h⟩ := xw_grdI h
                refine xw_icmp_ge (tgt := 210) hx hb hg55 (by decide) d_MD_lay_166 (by decide) (fun hc56 => ?_) (fun hc56 => ?_)
                · replace h := xw_ifT hc56 h
                  exact hj210 s52 i4_113 i5_113 h _ _ _ hP hS (lv_sub hl [0, 1, 2, 3] rfl)
                · replace h := xw_ifF hc56 h
                  refine lv_aload_n hx hb d_MD_lay_169 rfl (lv_at hl 0 rfl) ?_
                  refine xw_getR (C := "AdviceWeaverModel") (T := T_MD) hx hb hts hin_MD hown hK hP (by decide) kr_MD (by decide) rfl 27 (by decide) (hts _ hw_529) (fun _ h9 => h9) rfl d_MD_lay_170 ?_
                  refine lv_aload_n hx hb d_MD_lay_173 rfl (lv_at hl 0 rfl) ?_
                  refine lv_iload_n hx hb d_MD_lay_174 rfl (lv_at hl 1 rfl) ?_
                  refine lv_iload hx hb d_MD_lay_175 (lv_at hl 3 rfl) ?_
                  obtain ⟨s57, r59, hc58, h⟩ := xw_bn2I h
                  refine xw_callVi (C := "AdviceWeaverModel") (T := T_MD) ⟨hx, hb, hml, hown, hts⟩ (c_MD_target l D A ad cs Z tt fu s52 s57 c1_113 i5_113 r59 hc58) (cwV 2 hts (gd_V hw_470 hw_471 hw_472 hw_433 hw_473) rfl rfl rfl (by decide +kernel) ⟨Nat.le_of_ble_eq_true rfl, Nat.le_of_ble_eq_true rfl⟩) hP hK hD hX hS (by decide) kr_MD (by decide) rfl rfl hl.1 rfl (Nat.le_of_ble_eq_true rfl) d_MD_lay_177 (fun H locs hP hS => ?_)
                  obtain ⟨hg60, h⟩ := xw_grdI h
                  refine xw_iald hx hb hK hP (by decide) kr_m_lead (by decide) hg60 d_MD_lay_180 ?_
                  refine lv_aload_n hx hb d_MD_lay_181 rfl (lv_at hl 0 rfl) ?_
                  refine xw_getR (C := "AdviceWeaverModel") (T := T_MD) hx hb hts hin_MD hown hK hP (by decide) kr_MD (by decide) rfl 28 (by decide) (hts _ hw_530) (fun _ h9 => h9) rfl d_MD_lay_182 ?_
                  refine lv_iload hx hb d_MD_lay_185 (lv_at hl 3 rfl) ?_
                  refine xw_iald hx hb hK hP (by decide) kr_m_own (by decide) hg39 d_MD_lay_187 ?_
                  refine xw_isub hx hb d_MD_lay_188 ?_
                  refine lv_bipush (v := xw_i (-24)) hx hb d_MD_lay_189 (by decide) ?_
                  refine lv_bipush (v := xw_i 24) hx hb d_MD_lay_191 (by decide) ?_
                  obtain ⟨s61, r63, hc62, h⟩ := xw_bn2I h
                  refine xw_callSi ⟨hx, hb, hml, hown, hts⟩ (c_MD_outside l D A ad cs Z tt fu s57 s61 ((s57.1 19 (r59).toNat) - (s57.1 20 (i5_113).toNat)) (-24) 24 r63 hc62) (va_cwS 3 hts (gd_S hw_431 hw_432 hw_433 hw_434) rfl rfl rfl (by decide +kernel) ⟨Nat.le_of_ble_eq_true rfl, Nat.le_of_ble_eq_true rfl⟩) hP hK hD hX hS rfl hl.1 rfl (Nat.le_of_ble_eq_true rfl) d_MD_lay_193 (fun H locs hP hS => ?_)
                  obtain ⟨hg64, h⟩ := xw_grdI h
                  refine xw_if_eq (tgt := 210) hx hb hg64 d_MD_lay_196 (by decide) (fun hc65 => ?_) (fun hc65 => ?_)
                  · replace h := xw_ifT hc65 h
                    exact hj210 s61 i4_113 i5_113 h _ _ _ hP hS (lv_sub hl [0, 1, 2, 3] rfl)
                  · replace h := xw_ifF hc65 h
                    refine lv_aload_n hx hb d_MD_lay_199 rfl (lv_at hl 0 rfl) ?_
                    refine xw_getR (C := "AdviceWeaverModel") (T := T_MD) hx hb hts hin_MD hown hK hP (by decide) kr_MD (by decide) rfl 26 (by decide) (hts _ hw_531) (fun _ h9 => h9) rfl d_MD_lay_200 ?_
                    refine lv_iload hx hb d_MD_lay_203 (lv_at hl 3 rfl) ?_
                    refine lv_iconst (v := xw_i 1) hx hb d_MD_lay_205 rfl ?_
                    refine xw_zast hx hb hK hP hD hS (by decide) kr_m_wide (by decide) hg39 (by decide) d_MD_lay_206 (fun s66 e67 H locs hP hS => ?_)
                    replace h := xw_letI e67 h
                    refine lv_iconst (v := xw_i 1) hx hb d_MD_lay_207 rfl ?_
                    refine lv_istore hx hb d_MD_lay_208 hl (by decide) rfl (fun ls hl => ?_)
                    exact hj210 s66 1 i5_113 h _ _ _ hP hS (lv_sub hl [1, 2, 0, 3] rfl)
  unfold f_MD_lay at h
  refine lv_iload_n hx hb d_MD_lay_0 rfl (lv_at hl 2 rfl) ?_
  refine lv_istore_n hx hb d_MD_lay_1 rfl hl (by decide) rfl (fun ls hl => ?_)
  refine lv_iconst (v := xw_i 0) hx hb d_MD_lay_2 rfl ?_
  refine lv_istore hx hb d_MD_lay_3 hl (by decide) rfl (fun ls hl => ?_)
  refine xw_jnI (fun j => ∀ (sq : xw_S) (i3_95 : Int), j sq i3_95 = some (sZ, r0) → ∀ (H : Heap) (locs : List Loc) (ls : Array Slot), va_P D vwCl (xw_ws kdR 29 ad cs Z sq) H → va_S A s.heap H locs → lv_has ls 6 [(0, .ref (ad 0)), (1, .int (xw_i p1)), (3, .int (xw_i i3_95))] → W p l e (headSpec w_MD_lay ({ frames := 2, cells := 0, slots := 0, locals := 44 })).room s m [.ref (ad 0), .int (xw_i p1), .int (xw_i p2)].toArray below meth c H locs 0 0 (MQ below (va_Qi (fun r u => r = xw_i r0 ∧ u = sZ) (xw_H D vwCl A kdR 29 ad cs Z tt) A) [.ref (ad 0), .int (xw_i p1), .int (xw_i p2)].toArray s 0 0 A) (F0 m 95 ls [])) h ?_ ?_
  · intro s30 i3_95 h H locs ls hP hS hl
    refine lv_aload_n hx hb d_MD_lay_95 rfl (lv_at hl 0 rfl) ?_
    refine xw_getR (C := "AdviceWeaverModel") (T := T_MD) hx hb hts hin_MD hown hK hP (by decide) kr_MD (by decide) rfl 27 (by decide) (hts _ hw_529) (fun _ h9 => h9) rfl d_MD_lay_96 ?_
    refine lv_aload_n hx hb d_MD_lay_99 rfl (lv_at hl 0 rfl) ?_
    refine xw_getR (C := "AdviceWeaverModel") (T := T_MD) hx hb hts hin_MD hown hK hP (by decide) kr_MD (by decide) rfl 6 (by decide) (hts _ hw_447) (fun _ h9 => h9) rfl d_MD_lay_100 ?_
    refine lv_iload_n hx hb d_MD_lay_103 rfl (lv_at hl 1 rfl) ?_
    obtain ⟨hg31, h⟩ := xw_grdI h
    refine xw_iald hx hb hK hP (by decide) kr_m_length (by decide) hg31 d_MD_lay_104 ?_
    refine lv_iload_n hx hb d_MD_lay_105 rfl (lv_at hl 2 rfl) ?_
    obtain ⟨hg32, h⟩ := xw_grdI h
    refine xw_iast hx hb hK hP hD hS (by decide) kr_m_lead (by decide) hg32 d_MD_lay_106 (fun s33 e34 H locs hP hS => ?_)
    replace h := xw_letI e34 h
    refine lv_iconst (v := xw_i 0) hx hb d_MD_lay_107 rfl ?_
    refine lv_istore hx hb d_MD_lay_108 hl (by decide) rfl (fun ls hl => ?_)
    refine lv_iconst (v := xw_i 0) hx hb d_MD_lay_110 rfl ?_
    refine lv_istore hx hb d_MD_lay_111 hl (by decide) rfl (fun ls hl => ?_)
    refine xw_jnI (fun j => ∀ (sq : xw_S) (i4_216 : Int), j sq i4_216 = some (sZ, r0) → ∀ (H : Heap) (locs : List Loc) (ls : Array Slot), va_P D vwCl (xw_ws kdR 29 ad cs Z sq) H → va_S A s.heap H locs → lv_has ls 6 [(4, .int (xw_i i4_216))] → W p l e (headSpec w_MD_lay ({ frames := 2, cells := 0, slots := 0, locals := 44 })).room s m [.ref (ad 0), .int (xw_i p1), .int (xw_i p2)].toArray below meth c H locs 0 0 (MQ below (va_Qi (fun r u => r = xw_i r0 ∧ u = sZ) (xw_H D vwCl A kdR 29 ad cs Z tt) A) [.ref (ad 0), .int (xw_i p1), .int (xw_i p2)].toArray s 0 0 A) (F0 m 216 ls [])) h ?_ ?_
    · intro s71 i4_216 h H locs ls hP hS hl
      refine lv_iload hx hb d_MD_lay_216 (lv_at hl 0 rfl) ?_
      obtain ⟨hg72, h⟩ := xw_grdI h
      cases h
      exact xw_zret hx hb hr hlk hP hK hD hX hS hg72 d_MD_lay_218
    · intro k216 hk216 h
      exact hlp113 p1 k216 hk216 fu s33 0 0 h _ _ _ hP hS (lv_sub hl [2, 3, 1, 0] rfl)
  · intro k95 hk95 h
    exact hlp5 p1 k95 hk95 fu s0 p2 0 h _ _ _ hP hS (lv_sub hl [2, 3, 1, 0] rfl)
def f_MD_emit (fu : Nat) (s0 : xw_S) (p1 : Int) : Option xw_S :=
 xw_grd ((0 ≤ s0.1 0 29 ∧ s0.1 0 29 < ((120 : Nat) : Int))) (xw_let (xw_st s0 21 (s0.1 0 29).toNat (xw_an p1 255)) (fun s2 => xw_let (xw_st s2 0 29 ((s2.1 0 29) + 1)) (fun s4 => some s4)))
set_option maxRecDepth 100000 in
set_option maxHeartbeats 4000000 in
theorem c_MD_emit (l : Launch) (D : va_G) (A : Nat → Prop) (ad : Nat → Nat) (cs : Nat → ClassId) (Z : va_W) (tt : Nat → Nat) (fu : Nat) (s0 sZ : xw_S) (p1 : Int) (h : f_MD_emit fu s0 p1 = some sZ) : Met l y_MD_emit w_MD_emit ({ frames := 0, cells := 0, slots := 0, locals := 0 }) (va_Pc [.ref (ad 0), .int (xw_i p1)] (xw_H D vwCl A kdR 29 ad cs Z tt s0)) (va_Qv (fun u => u = sZ) (xw_H D vwCl A kdR 29 ad cs Z tt) A) 0 0 A := by
  refine Met.ofW (cc := b_MD_emit) (maxL := 2) (ret := none) (by decide) rfl ?_
  intro p e s m args below meth c s₁ B hml hv
  obtain ⟨rfl, hP, hK, hD, hX⟩ := hv
  have hx := B.exec
  have hb := B.bytes
  have hr := B.returns
  have hts0 := atoms_spec (ws := w_MD_emit) B.pre
  have hts := fun w (hw : w ∈ wAll) => hts0 w (List.mem_cons_of_mem _ hw)
  have hown : s.vm.findClass "AdviceWeaverModel" = some m.cls := findClass_of_methodNamed B.named
  have hlk := B.notSynchronized
  clear hts0 B
  have hS : va_S A s.heap s.heap [] := va_S.rf
  have hl := lv_entry [.ref (ad 0), .int (xw_i p1)] (n := 2) (Nat.le_of_ble_eq_true rfl)
  rw [lg_entry_eq]
  generalize (lg_sl [.ref (ad 0), .int (xw_i p1)] ++ List.replicate (2 - (lg_sl [.ref (ad 0), .int (xw_i p1)]).length) Slot.unset).toArray = ls at hl ⊢
  have hl : lv_has ls 2 [(0, .ref (ad 0)), (1, .int (xw_i p1))] := hl
  unfold f_MD_emit at h
  refine lv_aload_n hx hb d_MD_emit_0 rfl (lv_at hl 0 rfl) ?_
  refine xw_getR (C := "AdviceWeaverModel") (T := T_MD) hx hb hts hin_MD hown hK hP (by decide) kr_MD (by decide) rfl 30 (by decide) (hts _ hw_532) (fun _ h9 => h9) rfl d_MD_emit_1 ?_
  refine lv_aload_n hx hb d_MD_emit_4 rfl (lv_at hl 0 rfl) ?_
  refine xw_getI (C := "AdviceWeaverModel") (T := T_MD) hx hb hts hin_MD hown hK hP (by decide) kr_MD (by decide) rfl 29 (by decide) (hts _ hw_533) (fun _ h9 => h9) rfl d_MD_emit_5 ?_
  refine lv_iload_n hx hb d_MD_emit_8 rfl (lv_at hl 1 rfl) ?_
  refine lv_sipush (v := xw_i 255) hx hb d_MD_emit_9 (by decide) ?_
  refine xw_iand hx hb d_MD_emit_12 ?_
  obtain ⟨hg1, h⟩ := xw_grdI h
  refine xw_iast hx hb hK hP hD hS (by decide) kr_m_fresh (by decide) hg1 d_MD_emit_13 (fun s2 e3 H locs hP hS => ?_)
  replace h := xw_letI e3 h
  refine lv_aload_n hx hb d_MD_emit_14 rfl (lv_at hl 0 rfl) ?_
  refine lv_dup hx hb d_MD_emit_15 rfl ?_
  refine xw_getI (C := "AdviceWeaverModel") (T := T_MD) hx hb hts hin_MD hown hK hP (by decide) kr_MD (by decide) rfl 29 (by decide) (hts _ hw_533) (fun _ h9 => h9) rfl d_MD_emit_16 ?_
  refine lv_iconst (v := xw_i 1) hx hb d_MD_emit_19 rfl ?_
  refine xw_iadd hx hb d_MD_emit_20 ?_
  refine xw_putI (C := "AdviceWeaverModel") (T := T_MD) hx hb hts hin_MD ty_MD ty_MD_ok nm_MD hown hK hP hD hS (by decide) kr_MD (by decide) rfl 29 (by decide) (hts _ hw_533) (fun _ h9 => h9) rfl (by decide +kernel) rfl d_MD_emit_21 (fun s4 e5 H locs hP hS => ?_)
  replace h := xw_letI e5 h
  cases h
  exact xw_vret hx hb hr hlk hP hK hD hX hS d_MD_emit_24
def lp_MD_emitOne_124 (fu : Nat) (c1_124 : Int) (c2_124 : Int) (c3_124 : Int) (k159 : xw_S → Option xw_S) : Nat → xw_S → Int → Option xw_S
  | 0, _, _ => none
  | n + 1, s51, i6_124 =>
    xw_bn2 (f_MD_sizeOf fu s51 c3_124) (fun s52 r54 => xw_grd (xw_r i6_124 ∧ xw_r r54) (xw_if (r54 ≤ i6_124) (k159 s52)
     (xw_bn2 (f_MD_branches fu s52 c3_124) (fun s57 r59 => xw_grd (xw_r r59) (xw_if (r59 = 0) (xw_bn2 (f_MD_op fu s57 c1_124 (c2_124 + i6_124)) (fun s62 r64 => xw_bnd (f_MD_emit fu s62 r64) (fun s65 => xw_let (i6_124 + 1) (fun v68 => lp_MD_emitOne_124 fu c1_124 c2_124 c3_124 k159 n s65 v68))))
     (k159 s57))))))
def f_MD_emitOne (fu : Nat) (s0 : xw_S) (p1 : Int) (p2 : Int) : Option xw_S :=
 xw_bn2 (f_MD_op fu s0 p1 p2) (fun s1 r3 => xw_bn2 (f_MD_branches fu s1 r3) (fun s4 r6 => xw_jn (fun (s14 : xw_S) (i3_36 : Int) (t0_36 : Int) => xw_grd ((0 ≤ p2 ∧ p2 < ((121 : Nat) : Int))) (xw_jn (fun (s23 : xw_S) (i3_64 : Int) (i4_64 : Int) (t0_64 : Int) => xw_grd ((0 ≤ p2 ∧ p2 < ((121 : Nat) : Int))) (xw_jn (fun (s27 : xw_S) (i3_84 : Int) (i4_84 : Int) (i5_84 : Int) (t0_84 : Int) => xw_bnd (f_MD_emit fu s27 t0_84) (fun s28 => xw_bn2 (f_MD_branches fu s28 i3_84) (fun s31 r33 => xw_jn (fun (s41 : xw_S) (i3_108 : Int) (i4_108 : Int) => xw_bn2 (f_MD_branches fu s41 i3_108) (fun s42 r44 => xw_jn (fun (s50 : xw_S) (i3_121 : Int) => xw_jn (fun (s70 : xw_S) => some s70)
 (fun (k159 : xw_S → Option xw_S) => lp_MD_emitOne_124 fu p1 p2 i3_121 k159 fu s50 1))
 (fun (j121 : xw_S → Int → Option xw_S) => xw_grd (xw_r r44) (xw_if (r44 = 0) (j121 s42 i3_108)
 (xw_bnd (f_MD_emit fu s42 i4_108) (fun s47 => j121 s47 i3_108))))))
 (fun (j108 : xw_S → Int → Int → Option xw_S) => xw_grd (xw_r r33) (xw_if (r33 = 0) (j108 s31 i3_84 i4_84)
 (xw_grd (xw_r i5_84) (xw_if (i5_84 = 0) (j108 s31 i3_84 i4_84)
 (xw_bnd (f_MD_emit fu s31 (xw_hr i4_84 8)) (fun s38 => j108 s38 i3_84 i4_84)))))))))
 (fun (j84 : xw_S → Int → Int → Int → Int → Option xw_S) => xw_grd (xw_r (s23.1 18 (p2).toNat)) (xw_if (s23.1 18 (p2).toNat = 0) (j84 s23 i3_64 i4_64 t0_64 i3_64)
 (j84 s23 i3_64 i4_64 t0_64 (i3_64 + 10))))))
 (fun (j64 : xw_S → Int → Int → Int → Option xw_S) => xw_jn (fun (s22 : xw_S) (i3_59 : Int) (i4_59 : Int) => j64 s22 i3_59 i4_59 1)
 (fun (j59 : xw_S → Int → Int → Option xw_S) => xw_grd (xw_r (s14.1 18 (p2).toNat)) (xw_if (s14.1 18 (p2).toNat = 0) (xw_jn (fun (s21 : xw_S) (i3_63 : Int) (i4_63 : Int) => j64 s21 i3_63 i4_63 0)
 (fun (j63 : xw_S → Int → Int → Option xw_S) => xw_grd (xw_r i3_36) (xw_if (i3_36 < 20) (j63 s14 i3_36 t0_36)
 (xw_if (22 < i3_36) (j63 s14 i3_36 t0_36)
 (j59 s14 i3_36 t0_36)))))
 (j59 s14 i3_36 t0_36))))))
 (fun (j36 : xw_S → Int → Int → Option xw_S) => xw_grd (xw_r r6) (xw_if (r6 = 0) (j36 s4 r3 0)
 (xw_bn2 (f_MD_target fu s4 p1 p2) (fun s9 r11 => xw_grd ((0 ≤ r11 ∧ r11 < ((121 : Nat) : Int))) (xw_grd ((0 ≤ p2 ∧ p2 < ((121 : Nat) : Int))) (j36 s9 r3 ((s9.1 19 (r11).toNat) - (s9.1 20 (p2).toNat))))))))))
set_option maxRecDepth 100000 in
set_option maxHeartbeats 4000000 in
theorem c_MD_emitOne (l : Launch) (D : va_G) (A : Nat → Prop) (ad : Nat → Nat) (cs : Nat → ClassId) (Z : va_W) (tt : Nat → Nat) (fu : Nat) (s0 sZ : xw_S) (p1 : Int) (p2 : Int) (h : f_MD_emitOne fu s0 p1 p2 = some sZ) : Met l y_MD_emitOne w_MD_emitOne ({ frames := 2, cells := 0, slots := 0, locals := 44 }) (va_Pc [.ref (ad 0), .int (xw_i p1), .int (xw_i p2)] (xw_H D vwCl A kdR 29 ad cs Z tt s0)) (va_Qv (fun u => u = sZ) (xw_H D vwCl A kdR 29 ad cs Z tt) A) 0 0 A := by
  refine Met.ofW (cc := b_MD_emitOne) (maxL := 7) (ret := none) (by decide) rfl ?_
  intro p e s m args below meth c s₁ B hml hv
  obtain ⟨rfl, hP, hK, hD, hX⟩ := hv
  have hx := B.exec
  have hb := B.bytes
  have hr := B.returns
  have hts0 := atoms_spec (ws := w_MD_emitOne) B.pre
  have hts := fun w (hw : w ∈ wAll) => hts0 w (List.mem_cons_of_mem _ hw)
  have hown : s.vm.findClass "AdviceWeaverModel" = some m.cls := findClass_of_methodNamed B.named
  have hlk := B.notSynchronized
  clear hts0 B
  have hS : va_S A s.heap s.heap [] := va_S.rf
  have hl := lv_entry [.ref (ad 0), .int (xw_i p1), .int (xw_i p2)] (n := 7) (Nat.le_of_ble_eq_true rfl)
  rw [lg_entry_eq]
  generalize (lg_sl [.ref (ad 0), .int (xw_i p1), .int (xw_i p2)] ++ List.replicate (7 - (lg_sl [.ref (ad 0), .int (xw_i p1), .int (xw_i p2)]).length) Slot.unset).toArray = ls at hl ⊢
  have hl : lv_has ls 7 [(0, .ref (ad 0)), (1, .int (xw_i p1)), (2, .int (xw_i p2))] := hl
  have hlp124 : ∀ (c1_124 : Int) (c2_124 : Int) (c3_124 : Int) (k159 : xw_S → Option xw_S) (hk159 : ∀ (sq : xw_S), k159 sq = some sZ → ∀ (H : Heap) (locs : List Loc) (ls : Array Slot), va_P D vwCl (xw_ws kdR 29 ad cs Z sq) H → va_S A s.heap H locs → lv_has ls 7 [] → W p l e (headSpec w_MD_emitOne ({ frames := 2, cells := 0, slots := 0, locals := 44 })).room s m [.ref (ad 0), .int (xw_i p1), .int (xw_i p2)].toArray below meth c H locs 0 0 (MQ below (va_Qv (fun u => u = sZ) (xw_H D vwCl A kdR 29 ad cs Z tt) A) [.ref (ad 0), .int (xw_i p1), .int (xw_i p2)].toArray s 0 0 A) (F0 m 159 ls [])) (n : Nat), ∀ (sq : xw_S) (i6_124 : Int), lp_MD_emitOne_124 fu c1_124 c2_124 c3_124 k159 n sq i6_124 = some sZ → ∀ (H : Heap) (locs : List Loc) (ls : Array Slot), va_P D vwCl (xw_ws kdR 29 ad cs Z sq) H → va_S A s.heap H locs → lv_has ls 7 [(0, .ref (ad 0)), (1, .int (xw_i c1_124)), (2, .int (xw_i c2_124)), (3, .int (xw_i c3_124)), (6, .int (xw_i i6_124))] → W p l e (headSpec w_MD_emitOne ({ frames := 2, cells := 0, slots := 0, locals := 44 })).room s m [.ref (ad 0), .int (xw_i p1), .int (xw_i p2)].toArray below meth c H locs 0 0 (MQ below (va_Qv (fun u => u = sZ) (xw_H D vwCl A kdR 29 ad cs Z tt) A) [.ref (ad 0), .int (xw_i p1), .int (xw_i p2)].toArray s 0 0 A) (F0 m 124 ls []) := by
    intro c1_124 c2_124 c3_124 k159 hk159 n
    induction n with
    | zero =>
      intro sq i6_124 h
      cases (show (none : Option xw_S) = some sZ from h)
    | succ n ih124 =>
      intro s51 i6_124 h H locs ls hP hS hl
      unfold lp_MD_emitOne_124 at h
      refine lv_iload hx hb d_MD_emitOne_124 (lv_at hl 4 rfl) ?_
      refine lv_iload_n hx hb d_MD_emitOne_126 rfl (lv_at hl 3 rfl) ?_
      obtain ⟨s52, r54, hc53, h⟩ := xw_bn2I h
      refine xw_callSi ⟨hx, hb, hml, hown, hts⟩ (c_MD_sizeOf l D A ad cs Z tt fu s51 s52 c3_124 r54 hc53) (va_cwS 1 hts (gd_S hw_456 hw_457 hw_433 hw_458) rfl rfl rfl (by decide +kernel) ⟨Nat.le_of_ble_eq_true rfl, Nat.le_of_ble_eq_true rfl⟩) hP hK hD hX hS rfl hl.1 rfl (Nat.le_of_ble_eq_true rfl) d_MD_emitOne_127 (fun H locs hP hS => ?_)
      obtain ⟨hg55, h⟩ := xw_grdI h
      refine xw_icmp_ge (tgt := 159) hx hb hg55.1 hg55.2 d_MD_emitOne_130 (by decide) (fun hc56 => ?_) (fun hc56 => ?_)
      · replace h := xw_ifT hc56 h
        exact hk159 s52 h _ _ _ hP hS (lv_sub hl [] rfl)
      · replace h := xw_ifF hc56 h
        refine lv_iload_n hx hb d_MD_emitOne_133 rfl (lv_at hl 3 rfl) ?_
        obtain ⟨s57, r59, hc58, h⟩ := xw_bn2I h
        refine xw_callSi ⟨hx, hb, hml, hown, hts⟩ (c_MD_branches l D A ad cs Z tt fu s52 s57 c3_124 r59 hc58) (va_cwS 1 hts (gd_S hw_467 hw_468 hw_433 hw_469) rfl rfl rfl (by decide +kernel) ⟨Nat.le_of_ble_eq_true rfl, Nat.le_of_ble_eq_true rfl⟩) hP hK hD hX hS rfl hl.1 rfl (Nat.le_of_ble_eq_true rfl) d_MD_emitOne_134 (fun H locs hP hS => ?_)
        obtain ⟨hg60, h⟩ := xw_grdI h
        refine xw_if_ne (tgt := 159) hx hb hg60 d_MD_emitOne_137 (by decide) (fun hc61 => ?_) (fun hc61 => ?_)
        · replace h := xw_ifF hc61 h
          exact hk159 s57 h _ _ _ hP hS (lv_sub hl [] rfl)
        · replace h := xw_ifT hc61 h
          refine lv_aload_n hx hb d_MD_emitOne_140 rfl (lv_at hl 0 rfl) ?_
          refine lv_aload_n hx hb d_MD_emitOne_141 rfl (lv_at hl 0 rfl) ?_
          refine lv_iload_n hx hb d_MD_emitOne_142 rfl (lv_at hl 1 rfl) ?_
          refine lv_iload_n hx hb d_MD_emitOne_143 rfl (lv_at hl 2 rfl) ?_
          refine lv_iload hx hb d_MD_emitOne_144 (lv_at hl 4 rfl) ?_
          refine xw_iadd hx hb d_MD_emitOne_146 ?_
          obtain ⟨s62, r64, hc63, h⟩ := xw_bn2I h
          refine xw_callVi (C := "AdviceWeaverModel") (T := T_MD) ⟨hx, hb, hml, hown, hts⟩ (c_MD_op l D A ad cs Z tt fu s57 s62 c1_124 (c2_124 + i6_124) r64 hc63) (cwV 2 hts (gd_V hw_452 hw_453 hw_454 hw_433 hw_455) rfl rfl rfl (by decide +kernel) ⟨Nat.le_of_ble_eq_true rfl, Nat.le_of_ble_eq_true rfl⟩) hP hK hD hX hS (by decide) kr_MD (by decide) rfl rfl hl.1 rfl (Nat.le_of_ble_eq_true rfl) d_MD_emitOne_147 (fun H locs hP hS => ?_)
          obtain ⟨s65, hc66, h⟩ := xw_bndI h
          refine xw_callVv (C := "AdviceWeaverModel") (T := T_MD) ⟨hx, hb, hml, hown, hts⟩ (c_MD_emit l D A ad cs Z tt fu s62 s65 r64 hc66) (cwV 1 hts (gd_V hw_534 hw_535 hw_536 hw_433 hw_537) rfl rfl rfl (by decide +kernel) ⟨Nat.le_of_ble_eq_true rfl, Nat.le_of_ble_eq_true rfl⟩) hP hK hD hX hS (by decide) kr_MD (by decide) rfl rfl hl.1 rfl (Nat.le_of_ble_eq_true rfl) d_MD_emitOne_150 (fun H locs hP hS => ?_)
          obtain ⟨v68, e69⟩ : ∃ z, z = i6_124 + 1 := ⟨_, rfl⟩
          replace h := xw_letI e69 h
          refine xw_iinc (lv' := [(6, .int (xw_i v68)), (0, .ref (ad 0)), (1, .int (xw_i c1_124)), (2, .int (xw_i c2_124)), (3, .int (xw_i c3_124))]) hx hb d_MD_emitOne_153 hl (k := 4) rfl (by decide) (by rw [e69]; rfl) (fun ls hl => ?_)
          refine lv_goto (tgt := 124) hx hb d_MD_emitOne_156 (by decide) ?_
          exact ih124 s65 v68 h _ _ _ hP hS (lv_sub hl [1, 2, 3, 4, 0] rfl)
  unfold f_MD_emitOne at h
  refine lv_aload_n hx hb d_MD_emitOne_0 rfl (lv_at hl 0 rfl) ?_
  refine lv_iload_n hx hb d_MD_emitOne_1 rfl (lv_at hl 1 rfl) ?_
  refine lv_iload_n hx hb d_MD_emitOne_2 rfl (lv_at hl 2 rfl) ?_
  obtain ⟨s1, r3, hc2, h⟩ := xw_bn2I h
  refine xw_callVi (C := "AdviceWeaverModel") (T := T_MD) ⟨hx, hb, hml, hown, hts⟩ (c_MD_op l D A ad cs Z tt fu s0 s1 p1 p2 r3 hc2) (cwV 2 hts (gd_V hw_452 hw_453 hw_454 hw_433 hw_455) rfl rfl rfl (by decide +kernel) ⟨Nat.le_of_ble_eq_true rfl, Nat.le_of_ble_eq_true rfl⟩) hP hK hD hX hS (by decide) kr_MD (by decide) rfl rfl hl.1 rfl (Nat.le_of_ble_eq_true rfl) d_MD_emitOne_3 (fun H locs hP hS => ?_)
  refine lv_istore_n hx hb d_MD_emitOne_6 rfl hl (by decide) rfl (fun ls hl => ?_)
  refine lv_iload_n hx hb d_MD_emitOne_7 rfl (lv_at hl 0 rfl) ?_
  obtain ⟨s4, r6, hc5, h⟩ := xw_bn2I h
  refine xw_callSi ⟨hx, hb, hml, hown, hts⟩ (c_MD_branches l D A ad cs Z tt fu s1 s4 r3 r6 hc5) (va_cwS 1 hts (gd_S hw_467 hw_468 hw_433 hw_469) rfl rfl rfl (by decide +kernel) ⟨Nat.le_of_ble_eq_true rfl, Nat.le_of_ble_eq_true rfl⟩) hP hK hD hX hS rfl hl.1 rfl (Nat.le_of_ble_eq_true rfl) d_MD_emitOne_8 (fun H locs hP hS => ?_)
  refine xw_jnI (fun j => ∀ (sq : xw_S) (i3_36 : Int) (t0_36 : Int), j sq i3_36 t0_36 = some sZ → ∀ (H : Heap) (locs : List Loc) (ls : Array Slot), va_P D vwCl (xw_ws kdR 29 ad cs Z sq) H → va_S A s.heap H locs → lv_has ls 7 [(0, .ref (ad 0)), (1, .int (xw_i p1)), (2, .int (xw_i p2)), (3, .int (xw_i i3_36))] → W p l e (headSpec w_MD_emitOne ({ frames := 2, cells := 0, slots := 0, locals := 44 })).room s m [.ref (ad 0), .int (xw_i p1), .int (xw_i p2)].toArray below meth c H locs 0 0 (MQ below (va_Qv (fun u => u = sZ) (xw_H D vwCl A kdR 29 ad cs Z tt) A) [.ref (ad 0), .int (xw_i p1), .int (xw_i p2)].toArray s 0 0 A) (F0 m 36 ls [.int (xw_i t0_36)])) h ?_ ?_
  · intro s14 i3_36 t0_36 h H locs ls hP hS hl
    refine lv_istore hx hb d_MD_emitOne_36 hl (by decide) rfl (fun ls hl => ?_)
    refine lv_aload_n hx hb d_MD_emitOne_38 rfl (lv_at hl 1 rfl) ?_
    refine xw_getR (C := "AdviceWeaverModel") (T := T_MD) hx hb hts hin_MD hown hK hP (by decide) kr_MD (by decide) rfl 26 (by decide) (hts _ hw_531) (fun _ h9 => h9) rfl d_MD_emitOne_39 ?_
    refine lv_iload_n hx hb d_MD_emitOne_42 rfl (lv_at hl 3 rfl) ?_
    obtain ⟨hg15, h⟩ := xw_grdI h
    refine xw_zald hx hb hK hP (by decide) kr_m_wide (by decide) hg15 d_MD_emitOne_43 ?_
    refine xw_jnI (fun j => ∀ (sq : xw_S) (i3_64 : Int) (i4_64 : Int) (t0_64 : Int), j sq i3_64 i4_64 t0_64 = some sZ → ∀ (H : Heap) (locs : List Loc) (ls : Array Slot), va_P D vwCl (xw_ws kdR 29 ad cs Z sq) H → va_S A s.heap H locs → lv_has ls 7 [(0, .ref (ad 0)), (1, .int (xw_i p1)), (2, .int (xw_i p2)), (3, .int (xw_i i3_64)), (4, .int (xw_i i4_64))] → W p l e (headSpec w_MD_emitOne ({ frames := 2, cells := 0, slots := 0, locals := 44 })).room s m [.ref (ad 0), .int (xw_i p1), .int (xw_i p2)].toArray below meth c H locs 0 0 (MQ below (va_Qv (fun u => u = sZ) (xw_H D vwCl A kdR 29 ad cs Z tt) A) [.ref (ad 0), .int (xw_i p1), .int (xw_i p2)].toArray s 0 0 A) (F0 m 64 ls [.int (xw_i t0_64)])) h ?_ ?_
    · intro s23 i3_64 i4_64 t0_64 h H locs ls hP hS hl
      refine lv_istore hx hb d_MD_emitOne_64 hl (by decide) rfl (fun ls hl => ?_)
      refine lv_aload_n hx hb d_MD_emitOne_66 rfl (lv_at hl 1 rfl) ?_
      refine lv_aload_n hx hb d_MD_emitOne_67 rfl (lv_at hl 1 rfl) ?_
      refine xw_getR (C := "AdviceWeaverModel") (T := T_MD) hx hb hts hin_MD hown hK hP (by decide) kr_MD (by decide) rfl 26 (by decide) (hts _ hw_531) (fun _ h9 => h9) rfl d_MD_emitOne_68 ?_
      refine lv_iload_n hx hb d_MD_emitOne_71 rfl (lv_at hl 3 rfl) ?_
      obtain ⟨hg24, h⟩ := xw_grdI h
      refine xw_zald hx hb hK hP (by decide) kr_m_wide (by decide) hg24 d_MD_emitOne_72 ?_
      refine xw_jnI (fun j => ∀ (sq : xw_S) (i3_84 : Int) (i4_84 : Int) (i5_84 : Int) (t0_84 : Int), j sq i3_84 i4_84 i5_84 t0_84 = some sZ → ∀ (H : Heap) (locs : List Loc) (ls : Array Slot), va_P D vwCl (xw_ws kdR 29 ad cs Z sq) H → va_S A s.heap H locs → lv_has ls 7 [(0, .ref (ad 0)), (1, .int (xw_i p1)), (2, .int (xw_i p2)), (3, .int (xw_i i3_84)), (4, .int (xw_i i4_84)), (5, .int (xw_i i5_84))] → W p l e (headSpec w_MD_emitOne ({ frames := 2, cells := 0, slots := 0, locals := 44 })).room s m [.ref (ad 0), .int (xw_i p1), .int (xw_i p2)].toArray below meth c H locs 0 0 (MQ below (va_Qv (fun u => u = sZ) (xw_H D vwCl A kdR 29 ad cs Z tt) A) [.ref (ad 0), .int (xw_i p1), .int (xw_i p2)].toArray s 0 0 A) (F0 m 84 ls [.int (xw_i t0_84), .ref (ad 0)])) h ?_ ?_
      · intro s27 i3_84 i4_84 i5_84 t0_84 h H locs ls hP hS hl
        obtain ⟨s28, hc29, h⟩ := xw_bndI h
        refine xw_callVv (C := "AdviceWeaverModel") (T := T_MD) ⟨hx, hb, hml, hown, hts⟩ (c_MD_emit l D A ad cs Z tt fu s27 s28 t0_84 hc29) (cwV 1 hts (gd_V hw_534 hw_535 hw_536 hw_433 hw_537) rfl rfl rfl (by decide +kernel) ⟨Nat.le_of_ble_eq_true rfl, Nat.le_of_ble_eq_true rfl⟩) hP hK hD hX hS (by decide) kr_MD (by decide) rfl rfl hl.1 rfl (Nat.le_of_ble_eq_true rfl) d_MD_emitOne_84 (fun H locs hP hS => ?_)
        refine lv_iload_n hx hb d_MD_emitOne_87 rfl (lv_at hl 3 rfl) ?_
        obtain ⟨s31, r33, hc32, h⟩ := xw_bn2I h
        refine xw_callSi ⟨hx, hb, hml, hown, hts⟩ (c_MD_branches l D A ad cs Z tt fu s28 s31 i3_84 r33 hc32) (va_cwS 1 hts (gd_S hw_467 hw_468 hw_433 hw_469) rfl rfl rfl (by decide +kernel) ⟨Nat.le_of_ble_eq_true rfl, Nat.le_of_ble_eq_true rfl⟩) hP hK hD hX hS rfl hl.1 rfl (Nat.le_of_ble_eq_true rfl) d_MD_emitOne_88 (fun H locs hP hS => ?_)
        refine xw_jnI (fun j => ∀ (sq : xw_S) (i3_108 : Int) (i4_108 : Int), j sq i3_108 i4_108 = some sZ → ∀ (H : Heap) (locs : List Loc) (ls : Array Slot), va_P D vwCl (xw_ws kdR 29 ad cs Z sq) H → va_S A s.heap H locs → lv_has ls 7 [(0, .ref (ad 0)), (1, .int (xw_i p1)), (2, .int (xw_i p2)), (3, .int (xw_i i3_108)), (4, .int (xw_i i4_108))] → W p l e (headSpec w_MD_emitOne ({ frames := 2, cells := 0, slots := 0, locals := 44 })).room s m [.ref (ad 0), .int (xw_i p1), .int (xw_i p2)].toArray below meth c H locs 0 0 (MQ below (va_Qv (fun u => u = sZ) (xw_H D vwCl A kdR 29 ad cs Z tt) A) [.ref (ad 0), .int (xw_i p1), .int (xw_i p2)].toArray s 0 0 A) (F0 m 108 ls [])) h ?_ ?_
        · intro s41 i3_108 i4_108 h H locs ls hP hS hl
          refine lv_iload_n hx hb d_MD_emitOne_108 rfl (lv_at hl 3 rfl) ?_
          obtain ⟨s42, r44, hc43, h⟩ := xw_bn2I h
          refine xw_callSi ⟨hx, hb, hml, hown, hts⟩ (c_MD_branches l D A ad cs Z tt fu s41 s42 i3_108 r44 hc43) (va_cwS 1 hts (gd_S hw_467 hw_468 hw_433 hw_469) rfl rfl rfl (by decide +kernel) ⟨Nat.le_of_ble_eq_true rfl, Nat.le_of_ble_eq_true rfl⟩) hP hK hD hX hS rfl hl.1 rfl (Nat.le_of_ble_eq_true rfl) d_MD_emitOne_109 (fun H locs hP hS => ?_)
          refine xw_jnI (fun j => ∀ (sq : xw_S) (i3_121 : Int), j sq i3_121 = some sZ → ∀ (H : Heap) (locs : List Loc) (ls : Array Slot), va_P D vwCl (xw_ws kdR 29 ad cs Z sq) H → va_S A s.heap H locs → lv_has ls 7 [(0, .ref (ad 0)), (1, .int (xw_i p1)), (2, .int (xw_i p2)), (3, .int (xw_i i3_121))] → W p l e (headSpec w_MD_emitOne ({ frames := 2, cells := 0, slots := 0, locals := 44 })).room s m [.ref (ad 0), .int (xw_i p1), .int (xw_i p2)].toArray below meth c H locs 0 0 (MQ below (va_Qv (fun u => u = sZ) (xw_H D vwCl A kdR 29 ad cs Z tt) A) [.ref (ad 0), .int (xw_i p1), .int (xw_i p2)].toArray s 0 0 A) (F0 m 121 ls [])) h ?_ ?_
          · intro s50 i3_121 h H locs ls hP hS hl
            refine lv_iconst (v := xw_i 1) hx hb d_MD_emitOne_121 rfl ?_
            refine lv_istore hx hb d_MD_emitOne_122 hl (by decide) rfl (fun ls hl => ?_)
            refine xw_jnI (fun j => ∀ (sq : xw_S), j sq = some sZ → ∀ (H : Heap) (locs : List Loc) (ls : Array Slot), va_P D vwCl (xw_ws kdR 29 ad cs Z sq) H → va_S A s.heap H locs → lv_has ls 7 [] → W p l e (headSpec w_MD_emitOne ({ frames := 2, cells := 0, slots := 0, locals := 44 })).room s m [.ref (ad 0), .int (xw_i p1), .int (xw_i p2)].toArray below meth c H locs 0 0 (MQ below (va_Qv (fun u => u = sZ) (xw_H D vwCl A kdR 29 ad cs Z tt) A) [.ref (ad 0), .int (xw_i p1), .int (xw_i p2)].toArray s 0 0 A) (F0 m 159 ls [])) h ?_ ?_
            · intro s70 h H locs ls hP hS hl
              cases h
              exact xw_vret hx hb hr hlk hP hK hD hX hS d_MD_emitOne_159
            · intro k159 hk159 h
              exact hlp124 p1 p2 i3_121 k159 hk159 fu s50 1 h _ _ _ hP hS (lv_sub hl [1, 2, 3, 4, 0] rfl)
          · intro j121 hj121 h
            obtain ⟨hg45, h⟩ := xw_grdI h
            refine xw_if_eq (tgt := 121) hx hb hg45 d_MD_emitOne_112 (by decide) (fun hc46 => ?_) (fun hc46 => ?_)
            · replace h := xw_ifT hc46 h
              exact hj121 s42 i3_108 h _ _ _ hP hS (lv_sub hl [0, 1, 2, 3] rfl)
            · replace h := xw_ifF hc46 h
              refine lv_aload_n hx hb d_MD_emitOne_115 rfl (lv_at hl 0 rfl) ?_
              refine lv_iload hx hb d_MD_emitOne_116 (lv_at hl 4 rfl) ?_
              obtain ⟨s47, hc48, h⟩ := xw_bndI h
              refine xw_callVv (C := "AdviceWeaverModel") (T := T_MD) ⟨hx, hb, hml, hown, hts⟩ (c_MD_emit l D A ad cs Z tt fu s42 s47 i4_108 hc48) (cwV 1 hts (gd_V hw_534 hw_535 hw_536 hw_433 hw_537) rfl rfl rfl (by decide +kernel) ⟨Nat.le_of_ble_eq_true rfl, Nat.le_of_ble_eq_true rfl⟩) hP hK hD hX hS (by decide) kr_MD (by decide) rfl rfl hl.1 rfl (Nat.le_of_ble_eq_true rfl) d_MD_emitOne_118 (fun H locs hP hS => ?_)
              exact hj121 s47 i3_108 h _ _ _ hP hS (lv_sub hl [0, 1, 2, 3] rfl)
        · intro j108 hj108 h
          obtain ⟨hg34, h⟩ := xw_grdI h
          refine xw_if_eq (tgt := 108) hx hb hg34 d_MD_emitOne_91 (by decide) (fun hc35 => ?_) (fun hc35 => ?_)
          · replace h := xw_ifT hc35 h
            exact hj108 s31 i3_84 i4_84 h _ _ _ hP hS (lv_sub hl [0, 1, 2, 3, 4] rfl)
          · replace h := xw_ifF hc35 h
            refine lv_iload hx hb d_MD_emitOne_94 (lv_at hl 5 rfl) ?_
            obtain ⟨hg36, h⟩ := xw_grdI h
            refine xw_if_eq (tgt := 108) hx hb hg36 d_MD_emitOne_96 (by decide) (fun hc37 => ?_) (fun hc37 => ?_)
            · replace h := xw_ifT hc37 h
              exact hj108 s31 i3_84 i4_84 h _ _ _ hP hS (lv_sub hl [0, 1, 2, 3, 4] rfl)
            · replace h := xw_ifF hc37 h
              refine lv_aload_n hx hb d_MD_emitOne_99 rfl (lv_at hl 0 rfl) ?_
              refine lv_iload hx hb d_MD_emitOne_100 (lv_at hl 4 rfl) ?_
              refine lv_bipush (v := xw_i 8) hx hb d_MD_emitOne_102 (by decide) ?_
              refine xw_ishr hx hb d_MD_emitOne_104 ?_
              obtain ⟨s38, hc39, h⟩ := xw_bndI h
              refine xw_callVv (C := "AdviceWeaverModel") (T := T_MD) ⟨hx, hb, hml, hown, hts⟩ (c_MD_emit l D A ad cs Z tt fu s31 s38 (xw_hr i4_84 8) hc39) (cwV 1 hts (gd_V hw_534 hw_535 hw_536 hw_433 hw_537) rfl rfl rfl (by decide +kernel) ⟨Nat.le_of_ble_eq_true rfl, Nat.le_of_ble_eq_true rfl⟩) hP hK hD hX hS (by decide) kr_MD (by decide) rfl rfl hl.1 rfl (Nat.le_of_ble_eq_true rfl) d_MD_emitOne_105 (fun H locs hP hS => ?_)
              exact hj108 s38 i3_84 i4_84 h _ _ _ hP hS (lv_sub hl [0, 1, 2, 3, 4] rfl)
      · intro j84 hj84 h
        obtain ⟨hg25, h⟩ := xw_grdI h
        refine xw_if_eq (tgt := 83) hx hb hg25 d_MD_emitOne_73 (by decide) (fun hc26 => ?_) (fun hc26 => ?_)
        · replace h := xw_ifT hc26 h
          refine lv_iload_n hx hb d_MD_emitOne_83 rfl (lv_at hl 4 rfl) ?_
          exact hj84 s23 i3_64 i4_64 t0_64 i3_64 h _ _ _ hP hS (lv_sub hl [1, 2, 3, 4, 5, 0] rfl)
        · replace h := xw_ifF hc26 h
          refine lv_iload_n hx hb d_MD_emitOne_76 rfl (lv_at hl 4 rfl) ?_
          refine lv_bipush (v := xw_i 10) hx hb d_MD_emitOne_77 (by decide) ?_
          refine xw_iadd hx hb d_MD_emitOne_79 ?_
          refine lv_goto (tgt := 84) hx hb d_MD_emitOne_80 (by decide) ?_
          exact hj84 s23 i3_64 i4_64 t0_64 (i3_64 + 10) h _ _ _ hP hS (lv_sub hl [1, 2, 3, 4, 5, 0] rfl)
    · intro j64 hj64 h
      refine xw_jnI (fun j => ∀ (sq : xw_S) (i3_59 : Int) (i4_59 : Int), j sq i3_59 i4_59 = some sZ → ∀ (H : Heap) (locs : List Loc) (ls : Array Slot), va_P D vwCl (xw_ws kdR 29 ad cs Z sq) H → va_S A s.heap H locs → lv_has ls 7 [(0, .ref (ad 0)), (1, .int (xw_i p1)), (2, .int (xw_i p2)), (3, .int (xw_i i3_59)), (4, .int (xw_i i4_59))] → W p l e (headSpec w_MD_emitOne ({ frames := 2, cells := 0, slots := 0, locals := 44 })).room s m [.ref (ad 0), .int (xw_i p1), .int (xw_i p2)].toArray below meth c H locs 0 0 (MQ below (va_Qv (fun u => u = sZ) (xw_H D vwCl A kdR 29 ad cs Z tt) A) [.ref (ad 0), .int (xw_i p1), .int (xw_i p2)].toArray s 0 0 A) (F0 m 59 ls [])) h ?_ ?_
      · intro s22 i3_59 i4_59 h H locs ls hP hS hl
        refine lv_iconst (v := xw_i 1) hx hb d_MD_emitOne_59 rfl ?_
        refine lv_goto (tgt := 64) hx hb d_MD_emitOne_60 (by decide) ?_
        exact hj64 s22 i3_59 i4_59 1 h _ _ _ hP hS (lv_sub hl [0, 1, 2, 3, 4] rfl)
      · intro j59 hj59 h
        obtain ⟨hg16, h⟩ := xw_grdI h
        refine xw_if_ne (tgt := 59) hx hb hg16 d_MD_emitOne_44 (by decide) (fun hc17 => ?_) (fun hc17 => ?_)
        · replace h := xw_ifF hc17 h
          exact hj59 s14 i3_36 t0_36 h _ _ _ hP hS (lv_sub hl [1, 2, 3, 4, 0] rfl)
        · replace h := xw_ifT hc17 h
          refine lv_iload_n hx hb d_MD_emitOne_47 rfl (lv_at hl 4 rfl) ?_
          refine lv_bipush (v := xw_i 20) hx hb d_MD_emitOne_48 (by decide) ?_
          refine xw_jnI (fun j => ∀ (sq : xw_S) (i3_63 : Int) (i4_63 : Int), j sq i3_63 i4_63 = some sZ → ∀ (H : Heap) (locs : List Loc) (ls : Array Slot), va_P D vwCl (xw_ws kdR 29 ad cs Z sq) H → va_S A s.heap H locs → lv_has ls 7 [(0, .ref (ad 0)), (1, .int (xw_i p1)), (2, .int (xw_i p2)), (3, .int (xw_i i3_63)), (4, .int (xw_i i4_63))] → W p l e (headSpec w_MD_emitOne ({ frames := 2, cells := 0, slots := 0, locals := 44 })).room s m [.ref (ad 0), .int (xw_i p1), .int (xw_i p2)].toArray below meth c H locs 0 0 (MQ below (va_Qv (fun u => u = sZ) (xw_H D vwCl A kdR 29 ad cs Z tt) A) [.ref (ad 0), .int (xw_i p1), .int (xw_i p2)].toArray s 0 0 A) (F0 m 63 ls [])) h ?_ ?_
          · intro s21 i3_63 i4_63 h H locs ls hP hS hl
            refine lv_iconst (v := xw_i 0) hx hb d_MD_emitOne_63 rfl ?_
            exact hj64 s21 i3_63 i4_63 0 h _ _ _ hP hS (lv_sub hl [0, 1, 2, 3, 4] rfl)
          · intro j63 hj63 h
            obtain ⟨hg18, h⟩ := xw_grdI h
            refine xw_icmp_lt (tgt := 63) hx hb hg18 (by decide) d_MD_emitOne_50 (by decide) (fun hc19 => ?_) (fun hc19 => ?_)
            · replace h := xw_ifT hc19 h
              exact hj63 s14 i3_36 t0_36 h _ _ _ hP hS (lv_sub hl [1, 2, 3, 4, 0] rfl)
            · replace h := xw_ifF hc19 h
              refine lv_iload_n hx hb d_MD_emitOne_53 rfl (lv_at hl 4 rfl) ?_
              refine lv_bipush (v := xw_i 22) hx hb d_MD_emitOne_54 (by decide) ?_
              refine xw_icmp_gt (tgt := 63) hx hb hg18 (by decide) d_MD_emitOne_56 (by decide) (fun hc20 => ?_) (fun hc20 => ?_)
              · replace h := xw_ifT hc20 h
                exact hj63 s14 i3_36 t0_36 h _ _ _ hP hS (lv_sub hl [1, 2, 3, 4, 0] rfl)
              · replace h := xw_ifF hc20 h
                exact hj59 s14 i3_36 t0_36 h _ _ _ hP hS (lv_sub hl [1, 2, 3, 4, 0] rfl)
  · intro j36 hj36 h
    obtain ⟨hg7, h⟩ := xw_grdI h
    refine xw_if_eq (tgt := 35) hx hb hg7 d_MD_emitOne_11 (by decide) (fun hc8 => ?_) (fun hc8 => ?_)
    · replace h := xw_ifT hc8 h
      refine lv_iconst (v := xw_i 0) hx hb d_MD_emitOne_35 rfl ?_
      exact hj36 s4 r3 0 h _ _ _ hP hS (lv_sub hl [1, 2, 3, 0] rfl)
    · replace h := xw_ifF hc8 h
      refine lv_aload_n hx hb d_MD_emitOne_14 rfl (lv_at hl 1 rfl) ?_
      refine xw_getR (C := "AdviceWeaverModel") (T := T_MD) hx hb hts hin_MD hown hK hP (by decide) kr_MD (by decide) rfl 27 (by decide) (hts _ hw_529) (fun _ h9 => h9) rfl d_MD_emitOne_15 ?_
      refine lv_aload_n hx hb d_MD_emitOne_18 rfl (lv_at hl 1 rfl) ?_
      refine lv_iload_n hx hb d_MD_emitOne_19 rfl (lv_at hl 2 rfl) ?_
      refine lv_iload_n hx hb d_MD_emitOne_20 rfl (lv_at hl 3 rfl) ?_
      obtain ⟨s9, r11, hc10, h⟩ := xw_bn2I h
      refine xw_callVi (C := "AdviceWeaverModel") (T := T_MD) ⟨hx, hb, hml, hown, hts⟩ (c_MD_target l D A ad cs Z tt fu s4 s9 p1 p2 r11 hc10) (cwV 2 hts (gd_V hw_470 hw_471 hw_472 hw_433 hw_473) rfl rfl rfl (by decide +kernel) ⟨Nat.le_of_ble_eq_true rfl, Nat.le_of_ble_eq_true rfl⟩) hP hK hD hX hS (by decide) kr_MD (by decide) rfl rfl hl.1 rfl (Nat.le_of_ble_eq_true rfl) d_MD_emitOne_21 (fun H locs hP hS => ?_)
      obtain ⟨hg12, h⟩ := xw_grdI h
      refine xw_iald hx hb hK hP (by decide) kr_m_lead (by decide) hg12 d_MD_emitOne_24 ?_
      refine lv_aload_n hx hb d_MD_emitOne_25 rfl (lv_at hl 1 rfl) ?_
      refine xw_getR (C := "AdviceWeaverModel") (T := T_MD) hx hb hts hin_MD hown hK hP (by decide) kr_MD (by decide) rfl 28 (by decide) (hts _ hw_530) (fun _ h9 => h9) rfl d_MD_emitOne_26 ?_
      refine lv_iload_n hx hb d_MD_emitOne_29 rfl (lv_at hl 3 rfl) ?_
      obtain ⟨hg13, h⟩ := xw_grdI h
      refine xw_iald hx hb hK hP (by decide) kr_m_own (by decide) hg13 d_MD_emitOne_30 ?_
      refine xw_isub hx hb d_MD_emitOne_31 ?_
      refine lv_goto (tgt := 36) hx hb d_MD_emitOne_32 (by decide) ?_
      exact hj36 s9 r3 ((s9.1 19 (r11).toNat) - (s9.1 20 (p2).toNat)) h _ _ _ hP hS (lv_sub hl [1, 2, 3, 0] rfl)
def lp_MD_transform_19 (fu : Nat) (c1_19 : Int) (c2_19 : Int) (k38 : xw_S → Option (xw_S × Int)) : Nat → xw_S → Int → Option (xw_S × Int)
  | 0, _, _ => none
  | n + 1, s8, i3_19 =>
    xw_grd (xw_r i3_19) (xw_if (120 < i3_19) (k38 s8)
     (xw_grd ((0 ≤ i3_19 ∧ i3_19 < ((121 : Nat) : Int))) (xw_let (xw_st s8 18 (i3_19).toNat 0) (fun s12 => xw_let (i3_19 + 1) (fun v14 => lp_MD_transform_19 fu c1_19 c2_19 k38 n s12 v14)))))
def lp_MD_transform_40 (fu : Nat) (c1_40 : Int) (c2_40 : Int) (k67 : xw_S → Option (xw_S × Int)) : Nat → xw_S → Int → Option (xw_S × Int)
  | 0, _, _ => none
  | n + 1, s17, i3_40 =>
    xw_grd (xw_r i3_40) (xw_if (i3_40 = 0) (k67 s17)
     (xw_grd ((0 ≤ c2_40 ∧ c2_40 < ((3 : Nat) : Int))) (xw_jn (fun (s23 : xw_S) (t0_60 : Int) (t1_60 : Int) => xw_bn2 (f_MD_lay fu s23 t1_60 t0_60) (fun s24 r26 => lp_MD_transform_40 fu c1_40 c2_40 k67 n s24 r26))
     (fun (j60 : xw_S → Int → Int → Option (xw_S × Int)) => xw_grd (xw_r (s17.1 10 (c2_40).toNat)) (xw_if (s17.1 10 (c2_40).toNat = 0) (j60 s17 2 c1_40)
     (j60 s17 0 c1_40))))))
def lp_MD_transform_156 (fu : Nat) (c1_156 : Int) (c2_156 : Int) (c4_156 : Int) (k256 : xw_S → Int → Option (xw_S × Int)) : Nat → xw_S → Int → Int → Option (xw_S × Int)
  | 0, _, _, _ => none
  | n + 1, s57, i5_156, i6_156 =>
    xw_grd ((0 ≤ c1_156 ∧ c1_156 < ((12 : Nat) : Int))) (xw_grd (xw_r i6_156 ∧ xw_r (s57.1 6 (c1_156).toNat)) (xw_if (s57.1 6 (c1_156).toNat ≤ i6_156) (k256 s57 c4_156)
     (xw_grd ((0 ≤ i6_156 ∧ i6_156 < ((121 : Nat) : Int))) (xw_jn (fun (s82 : xw_S) (i5_233 : Int) (i6_233 : Int) => xw_grd ((0 ≤ i6_233 ∧ i6_233 < ((121 : Nat) : Int))) (xw_jn (fun (s89 : xw_S) (i5_250 : Int) (i6_250 : Int) => xw_let (i6_250 + 1) (fun v90 => lp_MD_transform_156 fu c1_156 c2_156 c4_156 k256 n s89 i5_250 v90))
     (fun (j250 : xw_S → Int → Int → Option (xw_S × Int)) => xw_grd (xw_r (s82.1 14 (i6_233).toNat)) (xw_if (s82.1 14 (i6_233).toNat = 0) (j250 s82 i5_233 i6_233)
     (xw_bnd (f_MD_emitOne fu s82 c1_156 i6_233) (fun s86 => j250 s86 i5_233 i6_233))))))
     (fun (j233 : xw_S → Int → Int → Option (xw_S × Int)) => xw_grd (xw_r (s57.1 14 (i6_156).toNat)) (xw_if (s57.1 14 (i6_156).toNat = 0) (j233 s57 i5_156 i6_156)
     (xw_grd (xw_r (s57.1 17 (i6_156).toNat)) (xw_if (s57.1 17 (i6_156).toNat = 0) (j233 s57 i5_156 i6_156)
     (xw_grd ((0 ≤ c2_156 ∧ c2_156 < ((3 : Nat) : Int))) (xw_jn (fun (s69 : xw_S) (i5_204 : Int) (i6_204 : Int) (t0_204 : Int) => xw_bnd (f_MD_emit fu s69 t0_204) (fun s70 => xw_grd ((0 ≤ c2_156 ∧ c2_156 < ((3 : Nat) : Int))) (xw_jn (fun (s76 : xw_S) (i5_227 : Int) (i6_227 : Int) (t0_227 : Int) => xw_bnd (f_MD_emit fu s76 t0_227) (fun s77 => xw_let (i5_227 + 1) (fun v80 => j233 s77 v80 i6_227)))
     (fun (j227 : xw_S → Int → Int → Int → Option (xw_S × Int)) => xw_grd (xw_r (s70.1 10 (c2_156).toNat)) (xw_if (s70.1 10 (c2_156).toNat = 0) (j227 s70 i5_204 i6_204 ((3 * c2_156) + 1))
     (j227 s70 i5_204 i6_204 i5_204))))))
     (fun (j204 : xw_S → Int → Int → Int → Option (xw_S × Int)) => xw_grd (xw_r (s57.1 10 (c2_156).toNat)) (xw_if (s57.1 10 (c2_156).toNat = 0) (j204 s57 i5_156 i6_156 30)
     (j204 s57 i5_156 i6_156 31)))))))))))))
def lp_MD_transform_259 (fu : Nat) (c1_259 : Int) (c2_259 : Int) (c4_259 : Int) (k330 : xw_S → Int → Option (xw_S × Int)) : Nat → xw_S → Int → Option (xw_S × Int)
  | 0, _, _ => none
  | n + 1, s93, i6_259 =>
    xw_grd ((0 ≤ c1_259 ∧ c1_259 < ((12 : Nat) : Int))) (xw_grd (xw_r i6_259 ∧ xw_r (4 * (s93.1 8 (c1_259).toNat))) (xw_if (4 * (s93.1 8 (c1_259).toNat) ≤ i6_259) (k330 s93 c4_259)
     (xw_jn (fun (s102 : xw_S) (i6_323 : Int) (t0_323 : Int) (t1_323 : Int) => xw_grd ((0 ≤ t1_323 ∧ t1_323 < ((240 : Nat) : Int))) (xw_let (xw_st s102 9 (t1_323).toNat t0_323) (fun s104 => xw_let (i6_323 + 1) (fun v106 => lp_MD_transform_259 fu c1_259 c2_259 c4_259 k330 n s104 v106))))
     (fun (j323 : xw_S → Int → Int → Int → Option (xw_S × Int)) => xw_grd (xw_r (xw_rm i6_259 4)) (xw_if (xw_rm i6_259 4 = 3) (xw_grd ((0 ≤ (20 * c1_259) + i6_259 ∧ (20 * c1_259) + i6_259 < ((240 : Nat) : Int))) (j323 s93 i6_259 (s93.1 9 ((20 * c1_259) + i6_259).toNat) ((20 * c1_259) + i6_259)))
     (xw_grd ((0 ≤ (20 * c1_259) + i6_259 ∧ (20 * c1_259) + i6_259 < ((240 : Nat) : Int))) (xw_grd ((0 ≤ s93.1 9 ((20 * c1_259) + i6_259).toNat ∧ s93.1 9 ((20 * c1_259) + i6_259).toNat < ((121 : Nat) : Int))) (j323 s93 i6_259 (s93.1 19 (s93.1 9 ((20 * c1_259) + i6_259).toNat).toNat) ((20 * c1_259) + i6_259)))))))))
def lp_MD_transform_428 (fu : Nat) (c1_428 : Int) (k462 : xw_S → Option (xw_S × Int)) : Nat → xw_S → Int → Option (xw_S × Int)
  | 0, _, _ => none
  | n + 1, s139, i6_428 =>
    xw_grd (xw_r i6_428 ∧ xw_r (s139.1 0 29)) (xw_if (s139.1 0 29 ≤ i6_428) (k462 s139)
     (xw_grd ((0 ≤ i6_428 ∧ i6_428 < ((120 : Nat) : Int))) (xw_grd ((0 ≤ (120 * c1_428) + i6_428 ∧ (120 * c1_428) + i6_428 < ((1440 : Nat) : Int))) (xw_let (xw_st s139 7 ((120 * c1_428) + i6_428).toNat (s139.1 21 (i6_428).toNat)) (fun s144 => xw_let (i6_428 + 1) (fun v146 => lp_MD_transform_428 fu c1_428 k462 n s144 v146))))))
def f_MD_transform (fu : Nat) (s0 : xw_S) (p1 : Int) (p2 : Int) : Option (xw_S × Int) :=
 xw_bn2 (f_MD_divide fu s0 p1) (fun s1 r3 => xw_grd ((0 ≤ p2 ∧ p2 < ((3 : Nat) : Int))) (xw_bnd (f_MD_choose fu s1 p1 (s1.1 10 (p2).toNat)) (fun s5 => xw_jn (fun (s16 : xw_S) => xw_jn (fun (s27 : xw_S) => xw_grd ((0 ≤ p1 ∧ p1 < ((12 : Nat) : Int))) (xw_grd ((0 ≤ s27.1 6 (p1).toNat ∧ s27.1 6 (p1).toNat < ((121 : Nat) : Int))) (xw_let (s27.1 19 (s27.1 6 (p1).toNat).toNat) (fun v30 => xw_grd ((0 ≤ p2 ∧ p2 < ((3 : Nat) : Int))) (xw_jn (fun (s35 : xw_S) (i4_96 : Int) (t0_96 : Int) (t1_96 : Int) => xw_grd (xw_r (t1_96 + t0_96)) (xw_if (120 < t1_96 + t0_96) (some (s35, 0))
 (xw_grd ((0 ≤ p2 ∧ p2 < ((3 : Nat) : Int))) (xw_jn (fun (s44 : xw_S) (i4_123 : Int) => xw_let (xw_st s44 0 29 0) (fun s45 => xw_grd ((0 ≤ p2 ∧ p2 < ((3 : Nat) : Int))) (xw_jn (fun (s56 : xw_S) (i4_153 : Int) (i5_153 : Int) => xw_jn (fun (s92 : xw_S) (i4_256 : Int) => xw_jn (fun (s108 : xw_S) (i4_330 : Int) => xw_grd ((0 ≤ p2 ∧ p2 < ((3 : Nat) : Int))) (xw_jn (fun (s138 : xw_S) => xw_jn (fun (s148 : xw_S) => xw_grd ((0 ≤ p1 ∧ p1 < ((12 : Nat) : Int))) (xw_let (xw_st s148 6 (p1).toNat (s148.1 0 29)) (fun s150 => some (s150, 1))))
 (fun (k462 : xw_S → Option (xw_S × Int)) => lp_MD_transform_428 fu p1 k462 fu s138 0))
 (fun (j425 : xw_S → Option (xw_S × Int)) => xw_grd (xw_r (s108.1 10 (p2).toNat)) (xw_if (s108.1 10 (p2).toNat = 0) (xw_bnd (f_MD_emit fu s108 30) (fun s112 => xw_bnd (f_MD_emit fu s112 ((3 * p2) + 2)) (fun s115 => xw_bnd (f_MD_emit fu s115 32) (fun s118 => xw_grd ((0 ≤ p1 ∧ p1 < ((12 : Nat) : Int))) (xw_let ((20 * p1) + (4 * (s118.1 8 (p1).toNat))) (fun v122 => xw_grd ((0 ≤ v122 ∧ v122 < ((240 : Nat) : Int))) (xw_let (xw_st s118 9 (v122).toNat 0) (fun s125 => xw_grd ((0 ≤ v122 + 1 ∧ v122 + 1 < ((240 : Nat) : Int))) (xw_let (xw_st s125 9 (v122 + 1).toNat i4_330) (fun s128 => xw_grd ((0 ≤ v122 + 2 ∧ v122 + 2 < ((240 : Nat) : Int))) (xw_let (xw_st s128 9 (v122 + 2).toNat i4_330) (fun s131 => xw_grd ((0 ≤ v122 + 3 ∧ v122 + 3 < ((240 : Nat) : Int))) (xw_let (xw_st s131 9 (v122 + 3).toNat 0) (fun s134 => xw_let (xw_st s134 8 (p1).toNat ((s134.1 8 (p1).toNat) + 1)) (fun s136 => j425 s136)))))))))))))))
 (j425 s108)))))
 (fun (k330 : xw_S → Int → Option (xw_S × Int)) => lp_MD_transform_259 fu p1 p2 i4_256 k330 fu s92 0))
 (fun (k256 : xw_S → Int → Option (xw_S × Int)) => lp_MD_transform_156 fu p1 p2 i4_153 k256 fu s56 i5_153 0))
 (fun (j153 : xw_S → Int → Int → Option (xw_S × Int)) => xw_grd (xw_r (s45.1 10 (p2).toNat)) (xw_if (s45.1 10 (p2).toNat = 0) (xw_bnd (f_MD_emit fu s45 30) (fun s50 => xw_bnd (f_MD_emit fu s50 (3 * p2)) (fun s53 => j153 s53 i4_123 0)))
 (j153 s45 i4_123 0))))))
 (fun (j123 : xw_S → Int → Option (xw_S × Int)) => xw_grd (xw_r (s35.1 10 (p2).toNat)) (xw_if (s35.1 10 (p2).toNat = 0) (xw_grd ((0 ≤ p1 ∧ p1 < ((12 : Nat) : Int))) (xw_grd (xw_r (s35.1 8 (p1).toNat)) (xw_if (s35.1 8 (p1).toNat = 5) (some (s35, 0))
 (j123 s35 i4_96))))
 (j123 s35 i4_96)))))))
 (fun (j96 : xw_S → Int → Int → Int → Option (xw_S × Int)) => xw_grd (xw_r (s27.1 10 (p2).toNat)) (xw_if (s27.1 10 (p2).toNat = 0) (j96 s27 v30 3 v30)
 (j96 s27 v30 0 v30))))))))
 (fun (k67 : xw_S → Option (xw_S × Int)) => lp_MD_transform_40 fu p1 p2 k67 fu s16 1))
 (fun (k38 : xw_S → Option (xw_S × Int)) => lp_MD_transform_19 fu p1 p2 k38 fu s5 0))))
set_option maxRecDepth 100000 in
set_option maxHeartbeats 4000000 in
theorem c_MD_transform (l : Launch) (D : va_G) (A : Nat → Prop) (ad : Nat → Nat) (cs : Nat → ClassId) (Z : va_W) (tt : Nat → Nat) (fu : Nat) (s0 sZ : xw_S) (p1 : Int) (p2 : Int) (r0 : Int) (h : f_MD_transform fu s0 p1 p2 = some (sZ, r0)) : Met l y_MD_transform w_MD_transform ({ frames := 3, cells := 0, slots := 0, locals := 70 }) (va_Pc [.ref (ad 0), .int (xw_i p1), .int (xw_i p2)] (xw_H D vwCl A kdR 29 ad cs Z tt s0)) (va_Qi (fun r u => r = xw_i r0 ∧ u = sZ) (xw_H D vwCl A kdR 29 ad cs Z tt) A) 0 0 A := by
  refine Met.ofW (cc := b_MD_transform) (maxL := 7) (ret := (some .boolean)) (by decide) rfl ?_
  intro p e s m args below meth c s₁ B hml hv
  obtain ⟨rfl, hP, hK, hD, hX⟩ := hv
  have hx := B.exec
  have hb := B.bytes
  have hr := B.returns
  have hts0 := atoms_spec (ws := w_MD_transform) B.pre
  have hts := fun w (hw : w ∈ wAll) => hts0 w (List.mem_cons_of_mem _ hw)
  have hown : s.vm.findClass "AdviceWeaverModel" = some m.cls := findClass_of_methodNamed B.named
  have hlk := B.notSynchronized
  clear hts0 B
  have hS : va_S A s.heap s.heap [] := va_S.rf
  have hl := lv_entry [.ref (ad 0), .int (xw_i p1), .int (xw_i p2)] (n := 7) (Nat.le_of_ble_eq_true rfl)
  rw [lg_entry_eq]
  generalize (lg_sl [.ref (ad 0), .int (xw_i p1), .int (xw_i p2)] ++ List.replicate (7 - (lg_sl [.ref (ad 0), .int (xw_i p1), .int (xw_i p2)]).length) Slot.unset).toArray = ls at hl ⊢
  have hl : lv_has ls 7 [(0, .ref (ad 0)), (1, .int (xw_i p1)), (2, .int (xw_i p2))] := hl
  have hlp19 : ∀ (c1_19 : Int) (c2_19 : Int) (k38 : xw_S → Option (xw_S × Int)) (hk38 : ∀ (sq : xw_S), k38 sq = some (sZ, r0) → ∀ (H : Heap) (locs : List Loc) (ls : Array Slot), va_P D vwCl (xw_ws kdR 29 ad cs Z sq) H → va_S A s.heap H locs → lv_has ls 7 [(0, .ref (ad 0)), (1, .int (xw_i c1_19)), (2, .int (xw_i c2_19))] → W p l e (headSpec w_MD_transform ({ frames := 3, cells := 0, slots := 0, locals := 70 })).room s m [.ref (ad 0), .int (xw_i p1), .int (xw_i p2)].toArray below meth c H locs 0 0 (MQ below (va_Qi (fun r u => r = xw_i r0 ∧ u = sZ) (xw_H D vwCl A kdR 29 ad cs Z tt) A) [.ref (ad 0), .int (xw_i p1), .int (xw_i p2)].toArray s 0 0 A) (F0 m 38 ls [])) (n : Nat), ∀ (sq : xw_S) (i3_19 : Int), lp_MD_transform_19 fu c1_19 c2_19 k38 n sq i3_19 = some (sZ, r0) → ∀ (H : Heap) (locs : List Loc) (ls : Array Slot), va_P D vwCl (xw_ws kdR 29 ad cs Z sq) H → va_S A s.heap H locs → lv_has ls 7 [(0, .ref (ad 0)), (1, .int (xw_i c1_19)), (2, .int (xw_i c2_19)), (3, .int (xw_i i3_19))] → W p l e (headSpec w_MD_transform ({ frames := 3, cells := 0, slots := 0, locals := 70 })).room s m [.ref (ad 0), .int (xw_i p1), .int (xw_i p2)].toArray below meth c H locs 0 0 (MQ below (va_Qi (fun r u => r = xw_i r0 ∧ u = sZ) (xw_H D vwCl A kdR 29 ad cs Z tt) A) [.ref (ad 0), .int (xw_i p1), .int (xw_i p2)].toArray s 0 0 A) (F0 m 19 ls []) := by
    intro c1_19 c2_19 k38 hk38 n
    induction n with
    | zero =>
      intro sq i3_19 h
      cases (show (none : Option (xw_S × Int)) = some (sZ, r0) from h)
    | succ n ih19 =>
      intro s8 i3_19 h H locs ls hP hS hl
      unfold lp_MD_transform_19 at h
      refine lv_iload_n hx hb d_MD_transform_19 rfl (lv_at hl 3 rfl) ?_
      refine lv_bipush (v := xw_i 120) hx hb d_MD_transform_20 (by decide) ?_
      obtain ⟨hg9, h⟩ := xw_grdI h
      refine xw_icmp_gt (tgt := 38) hx hb hg9 (by decide) d_MD_transform_22 (by decide) (fun hc10 => ?_) (fun hc10 => ?_)
      · replace h := xw_ifT hc10 h
        exact hk38 s8 h _ _ _ hP hS (lv_sub hl [0, 1, 2] rfl)
      · replace h := xw_ifF hc10 h
        refine lv_aload_n hx hb d_MD_transform_25 rfl (lv_at hl 0 rfl) ?_
        refine xw_getR (C := "AdviceWeaverModel") (T := T_MD) hx hb hts hin_MD hown hK hP (by decide) kr_MD (by decide) rfl 26 (by decide) (hts _ hw_531) (fun _ h9 => h9) rfl d_MD_transform_26 ?_
        refine lv_iload_n hx hb d_MD_transform_29 rfl (lv_at hl 3 rfl) ?_
        refine lv_iconst (v := xw_i 0) hx hb d_MD_transform_30 rfl ?_
        obtain ⟨hg11, h⟩ := xw_grdI h
        refine xw_zast hx hb hK hP hD hS (by decide) kr_m_wide (by decide) hg11 (by decide) d_MD_transform_31 (fun s12 e13 H locs hP hS => ?_)
        replace h := xw_letI e13 h
        obtain ⟨v14, e15⟩ : ∃ z, z = i3_19 + 1 := ⟨_, rfl⟩
        replace h := xw_letI e15 h
        refine xw_iinc (lv' := [(3, .int (xw_i v14)), (0, .ref (ad 0)), (1, .int (xw_i c1_19)), (2, .int (xw_i c2_19))]) hx hb d_MD_transform_32 hl (k := 3) rfl (by decide) (by rw [e15]; rfl) (fun ls hl => ?_)
        refine lv_goto (tgt := 19) hx hb d_MD_transform_35 (by decide) ?_
        exact ih19 s12 v14 h _ _ _ hP hS (lv_sub hl [1, 2, 3, 0] rfl)
  have hlp40 : ∀ (c1_40 : Int) (c2_40 : Int) (k67 : xw_S → Option (xw_S × Int)) (hk67 : ∀ (sq : xw_S), k67 sq = some (sZ, r0) → ∀ (H : Heap) (locs : List Loc) (ls : Array Slot), va_P D vwCl (xw_ws kdR 29 ad cs Z sq) H → va_S A s.heap H locs → lv_has ls 7 [(0, .ref (ad 0)), (1, .int (xw_i c1_40)), (2, .int (xw_i c2_40))] → W p l e (headSpec w_MD_transform ({ frames := 3, cells := 0, slots := 0, locals := 70 })).room s m [.ref (ad 0), .int (xw_i p1), .int (xw_i p2)].toArray below meth c H locs 0 0 (MQ below (va_Qi (fun r u => r = xw_i r0 ∧ u = sZ) (xw_H D vwCl A kdR 29 ad cs Z tt) A) [.ref (ad 0), .int (xw_i p1), .int (xw_i p2)].toArray s 0 0 A) (F0 m 67 ls [])) (n : Nat), ∀ (sq : xw_S) (i3_40 : Int), lp_MD_transform_40 fu c1_40 c2_40 k67 n sq i3_40 = some (sZ, r0) → ∀ (H : Heap) (locs : List Loc) (ls : Array Slot), va_P D vwCl (xw_ws kdR 29 ad cs Z sq) H → va_S A s.heap H locs → lv_has ls 7 [(0, .ref (ad 0)), (1, .int (xw_i c1_40)), (2, .int (xw_i c2_40)), (3, .int (xw_i i3_40))] → W p l e (headSpec w_MD_transform ({ frames := 3, cells := 0, slots := 0, locals := 70 })).room s m [.ref (ad 0), .int (xw_i p1), .int (xw_i p2)].toArray below meth c H locs 0 0 (MQ below (va_Qi (fun r u => r = xw_i r0 ∧ u = sZ) (xw_H D vwCl A kdR 29 ad cs Z tt) A) [.ref (ad 0), .int (xw_i p1), .int (xw_i p2)].toArray s 0 0 A) (F0 m 40 ls []) := by
    intro c1_40 c2_40 k67 hk67 n
    induction n with
    | zero =>
      intro sq i3_40 h
      cases (show (none : Option (xw_S × Int)) = some (sZ, r0) from h)
    | succ n ih40 =>
      intro s17 i3_40 h H locs ls hP hS hl
      unfold lp_MD_transform_40 at h
      refine lv_iload_n hx hb d_MD_transform_40 rfl (lv_at hl 3 rfl) ?_
      obtain ⟨hg18, h⟩ := xw_grdI h
      refine xw_if_eq (tgt := 67) hx hb hg18 d_MD_transform_41 (by decide) (fun hc19 => ?_) (fun hc19 => ?_)
      · replace h := xw_ifT hc19 h
        exact hk67 s17 h _ _ _ hP hS (lv_sub hl [0, 1, 2] rfl)
      · replace h := xw_ifF hc19 h
        refine lv_aload_n hx hb d_MD_transform_44 rfl (lv_at hl 0 rfl) ?_
        refine lv_iload_n hx hb d_MD_transform_45 rfl (lv_at hl 1 rfl) ?_
        refine lv_aload_n hx hb d_MD_transform_46 rfl (lv_at hl 0 rfl) ?_
        refine xw_getR (C := "AdviceWeaverModel") (T := T_MD) hx hb hts hin_MD hown hK hP (by decide) kr_MD (by decide) rfl 16 (by decide) (hts _ hw_525) (fun _ h9 => h9) rfl d_MD_transform_47 ?_
        refine lv_iload_n hx hb d_MD_transform_50 rfl (lv_at hl 2 rfl) ?_
        obtain ⟨hg20, h⟩ := xw_grdI h
        refine xw_zald hx hb hK hP (by decide) kr_m_cover (by decide) hg20 d_MD_transform_51 ?_
        refine xw_jnI (fun j => ∀ (sq : xw_S) (t0_60 : Int) (t1_60 : Int), j sq t0_60 t1_60 = some (sZ, r0) → ∀ (H : Heap) (locs : List Loc) (ls : Array Slot), va_P D vwCl (xw_ws kdR 29 ad cs Z sq) H → va_S A s.heap H locs → lv_has ls 7 [(0, .ref (ad 0)), (1, .int (xw_i c1_40)), (2, .int (xw_i c2_40))] → W p l e (headSpec w_MD_transform ({ frames := 3, cells := 0, slots := 0, locals := 70 })).room s m [.ref (ad 0), .int (xw_i p1), .int (xw_i p2)].toArray below meth c H locs 0 0 (MQ below (va_Qi (fun r u => r = xw_i r0 ∧ u = sZ) (xw_H D vwCl A kdR 29 ad cs Z tt) A) [.ref (ad 0), .int (xw_i p1), .int (xw_i p2)].toArray s 0 0 A) (F0 m 60 ls [.int (xw_i t0_60), .int (xw_i t1_60), .ref (ad 0)])) h ?_ ?_
        · intro s23 t0_60 t1_60 h H locs ls hP hS hl
          obtain ⟨s24, r26, hc25, h⟩ := xw_bn2I h
          refine xw_callVi (C := "AdviceWeaverModel") (T := T_MD) ⟨hx, hb, hml, hown, hts⟩ (c_MD_lay l D A ad cs Z tt fu s23 s24 t1_60 t0_60 r26 hc25) (cwV 2 hts (gd_V hw_542 hw_543 hw_544 hw_433 hw_545) rfl rfl rfl (by decide +kernel) ⟨Nat.le_of_ble_eq_true rfl, Nat.le_of_ble_eq_true rfl⟩) hP hK hD hX hS (by decide) kr_MD (by decide) rfl rfl hl.1 rfl (Nat.le_of_ble_eq_true rfl) d_MD_transform_60 (fun H locs hP hS => ?_)
          refine lv_istore_n hx hb d_MD_transform_63 rfl hl (by decide) rfl (fun ls hl => ?_)
          refine lv_goto (tgt := 40) hx hb d_MD_transform_64 (by decide) ?_
          exact ih40 s24 r26 h _ _ _ hP hS (lv_sub hl [1, 2, 3, 0] rfl)
        · intro j60 hj60 h
          obtain ⟨hg21, h⟩ := xw_grdI h
          refine xw_if_eq (tgt := 59) hx hb hg21 d_MD_transform_52 (by decide) (fun hc22 => ?_) (fun hc22 => ?_)
          · replace h := xw_ifT hc22 h
            refine lv_iconst (v := xw_i 2) hx hb d_MD_transform_59 rfl ?_
            exact hj60 s17 2 c1_40 h _ _ _ hP hS (lv_sub hl [0, 1, 2] rfl)
          · replace h := xw_ifF hc22 h
            refine lv_iconst (v := xw_i 0) hx hb d_MD_transform_55 rfl ?_
            refine lv_goto (tgt := 60) hx hb d_MD_transform_56 (by decide) ?_
            exact hj60 s17 0 c1_40 h _ _ _ hP hS (lv_sub hl [0, 1, 2] rfl)
  have hlp156 : ∀ (c1_156 : Int) (c2_156 : Int) (c4_156 : Int) (k256 : xw_S → Int → Option (xw_S × Int)) (hk256 : ∀ (sq : xw_S) (i4_256 : Int), k256 sq i4_256 = some (sZ, r0) → ∀ (H : Heap) (locs : List Loc) (ls : Array Slot), va_P D vwCl (xw_ws kdR 29 ad cs Z sq) H → va_S A s.heap H locs → lv_has ls 7 [(0, .ref (ad 0)), (1, .int (xw_i c1_156)), (2, .int (xw_i c2_156)), (4, .int (xw_i i4_256))] → W p l e (headSpec w_MD_transform ({ frames := 3, cells := 0, slots := 0, locals := 70 })).room s m [.ref (ad 0), .int (xw_i p1), .int (xw_i p2)].toArray below meth c H locs 0 0 (MQ below (va_Qi (fun r u => r = xw_i r0 ∧ u = sZ) (xw_H D vwCl A kdR 29 ad cs Z tt) A) [.ref (ad 0), .int (xw_i p1), .int (xw_i p2)].toArray s 0 0 A) (F0 m 256 ls [])) (n : Nat), ∀ (sq : xw_S) (i5_156 : Int) (i6_156 : Int), lp_MD_transform_156 fu c1_156 c2_156 c4_156 k256 n sq i5_156 i6_156 = some (sZ, r0) → ∀ (H : Heap) (locs : List Loc) (ls : Array Slot), va_P D vwCl (xw_ws kdR 29 ad cs Z sq) H → va_S A s.heap H locs → lv_has ls 7 [(0, .ref (ad 0)), (1, .int (xw_i c1_156)), (2, .int (xw_i c2_156)), (4, .int (xw_i c4_156)), (5, .int (xw_i i5_156)), (6, .int (xw_i i6_156))] → W p l e (headSpec w_MD_transform ({ frames := 3, cells := 0, slots := 0, locals := 70 })).room s m [.ref (ad 0), .int (xw_i p1), .int (xw_i p2)].toArray below meth c H locs 0 0 (MQ below (va_Qi (fun r u => r = xw_i r0 ∧ u = sZ) (xw_H D vwCl A kdR 29 ad cs Z tt) A) [.ref (ad 0), .int (xw_i p1), .int (xw_i p2)].toArray s 0 0 A) (F0 m 156 ls []) := by
    intro c1_156 c2_156 c4_156 k256 hk256 n
    induction n with
    | zero =>
      intro sq i5_156 i6_156 h
      cases (show (none : Option (xw_S × Int)) = some (sZ, r0) from h)
    | succ n ih156 =>
      intro s57 i5_156 i6_156 h H locs ls hP hS hl
      unfold lp_MD_transform_156 at h
      refine lv_iload hx hb d_MD_transform_156 (lv_at hl 5 rfl) ?_
      refine lv_aload_n hx hb d_MD_transform_158 rfl (lv_at hl 0 rfl) ?_
      refine xw_getR (C := "AdviceWeaverModel") (T := T_MD) hx hb hts hin_MD hown hK hP (by decide) kr_MD (by decide) rfl 6 (by decide) (hts _ hw_447) (fun _ h9 => h9) rfl d_MD_transform_159 ?_
      refine lv_iload_n hx hb d_MD_transform_162 rfl (lv_at hl 1 rfl) ?_
      obtain ⟨hg58, h⟩ := xw_grdI h
      refine xw_iald hx hb hK hP (by decide) kr_m_length (by decide) hg58 d_MD_transform_163 ?_
      obtain ⟨hg59, h⟩ := xw_grdI h
      refine xw_icmp_ge (tgt := 256) hx hb hg59.1 hg59.2 d_MD_transform_164 (by decide) (fun hc60 => ?_) (fun hc60 => ?_)
      · replace h := xw_ifT hc60 h
        exact hk256 s57 c4_156 h _ _ _ hP hS (lv_sub hl [0, 1, 2, 3] rfl)
      · replace h := xw_ifF hc60 h
        refine lv_aload_n hx hb d_MD_transform_167 rfl (lv_at hl 0 rfl) ?_
        refine xw_getR (C := "AdviceWeaverModel") (T := T_MD) hx hb hts hin_MD hown hK hP (by decide) kr_MD (by decide) rfl 20 (by decide) (hts _ hw_451) (fun _ h9 => h9) rfl d_MD_transform_168 ?_
        refine lv_iload hx hb d_MD_transform_171 (lv_at hl 5 rfl) ?_
        obtain ⟨hg61, h⟩ := xw_grdI h
        refine xw_zald hx hb hK hP (by decide) kr_m_begins (by decide) hg61 d_MD_transform_173 ?_
        refine xw_jnI (fun j => ∀ (sq : xw_S) (i5_233 : Int) (i6_233 : Int), j sq i5_233 i6_233 = some (sZ, r0) → ∀ (H : Heap) (locs : List Loc) (ls : Array Slot), va_P D vwCl (xw_ws kdR 29 ad cs Z sq) H → va_S A s.heap H locs → lv_has ls 7 [(0, .ref (ad 0)), (1, .int (xw_i c1_156)), (2, .int (xw_i c2_156)), (4, .int (xw_i c4_156)), (5, .int (xw_i i5_233)), (6, .int (xw_i i6_233))] → W p l e (headSpec w_MD_transform ({ frames := 3, cells := 0, slots := 0, locals := 70 })).room s m [.ref (ad 0), .int (xw_i p1), .int (xw_i p2)].toArray below meth c H locs 0 0 (MQ below (va_Qi (fun r u => r = xw_i r0 ∧ u = sZ) (xw_H D vwCl A kdR 29 ad cs Z tt) A) [.ref (ad 0), .int (xw_i p1), .int (xw_i p2)].toArray s 0 0 A) (F0 m 233 ls [])) h ?_ ?_
        · intro s82 i5_233 i6_233 h H locs ls hP hS hl
          refine lv_aload_n hx hb d_MD_transform_233 rfl (lv_at hl 0 rfl) ?_
          refine xw_getR (C := "AdviceWeaverModel") (T := T_MD) hx hb hts hin_MD hown hK hP (by decide) kr_MD (by decide) rfl 20 (by decide) (hts _ hw_451) (fun _ h9 => h9) rfl d_MD_transform_234 ?_
          refine lv_iload hx hb d_MD_transform_237 (lv_at hl 5 rfl) ?_
          obtain ⟨hg83, h⟩ := xw_grdI h
          refine xw_zald hx hb hK hP (by decide) kr_m_begins (by decide) hg83 d_MD_transform_239 ?_
          refine xw_jnI (fun j => ∀ (sq : xw_S) (i5_250 : Int) (i6_250 : Int), j sq i5_250 i6_250 = some (sZ, r0) → ∀ (H : Heap) (locs : List Loc) (ls : Array Slot), va_P D vwCl (xw_ws kdR 29 ad cs Z sq) H → va_S A s.heap H locs → lv_has ls 7 [(0, .ref (ad 0)), (1, .int (xw_i c1_156)), (2, .int (xw_i c2_156)), (4, .int (xw_i c4_156)), (5, .int (xw_i i5_250)), (6, .int (xw_i i6_250))] → W p l e (headSpec w_MD_transform ({ frames := 3, cells := 0, slots := 0, locals := 70 })).room s m [.ref (ad 0), .int (xw_i p1), .int (xw_i p2)].toArray below meth c H locs 0 0 (MQ below (va_Qi (fun r u => r = xw_i r0 ∧ u = sZ) (xw_H D vwCl A kdR 29 ad cs Z tt) A) [.ref (ad 0), .int (xw_i p1), .int (xw_i p2)].toArray s 0 0 A) (F0 m 250 ls [])) h ?_ ?_
          · intro s89 i5_250 i6_250 h H locs ls hP hS hl
            obtain ⟨v90, e91⟩ : ∃ z, z = i6_250 + 1 := ⟨_, rfl⟩
            replace h := xw_letI e91 h
            refine xw_iinc (lv' := [(6, .int (xw_i v90)), (0, .ref (ad 0)), (1, .int (xw_i c1_156)), (2, .int (xw_i c2_156)), (4, .int (xw_i c4_156)), (5, .int (xw_i i5_250))]) hx hb d_MD_transform_250 hl (k := 5) rfl (by decide) (by rw [e91]; rfl) (fun ls hl => ?_)
            refine lv_goto (tgt := 156) hx hb d_MD_transform_253 (by decide) ?_
            exact ih156 s89 i5_250 v90 h _ _ _ hP hS (lv_sub hl [1, 2, 3, 4, 5, 0] rfl)
          · intro j250 hj250 h
            obtain ⟨hg84, h⟩ := xw_grdI h
            refine xw_if_eq (tgt := 250) hx hb hg84 d_MD_transform_240 (by decide) (fun hc85 => ?_) (fun hc85 => ?_)
            · replace h := xw_ifT hc85 h
              exact hj250 s82 i5_233 i6_233 h _ _ _ hP hS (lv_sub hl [0, 1, 2, 3, 4, 5] rfl)
            · replace h := xw_ifF hc85 h
              refine lv_aload_n hx hb d_MD_transform_243 rfl (lv_at hl 0 rfl) ?_
              refine lv_iload_n hx hb d_MD_transform_244 rfl (lv_at hl 1 rfl) ?_
              refine lv_iload hx hb d_MD_transform_245 (lv_at hl 5 rfl) ?_
              obtain ⟨s86, hc87, h⟩ := xw_bndI h
              refine xw_callVv (C := "AdviceWeaverModel") (T := T_MD) ⟨hx, hb, hml, hown, hts⟩ (c_MD_emitOne l D A ad cs Z tt fu s82 s86 c1_156 i6_233 hc87) (cwV 2 hts (gd_V hw_546 hw_547 hw_548 hw_433 hw_549) rfl rfl rfl (by decide +kernel) ⟨Nat.le_of_ble_eq_true rfl, Nat.le_of_ble_eq_true rfl⟩) hP hK hD hX hS (by decide) kr_MD (by decide) rfl rfl hl.1 rfl (Nat.le_of_ble_eq_true rfl) d_MD_transform_247 (fun H locs hP hS => ?_)
              exact hj250 s86 i5_233 i6_233 h _ _ _ hP hS (lv_sub hl [0, 1, 2, 3, 4, 5] rfl)
        · intro j233 hj233 h
          obtain ⟨hg62, h⟩ := xw_grdI h
          refine xw_if_eq (tgt := 233) hx hb hg62 d_MD_transform_174 (by decide) (fun hc63 => ?_) (fun hc63 => ?_)
          · replace h := xw_ifT hc63 h
            exact hj233 s57 i5_156 i6_156 h _ _ _ hP hS (lv_sub hl [0, 1, 2, 3, 4, 5] rfl)
          · replace h := xw_ifF hc63 h
            refine lv_aload_n hx hb d_MD_transform_177 rfl (lv_at hl 0 rfl) ?_
            refine xw_getR (C := "AdviceWeaverModel") (T := T_MD) hx hb hts hin_MD hown hK hP (by decide) kr_MD (by decide) rfl 25 (by decide) (hts _ hw_528) (fun _ h9 => h9) rfl d_MD_transform_178 ?_
            refine lv_iload hx hb d_MD_transform_181 (lv_at hl 5 rfl) ?_
            refine xw_zald hx hb hK hP (by decide) kr_m_before (by decide) hg61 d_MD_transform_183 ?_
            obtain ⟨hg64, h⟩ := xw_grdI h
            refine xw_if_eq (tgt := 233) hx hb hg64 d_MD_transform_184 (by decide) (fun hc65 => ?_) (fun hc65 => ?_)
            · replace h := xw_ifT hc65 h
              exact hj233 s57 i5_156 i6_156 h _ _ _ hP hS (lv_sub hl [0, 1, 2, 3, 4, 5] rfl)
            · replace h := xw_ifF hc65 h
              refine lv_aload_n hx hb d_MD_transform_187 rfl (lv_at hl 0 rfl) ?_
              refine lv_aload_n hx hb d_MD_transform_188 rfl (lv_at hl 0 rfl) ?_
              refine xw_getR (C := "AdviceWeaverModel") (T := T_MD) hx hb hts hin_MD hown hK hP (by decide) kr_MD (by decide) rfl 16 (by decide) (hts _ hw_525) (fun _ h9 => h9) rfl d_MD_transform_189 ?_
              refine lv_iload_n hx hb d_MD_transform_192 rfl (lv_at hl 2 rfl) ?_
              obtain ⟨hg66, h⟩ := xw_grdI h
              refine xw_zald hx hb hK hP (by decide) kr_m_cover (by decide) hg66 d_MD_transform_193 ?_
              refine xw_jnI (fun j => ∀ (sq : xw_S) (i5_204 : Int) (i6_204 : Int) (t0_204 : Int), j sq i5_204 i6_204 t0_204 = some (sZ, r0) → ∀ (H : Heap) (locs : List Loc) (ls : Array Slot), va_P D vwCl (xw_ws kdR 29 ad cs Z sq) H → va_S A s.heap H locs → lv_has ls 7 [(0, .ref (ad 0)), (1, .int (xw_i c1_156)), (2, .int (xw_i c2_156)), (4, .int (xw_i c4_156)), (5, .int (xw_i i5_204)), (6, .int (xw_i i6_204))] → W p l e (headSpec w_MD_transform ({ frames := 3, cells := 0, slots := 0, locals := 70 })).room s m [.ref (ad 0), .int (xw_i p1), .int (xw_i p2)].toArray below meth c H locs 0 0 (MQ below (va_Qi (fun r u => r = xw_i r0 ∧ u = sZ) (xw_H D vwCl A kdR 29 ad cs Z tt) A) [.ref (ad 0), .int (xw_i p1), .int (xw_i p2)].toArray s 0 0 A) (F0 m 204 ls [.int (xw_i t0_204), .ref (ad 0)])) h ?_ ?_
              · intro s69 i5_204 i6_204 t0_204 h H locs ls hP hS hl
                obtain ⟨s70, hc71, h⟩ := xw_bndI h
                refine xw_callVv (C := "AdviceWeaverModel") (T := T_MD) ⟨hx, hb, hml, hown, hts⟩ (c_MD_emit l D A ad cs Z tt fu s69 s70 t0_204 hc71) (cwV 1 hts (gd_V hw_534 hw_535 hw_536 hw_433 hw_537) rfl rfl rfl (by decide +kernel) ⟨Nat.le_of_ble_eq_true rfl, Nat.le_of_ble_eq_true rfl⟩) hP hK hD hX hS (by decide) kr_MD (by decide) rfl rfl hl.1 rfl (Nat.le_of_ble_eq_true rfl) d_MD_transform_204 (fun H locs hP hS => ?_)
                refine lv_aload_n hx hb d_MD_transform_207 rfl (lv_at hl 0 rfl) ?_
                refine lv_aload_n hx hb d_MD_transform_208 rfl (lv_at hl 0 rfl) ?_
                refine xw_getR (C := "AdviceWeaverModel") (T := T_MD) hx hb hts hin_MD hown hK hP (by decide) kr_MD (by decide) rfl 16 (by decide) (hts _ hw_525) (fun _ h9 => h9) rfl d_MD_transform_209 ?_
                refine lv_iload_n hx hb d_MD_transform_212 rfl (lv_at hl 2 rfl) ?_
                obtain ⟨hg73, h⟩ := xw_grdI h
                refine xw_zald hx hb hK hP (by decide) kr_m_cover (by decide) hg73 d_MD_transform_213 ?_
                refine xw_jnI (fun j => ∀ (sq : xw_S) (i5_227 : Int) (i6_227 : Int) (t0_227 : Int), j sq i5_227 i6_227 t0_227 = some (sZ, r0) → ∀ (H : Heap) (locs : List Loc) (ls : Array Slot), va_P D vwCl (xw_ws kdR 29 ad cs Z sq) H → va_S A s.heap H locs → lv_has ls 7 [(0, .ref (ad 0)), (1, .int (xw_i c1_156)), (2, .int (xw_i c2_156)), (4, .int (xw_i c4_156)), (5, .int (xw_i i5_227)), (6, .int (xw_i i6_227))] → W p l e (headSpec w_MD_transform ({ frames := 3, cells := 0, slots := 0, locals := 70 })).room s m [.ref (ad 0), .int (xw_i p1), .int (xw_i p2)].toArray below meth c H locs 0 0 (MQ below (va_Qi (fun r u => r = xw_i r0 ∧ u = sZ) (xw_H D vwCl A kdR 29 ad cs Z tt) A) [.ref (ad 0), .int (xw_i p1), .int (xw_i p2)].toArray s 0 0 A) (F0 m 227 ls [.int (xw_i t0_227), .ref (ad 0)])) h ?_ ?_
                · intro s76 i5_227 i6_227 t0_227 h H locs ls hP hS hl
                  obtain ⟨s77, hc78, h⟩ := xw_bndI h
                  refine xw_callVv (C := "AdviceWeaverModel") (T := T_MD) ⟨hx, hb, hml, hown, hts⟩ (c_MD_emit l D A ad cs Z tt fu s76 s77 t0_227 hc78) (cwV 1 hts (gd_V hw_534 hw_535 hw_536 hw_433 hw_537) rfl rfl rfl (by decide +kernel) ⟨Nat.le_of_ble_eq_true rfl, Nat.le_of_ble_eq_true rfl⟩) hP hK hD hX hS (by decide) kr_MD (by decide) rfl rfl hl.1 rfl (Nat.le_of_ble_eq_true rfl) d_MD_transform_227 (fun H locs hP hS => ?_)
                  obtain ⟨v80, e81⟩ : ∃ z, z = i5_227 + 1 := ⟨_, rfl⟩
                  replace h := xw_letI e81 h
                  refine xw_iinc (lv' := [(5, .int (xw_i v80)), (0, .ref (ad 0)), (1, .int (xw_i c1_156)), (2, .int (xw_i c2_156)), (4, .int (xw_i c4_156)), (6, .int (xw_i i6_227))]) hx hb d_MD_transform_230 hl (k := 4) rfl (by decide) (by rw [e81]; rfl) (fun ls hl => ?_)
                  exact hj233 s77 v80 i6_227 h _ _ _ hP hS (lv_sub hl [1, 2, 3, 4, 0, 5] rfl)
                · intro j227 hj227 h
                  obtain ⟨hg74, h⟩ := xw_grdI h
                  refine xw_if_eq (tgt := 222) hx hb hg74 d_MD_transform_214 (by decide) (fun hc75 => ?_) (fun hc75 => ?_)
                  · replace h := xw_ifT hc75 h
                    refine lv_iconst (v := xw_i 3) hx hb d_MD_transform_222 rfl ?_
                    refine lv_iload_n hx hb d_MD_transform_223 rfl (lv_at hl 2 rfl) ?_
                    refine xw_imul hx hb d_MD_transform_224 ?_
                    refine lv_iconst (v := xw_i 1) hx hb d_MD_transform_225 rfl ?_
                    refine xw_iadd hx hb d_MD_transform_226 ?_
                    exact hj227 s70 i5_204 i6_204 ((3 * c2_156) + 1) h _ _ _ hP hS (lv_sub hl [0, 1, 2, 3, 4, 5] rfl)
                  · replace h := xw_ifF hc75 h
                    refine lv_iload hx hb d_MD_transform_217 (lv_at hl 4 rfl) ?_
                    refine lv_goto (tgt := 227) hx hb d_MD_transform_219 (by decide) ?_
                    exact hj227 s70 i5_204 i6_204 i5_204 h _ _ _ hP hS (lv_sub hl [0, 1, 2, 3, 4, 5] rfl)
              · intro j204 hj204 h
                obtain ⟨hg67, h⟩ := xw_grdI h
                refine xw_if_eq (tgt := 202) hx hb hg67 d_MD_transform_194 (by decide) (fun hc68 => ?_) (fun hc68 => ?_)
                · replace h := xw_ifT hc68 h
                  refine lv_bipush (v := xw_i 30) hx hb d_MD_transform_202 (by decide) ?_
                  exact hj204 s57 i5_156 i6_156 30 h _ _ _ hP hS (lv_sub hl [0, 1, 2, 3, 4, 5] rfl)
                · replace h := xw_ifF hc68 h
                  refine lv_bipush (v := xw_i 31) hx hb d_MD_transform_197 (by decide) ?_
                  refine lv_goto (tgt := 204) hx hb d_MD_transform_199 (by decide) ?_
                  exact hj204 s57 i5_156 i6_156 31 h _ _ _ hP hS (lv_sub hl [0, 1, 2, 3, 4, 5] rfl)
  have hlp259 : ∀ (c1_259 : Int) (c2_259 : Int) (c4_259 : Int) (k330 : xw_S → Int → Option (xw_S × Int)) (hk330 : ∀ (sq : xw_S) (i4_330 : Int), k330 sq i4_330 = some (sZ, r0) → ∀ (H : Heap) (locs : List Loc) (ls : Array Slot), va_P D vwCl (xw_ws kdR 29 ad cs Z sq) H → va_S A s.heap H locs → lv_has ls 7 [(0, .ref (ad 0)), (1, .int (xw_i c1_259)), (2, .int (xw_i c2_259)), (4, .int (xw_i i4_330))] → W p l e (headSpec w_MD_transform ({ frames := 3, cells := 0, slots := 0, locals := 70 })).room s m [.ref (ad 0), .int (xw_i p1), .int (xw_i p2)].toArray below meth c H locs 0 0 (MQ below (va_Qi (fun r u => r = xw_i r0 ∧ u = sZ) (xw_H D vwCl A kdR 29 ad cs Z tt) A) [.ref (ad 0), .int (xw_i p1), .int (xw_i p2)].toArray s 0 0 A) (F0 m 330 ls [])) (n : Nat), ∀ (sq : xw_S) (i6_259 : Int), lp_MD_transform_259 fu c1_259 c2_259 c4_259 k330 n sq i6_259 = some (sZ, r0) → ∀ (H : Heap) (locs : List Loc) (ls : Array Slot), va_P D vwCl (xw_ws kdR 29 ad cs Z sq) H → va_S A s.heap H locs → lv_has ls 7 [(0, .ref (ad 0)), (1, .int (xw_i c1_259)), (2, .int (xw_i c2_259)), (4, .int (xw_i c4_259)), (6, .int (xw_i i6_259))] → W p l e (headSpec w_MD_transform ({ frames := 3, cells := 0, slots := 0, locals := 70 })).room s m [.ref (ad 0), .int (xw_i p1), .int (xw_i p2)].toArray below meth c H locs 0 0 (MQ below (va_Qi (fun r u => r = xw_i r0 ∧ u = sZ) (xw_H D vwCl A kdR 29 ad cs Z tt) A) [.ref (ad 0), .int (xw_i p1), .int (xw_i p2)].toArray s 0 0 A) (F0 m 259 ls []) := by
    intro c1_259 c2_259 c4_259 k330 hk330 n
    induction n with
    | zero =>
      intro sq i6_259 h
      cases (show (none : Option (xw_S × Int)) = some (sZ, r0) from h)
    | succ n ih259 =>
      intro s93 i6_259 h H locs ls hP hS hl
      unfold lp_MD_transform_259 at h
      refine lv_iload hx hb d_MD_transform_259 (lv_at hl 4 rfl) ?_
      refine lv_iconst (v := xw_i 4) hx hb d_MD_transform_261 rfl ?_
      refine lv_aload_n hx hb d_MD_transform_262 rfl (lv_at hl 0 rfl) ?_
      refine xw_getR (C := "AdviceWeaverModel") (T := T_MD) hx hb hts hin_MD hown hK hP (by decide) kr_MD (by decide) rfl 8 (by decide) (hts _ hw_449) (fun _ h9 => h9) rfl d_MD_transform_263 ?_
      refine lv_iload_n hx hb d_MD_transform_266 rfl (lv_at hl 1 rfl) ?_
      obtain ⟨hg94, h⟩ := xw_grdI h
      refine xw_iald hx hb hK hP (by decide) kr_m_handlers (by decide) hg94 d_MD_transform_267 ?_
      refine xw_imul hx hb d_MD_transform_268 ?_
      obtain ⟨hg95, h⟩ := xw_grdI h
      refine xw_icmp_ge (tgt := 330) hx hb hg95.1 hg95.2 d_MD_transform_269 (by decide) (fun hc96 => ?_) (fun hc96 => ?_)
      · replace h := xw_ifT hc96 h
        exact hk330 s93 c4_259 h _ _ _ hP hS (lv_sub hl [0, 1, 2, 3] rfl)
      · replace h := xw_ifF hc96 h
        refine lv_aload_n hx hb d_MD_transform_272 rfl (lv_at hl 0 rfl) ?_
        refine xw_getR (C := "AdviceWeaverModel") (T := T_MD) hx hb hts hin_MD hown hK hP (by decide) kr_MD (by decide) rfl 9 (by decide) (hts _ hw_450) (fun _ h9 => h9) rfl d_MD_transform_273 ?_
        refine lv_bipush (v := xw_i 20) hx hb d_MD_transform_276 (by decide) ?_
        refine lv_iload_n hx hb d_MD_transform_278 rfl (lv_at hl 1 rfl) ?_
        refine xw_imul hx hb d_MD_transform_279 ?_
        refine lv_iload hx hb d_MD_transform_280 (lv_at hl 4 rfl) ?_
        refine xw_iadd hx hb d_MD_transform_282 ?_
        refine lv_iload hx hb d_MD_transform_283 (lv_at hl 4 rfl) ?_
        refine lv_iconst (v := xw_i 4) hx hb d_MD_transform_285 rfl ?_
        refine xw_irem hx hb (by decide) (by decide) d_MD_transform_286 ?_
        refine lv_iconst (v := xw_i 3) hx hb d_MD_transform_287 rfl ?_
        refine xw_jnI (fun j => ∀ (sq : xw_S) (i6_323 : Int) (t0_323 : Int) (t1_323 : Int), j sq i6_323 t0_323 t1_323 = some (sZ, r0) → ∀ (H : Heap) (locs : List Loc) (ls : Array Slot), va_P D vwCl (xw_ws kdR 29 ad cs Z sq) H → va_S A s.heap H locs → lv_has ls 7 [(0, .ref (ad 0)), (1, .int (xw_i c1_259)), (2, .int (xw_i c2_259)), (4, .int (xw_i c4_259)), (6, .int (xw_i i6_323))] → W p l e (headSpec w_MD_transform ({ frames := 3, cells := 0, slots := 0, locals := 70 })).room s m [.ref (ad 0), .int (xw_i p1), .int (xw_i p2)].toArray below meth c H locs 0 0 (MQ below (va_Qi (fun r u => r = xw_i r0 ∧ u = sZ) (xw_H D vwCl A kdR 29 ad cs Z tt) A) [.ref (ad 0), .int (xw_i p1), .int (xw_i p2)].toArray s 0 0 A) (F0 m 323 ls [.int (xw_i t0_323), .int (xw_i t1_323), .ref (ad 9)])) h ?_ ?_
        · intro s102 i6_323 t0_323 t1_323 h H locs ls hP hS hl
          obtain ⟨hg103, h⟩ := xw_grdI h
          refine xw_iast hx hb hK hP hD hS (by decide) kr_m_handler (by decide) hg103 d_MD_transform_323 (fun s104 e105 H locs hP hS => ?_)
          replace h := xw_letI e105 h
          obtain ⟨v106, e107⟩ : ∃ z, z = i6_323 + 1 := ⟨_, rfl⟩
          replace h := xw_letI e107 h
          refine xw_iinc (lv' := [(6, .int (xw_i v106)), (0, .ref (ad 0)), (1, .int (xw_i c1_259)), (2, .int (xw_i c2_259)), (4, .int (xw_i c4_259))]) hx hb d_MD_transform_324 hl (k := 4) rfl (by decide) (by rw [e107]; rfl) (fun ls hl => ?_)
          refine lv_goto (tgt := 259) hx hb d_MD_transform_327 (by decide) ?_
          exact ih259 s104 v106 h _ _ _ hP hS (lv_sub hl [1, 2, 3, 4, 0] rfl)
        · intro j323 hj323 h
          obtain ⟨hg97, h⟩ := xw_grdI h
          refine xw_icmp_ne (tgt := 306) hx hb hg97 (by decide) d_MD_transform_288 (by decide) (fun hc98 => ?_) (fun hc98 => ?_)
          · replace h := xw_ifF hc98 h
            refine lv_aload_n hx hb d_MD_transform_306 rfl (lv_at hl 0 rfl) ?_
            refine xw_getR (C := "AdviceWeaverModel") (T := T_MD) hx hb hts hin_MD hown hK hP (by decide) kr_MD (by decide) rfl 27 (by decide) (hts _ hw_529) (fun _ h9 => h9) rfl d_MD_transform_307 ?_
            refine lv_aload_n hx hb d_MD_transform_310 rfl (lv_at hl 0 rfl) ?_
            refine xw_getR (C := "AdviceWeaverModel") (T := T_MD) hx hb hts hin_MD hown hK hP (by decide) kr_MD (by decide) rfl 9 (by decide) (hts _ hw_450) (fun _ h9 => h9) rfl d_MD_transform_311 ?_
            refine lv_bipush (v := xw_i 20) hx hb d_MD_transform_314 (by decide) ?_
            refine lv_iload_n hx hb d_MD_transform_316 rfl (lv_at hl 1 rfl) ?_
            refine xw_imul hx hb d_MD_transform_317 ?_
            refine lv_iload hx hb d_MD_transform_318 (lv_at hl 4 rfl) ?_
            refine xw_iadd hx hb d_MD_transform_320 ?_
            obtain ⟨hg99, h⟩ := xw_grdI h
            refine xw_iald hx hb hK hP (by decide) kr_m_handler (by decide) hg99 d_MD_transform_321 ?_
            obtain ⟨hg100, h⟩ := xw_grdI h
            refine xw_iald hx hb hK hP (by decide) kr_m_lead (by decide) hg100 d_MD_transform_322 ?_
            exact hj323 s93 i6_259 (s93.1 19 (s93.1 9 ((20 * c1_259) + i6_259).toNat).toNat) ((20 * c1_259) + i6_259) h _ _ _ hP hS (lv_sub hl [0, 1, 2, 3, 4] rfl)
          · replace h := xw_ifT hc98 h
            refine lv_aload_n hx hb d_MD_transform_291 rfl (lv_at hl 0 rfl) ?_
            refine xw_getR (C := "AdviceWeaverModel") (T := T_MD) hx hb hts hin_MD hown hK hP (by decide) kr_MD (by decide) rfl 9 (by decide) (hts _ hw_450) (fun _ h9 => h9) rfl d_MD_transform_292 ?_
            refine lv_bipush (v := xw_i 20) hx hb d_MD_transform_295 (by decide) ?_
            refine lv_iload_n hx hb d_MD_transform_297 rfl (lv_at hl 1 rfl) ?_
            refine xw_imul hx hb d_MD_transform_298 ?_
            refine lv_iload hx hb d_MD_transform_299 (lv_at hl 4 rfl) ?_
            refine xw_iadd hx hb d_MD_transform_301 ?_
            obtain ⟨hg101, h⟩ := xw_grdI h
            refine xw_iald hx hb hK hP (by decide) kr_m_handler (by decide) hg101 d_MD_transform_302 ?_
            refine lv_goto (tgt := 323) hx hb d_MD_transform_303 (by decide) ?_
            exact hj323 s93 i6_259 (s93.1 9 ((20 * c1_259) + i6_259).toNat) ((20 * c1_259) + i6_259) h _ _ _ hP hS (lv_sub hl [0, 1, 2, 3, 4] rfl)
  have hlp428 : ∀ (c1_428 : Int) (k462 : xw_S → Option (xw_S × Int)) (hk462 : ∀ (sq : xw_S), k462 sq = some (sZ, r0) → ∀ (H : Heap) (locs : List Loc) (ls : Array Slot), va_P D vwCl (xw_ws kdR 29 ad cs Z sq) H → va_S A s.heap H locs → lv_has ls 7 [(0, .ref (ad 0)), (1, .int (xw_i c1_428))] → W p l e (headSpec w_MD_transform ({ frames := 3, cells := 0, slots := 0, locals := 70 })).room s m [.ref (ad 0), .int (xw_i p1), .int (xw_i p2)].toArray below meth c H locs 0 0 (MQ below (va_Qi (fun r u => r = xw_i r0 ∧ u = sZ) (xw_H D vwCl A kdR 29 ad cs Z tt) A) [.ref (ad 0), .int (xw_i p1), .int (xw_i p2)].toArray s 0 0 A) (F0 m 462 ls [])) (n : Nat), ∀ (sq : xw_S) (i6_428 : Int), lp_MD_transform_428 fu c1_428 k462 n sq i6_428 = some (sZ, r0) → ∀ (H : Heap) (locs : List Loc) (ls : Array Slot), va_P D vwCl (xw_ws kdR 29 ad cs Z sq) H → va_S A s.heap H locs → lv_has ls 7 [(0, .ref (ad 0)), (1, .int (xw_i c1_428)), (6, .int (xw_i i6_428))] → W p l e (headSpec w_MD_transform ({ frames := 3, cells := 0, slots := 0, locals := 70 })).room s m [.ref (ad 0), .int (xw_i p1), .int (xw_i p2)].toArray below meth c H locs 0 0 (MQ below (va_Qi (fun r u => r = xw_i r0 ∧ u = sZ) (xw_H D vwCl A kdR 29 ad cs Z tt) A) [.ref (ad 0), .int (xw_i p1), .int (xw_i p2)].toArray s 0 0 A) (F0 m 428 ls []) := by
    intro c1_428 k462 hk462 n
    induction n with
    | zero =>
      intro sq i6_428 h
      cases (show (none : Option (xw_S × Int)) = some (sZ, r0) from h)
    | succ n ih428 =>
      intro s139 i6_428 h H locs ls hP hS hl
      unfold lp_MD_transform_428 at h
      refine lv_iload hx hb d_MD_transform_428 (lv_at hl 2 rfl) ?_
      refine lv_aload_n hx hb d_MD_transform_430 rfl (lv_at hl 0 rfl) ?_
      refine xw_getI (C := "AdviceWeaverModel") (T := T_MD) hx hb hts hin_MD hown hK hP (by decide) kr_MD (by decide) rfl 29 (by decide) (hts _ hw_533) (fun _ h9 => h9) rfl d_MD_transform_431 ?_
      obtain ⟨hg140, h⟩ := xw_grdI h
      refine xw_icmp_ge (tgt := 462) hx hb hg140.1 hg140.2 d_MD_transform_434 (by decide) (fun hc141 => ?_) (fun hc141 => ?_)
      · replace h := xw_ifT hc141 h
        exact hk462 s139 h _ _ _ hP hS (lv_sub hl [0, 1] rfl)
      · replace h := xw_ifF hc141 h
        refine lv_aload_n hx hb d_MD_transform_437 rfl (lv_at hl 0 rfl) ?_
        refine xw_getR (C := "AdviceWeaverModel") (T := T_MD) hx hb hts hin_MD hown hK hP (by decide) kr_MD (by decide) rfl 7 (by decide) (hts _ hw_448) (fun _ h9 => h9) rfl d_MD_transform_438 ?_
        refine lv_bipush (v := xw_i 120) hx hb d_MD_transform_441 (by decide) ?_
        refine lv_iload_n hx hb d_MD_transform_443 rfl (lv_at hl 1 rfl) ?_
        refine xw_imul hx hb d_MD_transform_444 ?_
        refine lv_iload hx hb d_MD_transform_445 (lv_at hl 2 rfl) ?_
        refine xw_iadd hx hb d_MD_transform_447 ?_
        refine lv_aload_n hx hb d_MD_transform_448 rfl (lv_at hl 0 rfl) ?_
        refine xw_getR (C := "AdviceWeaverModel") (T := T_MD) hx hb hts hin_MD hown hK hP (by decide) kr_MD (by decide) rfl 30 (by decide) (hts _ hw_532) (fun _ h9 => h9) rfl d_MD_transform_449 ?_
        refine lv_iload hx hb d_MD_transform_452 (lv_at hl 2 rfl) ?_
        obtain ⟨hg142, h⟩ := xw_grdI h
        refine xw_iald hx hb hK hP (by decide) kr_m_fresh (by decide) hg142 d_MD_transform_454 ?_
        obtain ⟨hg143, h⟩ := xw_grdI h
        refine xw_iast hx hb hK hP hD hS (by decide) kr_m_code (by decide) hg143 d_MD_transform_455 (fun s144 e145 H locs hP hS => ?_)
        replace h := xw_letI e145 h
        obtain ⟨v146, e147⟩ : ∃ z, z = i6_428 + 1 := ⟨_, rfl⟩
        replace h := xw_letI e147 h
        refine xw_iinc (lv' := [(6, .int (xw_i v146)), (0, .ref (ad 0)), (1, .int (xw_i c1_428))]) hx hb d_MD_transform_456 hl (k := 2) rfl (by decide) (by rw [e147]; rfl) (fun ls hl => ?_)
        refine lv_goto (tgt := 428) hx hb d_MD_transform_459 (by decide) ?_
        exact ih428 s144 v146 h _ _ _ hP hS (lv_sub hl [1, 2, 0] rfl)
  unfold f_MD_transform at h
  refine lv_aload_n hx hb d_MD_transform_0 rfl (lv_at hl 0 rfl) ?_
  refine lv_iload_n hx hb d_MD_transform_1 rfl (lv_at hl 1 rfl) ?_
  obtain ⟨s1, r3, hc2, h⟩ := xw_bn2I h
  refine xw_callVi (C := "AdviceWeaverModel") (T := T_MD) ⟨hx, hb, hml, hown, hts⟩ (c_MD_divide l D A ad cs Z tt fu s0 s1 p1 r3 hc2) (cwV 1 hts (gd_V hw_463 hw_464 hw_465 hw_433 hw_466) rfl rfl rfl (by decide +kernel) ⟨Nat.le_of_ble_eq_true rfl, Nat.le_of_ble_eq_true rfl⟩) hP hK hD hX hS (by decide) kr_MD (by decide) rfl rfl hl.1 rfl (Nat.le_of_ble_eq_true rfl) d_MD_transform_2 (fun H locs hP hS => ?_)
  refine lv_pop hx hb d_MD_transform_5 rfl ?_
  refine lv_aload_n hx hb d_MD_transform_6 rfl (lv_at hl 0 rfl) ?_
  refine lv_iload_n hx hb d_MD_transform_7 rfl (lv_at hl 1 rfl) ?_
  refine lv_aload_n hx hb d_MD_transform_8 rfl (lv_at hl 0 rfl) ?_
  refine xw_getR (C := "AdviceWeaverModel") (T := T_MD) hx hb hts hin_MD hown hK hP (by decide) kr_MD (by decide) rfl 16 (by decide) (hts _ hw_525) (fun _ h9 => h9) rfl d_MD_transform_9 ?_
  refine lv_iload_n hx hb d_MD_transform_12 rfl (lv_at hl 2 rfl) ?_
  obtain ⟨hg4, h⟩ := xw_grdI h
  refine xw_zald hx hb hK hP (by decide) kr_m_cover (by decide) hg4 d_MD_transform_13 ?_
  obtain ⟨s5, hc6, h⟩ := xw_bndI h
  refine xw_callVv (C := "AdviceWeaverModel") (T := T_MD) ⟨hx, hb, hml, hown, hts⟩ (c_MD_choose l D A ad cs Z tt fu s1 s5 p1 (s1.1 10 (p2).toNat) hc6) (cwV 2 hts (gd_V hw_538 hw_539 hw_540 hw_433 hw_541) rfl rfl rfl (by decide +kernel) ⟨Nat.le_of_ble_eq_true rfl, Nat.le_of_ble_eq_true rfl⟩) hP hK hD hX hS (by decide) kr_MD (by decide) rfl rfl hl.1 rfl (Nat.le_of_ble_eq_true rfl) d_MD_transform_14 (fun H locs hP hS => ?_)
  refine lv_iconst (v := xw_i 0) hx hb d_MD_transform_17 rfl ?_
  refine lv_istore_n hx hb d_MD_transform_18 rfl hl (by decide) rfl (fun ls hl => ?_)
  refine xw_jnI (fun j => ∀ (sq : xw_S), j sq = some (sZ, r0) → ∀ (H : Heap) (locs : List Loc) (ls : Array Slot), va_P D vwCl (xw_ws kdR 29 ad cs Z sq) H → va_S A s.heap H locs → lv_has ls 7 [(0, .ref (ad 0)), (1, .int (xw_i p1)), (2, .int (xw_i p2))] → W p l e (headSpec w_MD_transform ({ frames := 3, cells := 0, slots := 0, locals := 70 })).room s m [.ref (ad 0), .int (xw_i p1), .int (xw_i p2)].toArray below meth c H locs 0 0 (MQ below (va_Qi (fun r u => r = xw_i r0 ∧ u = sZ) (xw_H D vwCl A kdR 29 ad cs Z tt) A) [.ref (ad 0), .int (xw_i p1), .int (xw_i p2)].toArray s 0 0 A) (F0 m 38 ls [])) h ?_ ?_
  · intro s16 h H locs ls hP hS hl
    refine lv_iconst (v := xw_i 1) hx hb d_MD_transform_38 rfl ?_
    refine lv_istore_n hx hb d_MD_transform_39 rfl hl (by decide) rfl (fun ls hl => ?_)
    refine xw_jnI (fun j => ∀ (sq : xw_S), j sq = some (sZ, r0) → ∀ (H : Heap) (locs : List Loc) (ls : Array Slot), va_P D vwCl (xw_ws kdR 29 ad cs Z sq) H → va_S A s.heap H locs → lv_has ls 7 [(0, .ref (ad 0)), (1, .int (xw_i p1)), (2, .int (xw_i p2))] → W p l e (headSpec w_MD_transform ({ frames := 3, cells := 0, slots := 0, locals := 70 })).room s m [.ref (ad 0), .int (xw_i p1), .int (xw_i p2)].toArray below meth c H locs 0 0 (MQ below (va_Qi (fun r u => r = xw_i r0 ∧ u = sZ) (xw_H D vwCl A kdR 29 ad cs Z tt) A) [.ref (ad 0), .int (xw_i p1), .int (xw_i p2)].toArray s 0 0 A) (F0 m 67 ls [])) h ?_ ?_
    · intro s27 h H locs ls hP hS hl
      refine lv_aload_n hx hb d_MD_transform_67 rfl (lv_at hl 0 rfl) ?_
      refine xw_getR (C := "AdviceWeaverModel") (T := T_MD) hx hb hts hin_MD hown hK hP (by decide) kr_MD (by decide) rfl 27 (by decide) (hts _ hw_529) (fun _ h9 => h9) rfl d_MD_transform_68 ?_
      refine lv_aload_n hx hb d_MD_transform_71 rfl (lv_at hl 0 rfl) ?_
      refine xw_getR (C := "AdviceWeaverModel") (T := T_MD) hx hb hts hin_MD hown hK hP (by decide) kr_MD (by decide) rfl 6 (by decide) (hts _ hw_447) (fun _ h9 => h9) rfl d_MD_transform_72 ?_
      refine lv_iload_n hx hb d_MD_transform_75 rfl (lv_at hl 1 rfl) ?_
      obtain ⟨hg28, h⟩ := xw_grdI h
      refine xw_iald hx hb hK hP (by decide) kr_m_length (by decide) hg28 d_MD_transform_76 ?_
      obtain ⟨hg29, h⟩ := xw_grdI h
      refine xw_iald hx hb hK hP (by decide) kr_m_lead (by decide) hg29 d_MD_transform_77 ?_
      refine xw_topi (fun v30 e31 => ?_)
      replace h := xw_letI e31 h
      refine lv_istore hx hb d_MD_transform_78 hl (by decide) rfl (fun ls hl => ?_)
      refine lv_iload hx hb d_MD_transform_80 (lv_at hl 0 rfl) ?_
      refine lv_aload_n hx hb d_MD_transform_82 rfl (lv_at hl 1 rfl) ?_
      refine xw_getR (C := "AdviceWeaverModel") (T := T_MD) hx hb hts hin_MD hown hK hP (by decide) kr_MD (by decide) rfl 16 (by decide) (hts _ hw_525) (fun _ h9 => h9) rfl d_MD_transform_83 ?_
      refine lv_iload_n hx hb d_MD_transform_86 rfl (lv_at hl 3 rfl) ?_
      obtain ⟨hg32, h⟩ := xw_grdI h
      refine xw_zald hx hb hK hP (by decide) kr_m_cover (by decide) hg32 d_MD_transform_87 ?_
      refine xw_jnI (fun j => ∀ (sq : xw_S) (i4_96 : Int) (t0_96 : Int) (t1_96 : Int), j sq i4_96 t0_96 t1_96 = some (sZ, r0) → ∀ (H : Heap) (locs : List Loc) (ls : Array Slot), va_P D vwCl (xw_ws kdR 29 ad cs Z sq) H → va_S A s.heap H locs → lv_has ls 7 [(0, .ref (ad 0)), (1, .int (xw_i p1)), (2, .int (xw_i p2)), (4, .int (xw_i i4_96))] → W p l e (headSpec w_MD_transform ({ frames := 3, cells := 0, slots := 0, locals := 70 })).room s m [.ref (ad 0), .int (xw_i p1), .int (xw_i p2)].toArray below meth c H locs 0 0 (MQ below (va_Qi (fun r u => r = xw_i r0 ∧ u = sZ) (xw_H D vwCl A kdR 29 ad cs Z tt) A) [.ref (ad 0), .int (xw_i p1), .int (xw_i p2)].toArray s 0 0 A) (F0 m 96 ls [.int (xw_i t0_96), .int (xw_i t1_96)])) h ?_ ?_
      · intro s35 i4_96 t0_96 t1_96 h H locs ls hP hS hl
        refine xw_iadd hx hb d_MD_transform_96 ?_
        refine lv_bipush (v := xw_i 120) hx hb d_MD_transform_97 (by decide) ?_
        obtain ⟨hg36, h⟩ := xw_grdI h
        refine xw_icmp_gt (tgt := 121) hx hb hg36 (by decide) d_MD_transform_99 (by decide) (fun hc37 => ?_) (fun hc37 => ?_)
        · replace h := xw_ifT hc37 h
          refine lv_iconst (v := xw_i 0) hx hb d_MD_transform_121 rfl ?_
          cases h
          exact xw_zret hx hb hr hlk hP hK hD hX hS (by decide) d_MD_transform_122
        · replace h := xw_ifF hc37 h
          refine lv_aload_n hx hb d_MD_transform_102 rfl (lv_at hl 0 rfl) ?_
          refine xw_getR (C := "AdviceWeaverModel") (T := T_MD) hx hb hts hin_MD hown hK hP (by decide) kr_MD (by decide) rfl 16 (by decide) (hts _ hw_525) (fun _ h9 => h9) rfl d_MD_transform_103 ?_
          refine lv_iload_n hx hb d_MD_transform_106 rfl (lv_at hl 2 rfl) ?_
          obtain ⟨hg38, h⟩ := xw_grdI h
          refine xw_zald hx hb hK hP (by decide) kr_m_cover (by decide) hg38 d_MD_transform_107 ?_
          refine xw_jnI (fun j => ∀ (sq : xw_S) (i4_123 : Int), j sq i4_123 = some (sZ, r0) → ∀ (H : Heap) (locs : List Loc) (ls : Array Slot), va_P D vwCl (xw_ws kdR 29 ad cs Z sq) H → va_S A s.heap H locs → lv_has ls 7 [(0, .ref (ad 0)), (1, .int (xw_i p1)), (2, .int (xw_i p2)), (4, .int (xw_i i4_123))] → W p l e (headSpec w_MD_transform ({ frames := 3, cells := 0, slots := 0, locals := 70 })).room s m [.ref (ad 0), .int (xw_i p1), .int (xw_i p2)].toArray below meth c H locs 0 0 (MQ below (va_Qi (fun r u => r = xw_i r0 ∧ u = sZ) (xw_H D vwCl A kdR 29 ad cs Z tt) A) [.ref (ad 0), .int (xw_i p1), .int (xw_i p2)].toArray s 0 0 A) (F0 m 123 ls [])) h ?_ ?_
          · intro s44 i4_123 h H locs ls hP hS hl
            refine lv_aload_n hx hb d_MD_transform_123 rfl (lv_at hl 0 rfl) ?_
            refine lv_iconst (v := xw_i 0) hx hb d_MD_transform_124 rfl ?_
            refine xw_putI (C := "AdviceWeaverModel") (T := T_MD) hx hb hts hin_MD ty_MD ty_MD_ok nm_MD hown hK hP hD hS (by decide) kr_MD (by decide) rfl 29 (by decide) (hts _ hw_533) (fun _ h9 => h9) rfl (by decide +kernel) rfl d_MD_transform_125 (fun s45 e46 H locs hP hS => ?_)
            replace h := xw_letI e46 h
            refine lv_iconst (v := xw_i 0) hx hb d_MD_transform_128 rfl ?_
            refine lv_istore hx hb d_MD_transform_129 hl (by decide) rfl (fun ls hl => ?_)
            refine lv_aload_n hx hb d_MD_transform_131 rfl (lv_at hl 1 rfl) ?_
            refine xw_getR (C := "AdviceWeaverModel") (T := T_MD) hx hb hts hin_MD hown hK hP (by decide) kr_MD (by decide) rfl 16 (by decide) (hts _ hw_525) (fun _ h9 => h9) rfl d_MD_transform_132 ?_
            refine lv_iload_n hx hb d_MD_transform_135 rfl (lv_at hl 3 rfl) ?_
            obtain ⟨hg47, h⟩ := xw_grdI h
            refine xw_zald hx hb hK hP (by decide) kr_m_cover (by decide) hg47 d_MD_transform_136 ?_
            refine xw_jnI (fun j => ∀ (sq : xw_S) (i4_153 : Int) (i5_153 : Int), j sq i4_153 i5_153 = some (sZ, r0) → ∀ (H : Heap) (locs : List Loc) (ls : Array Slot), va_P D vwCl (xw_ws kdR 29 ad cs Z sq) H → va_S A s.heap H locs → lv_has ls 7 [(0, .ref (ad 0)), (1, .int (xw_i p1)), (2, .int (xw_i p2)), (4, .int (xw_i i4_153)), (5, .int (xw_i i5_153))] → W p l e (headSpec w_MD_transform ({ frames := 3, cells := 0, slots := 0, locals := 70 })).room s m [.ref (ad 0), .int (xw_i p1), .int (xw_i p2)].toArray below meth c H locs 0 0 (MQ below (va_Qi (fun r u => r = xw_i r0 ∧ u = sZ) (xw_H D vwCl A kdR 29 ad cs Z tt) A) [.ref (ad 0), .int (xw_i p1), .int (xw_i p2)].toArray s 0 0 A) (F0 m 153 ls [])) h ?_ ?_
            · intro s56 i4_153 i5_153 h H locs ls hP hS hl
              refine lv_iconst (v := xw_i 0) hx hb d_MD_transform_153 rfl ?_
              refine lv_istore hx hb d_MD_transform_154 hl (by decide) rfl (fun ls hl => ?_)
              refine xw_jnI (fun j => ∀ (sq : xw_S) (i4_256 : Int), j sq i4_256 = some (sZ, r0) → ∀ (H : Heap) (locs : List Loc) (ls : Array Slot), va_P D vwCl (xw_ws kdR 29 ad cs Z sq) H → va_S A s.heap H locs → lv_has ls 7 [(0, .ref (ad 0)), (1, .int (xw_i p1)), (2, .int (xw_i p2)), (4, .int (xw_i i4_256))] → W p l e (headSpec w_MD_transform ({ frames := 3, cells := 0, slots := 0, locals := 70 })).room s m [.ref (ad 0), .int (xw_i p1), .int (xw_i p2)].toArray below meth c H locs 0 0 (MQ below (va_Qi (fun r u => r = xw_i r0 ∧ u = sZ) (xw_H D vwCl A kdR 29 ad cs Z tt) A) [.ref (ad 0), .int (xw_i p1), .int (xw_i p2)].toArray s 0 0 A) (F0 m 256 ls [])) h ?_ ?_
              · intro s92 i4_256 h H locs ls hP hS hl
                refine lv_iconst (v := xw_i 0) hx hb d_MD_transform_256 rfl ?_
                refine lv_istore hx hb d_MD_transform_257 hl (by decide) rfl (fun ls hl => ?_)
                refine xw_jnI (fun j => ∀ (sq : xw_S) (i4_330 : Int), j sq i4_330 = some (sZ, r0) → ∀ (H : Heap) (locs : List Loc) (ls : Array Slot), va_P D vwCl (xw_ws kdR 29 ad cs Z sq) H → va_S A s.heap H locs → lv_has ls 7 [(0, .ref (ad 0)), (1, .int (xw_i p1)), (2, .int (xw_i p2)), (4, .int (xw_i i4_330))] → W p l e (headSpec w_MD_transform ({ frames := 3, cells := 0, slots := 0, locals := 70 })).room s m [.ref (ad 0), .int (xw_i p1), .int (xw_i p2)].toArray below meth c H locs 0 0 (MQ below (va_Qi (fun r u => r = xw_i r0 ∧ u = sZ) (xw_H D vwCl A kdR 29 ad cs Z tt) A) [.ref (ad 0), .int (xw_i p1), .int (xw_i p2)].toArray s 0 0 A) (F0 m 330 ls [])) h ?_ ?_
                · intro s108 i4_330 h H locs ls hP hS hl
                  refine lv_aload_n hx hb d_MD_transform_330 rfl (lv_at hl 0 rfl) ?_
                  refine xw_getR (C := "AdviceWeaverModel") (T := T_MD) hx hb hts hin_MD hown hK hP (by decide) kr_MD (by decide) rfl 16 (by decide) (hts _ hw_525) (fun _ h9 => h9) rfl d_MD_transform_331 ?_
                  refine lv_iload_n hx hb d_MD_transform_334 rfl (lv_at hl 2 rfl) ?_
                  obtain ⟨hg109, h⟩ := xw_grdI h
                  refine xw_zald hx hb hK hP (by decide) kr_m_cover (by decide) hg109 d_MD_transform_335 ?_
                  refine xw_jnI (fun j => ∀ (sq : xw_S), j sq = some (sZ, r0) → ∀ (H : Heap) (locs : List Loc) (ls : Array Slot), va_P D vwCl (xw_ws kdR 29 ad cs Z sq) H → va_S A s.heap H locs → lv_has ls 7 [(0, .ref (ad 0)), (1, .int (xw_i p1))] → W p l e (headSpec w_MD_transform ({ frames := 3, cells := 0, slots := 0, locals := 70 })).room s m [.ref (ad 0), .int (xw_i p1), .int (xw_i p2)].toArray below meth c H locs 0 0 (MQ below (va_Qi (fun r u => r = xw_i r0 ∧ u = sZ) (xw_H D vwCl A kdR 29 ad cs Z tt) A) [.ref (ad 0), .int (xw_i p1), .int (xw_i p2)].toArray s 0 0 A) (F0 m 425 ls [])) h ?_ ?_
                  · intro s138 h H locs ls hP hS hl
                    refine lv_iconst (v := xw_i 0) hx hb d_MD_transform_425 rfl ?_
                    refine lv_istore hx hb d_MD_transform_426 hl (by decide) rfl (fun ls hl => ?_)
                    refine xw_jnI (fun j => ∀ (sq : xw_S), j sq = some (sZ, r0) → ∀ (H : Heap) (locs : List Loc) (ls : Array Slot), va_P D vwCl (xw_ws kdR 29 ad cs Z sq) H → va_S A s.heap H locs → lv_has ls 7 [(0, .ref (ad 0)), (1, .int (xw_i p1))] → W p l e (headSpec w_MD_transform ({ frames := 3, cells := 0, slots := 0, locals := 70 })).room s m [.ref (ad 0), .int (xw_i p1), .int (xw_i p2)].toArray below meth c H locs 0 0 (MQ below (va_Qi (fun r u => r = xw_i r0 ∧ u = sZ) (xw_H D vwCl A kdR 29 ad cs Z tt) A) [.ref (ad 0), .int (xw_i p1), .int (xw_i p2)].toArray s 0 0 A) (F0 m 462 ls [])) h ?_ ?_
                    · intro s148 h H locs ls hP hS hl
                      refine lv_aload_n hx hb d_MD_transform_462 rfl (lv_at hl 0 rfl) ?_
                      refine xw_getR (C := "AdviceWeaverModel") (T := T_MD) hx hb hts hin_MD hown hK hP (by decide) kr_MD (by decide) rfl 6 (by decide) (hts _ hw_447) (fun _ h9 => h9) rfl d_MD_transform_463 ?_
                      refine lv_iload_n hx hb d_MD_transform_466 rfl (lv_at hl 1 rfl) ?_
                      refine lv_aload_n hx hb d_MD_transform_467 rfl (lv_at hl 0 rfl) ?_
                      refine xw_getI (C := "AdviceWeaverModel") (T := T_MD) hx hb hts hin_MD hown hK hP (by decide) kr_MD (by decide) rfl 29 (by decide) (hts _ hw_533) (fun _ h9 => h9) rfl d_MD_transform_468 ?_
                      obtain ⟨hg149, h⟩ := xw_grdI h
                      refine xw_iast hx hb hK hP hD hS (by decide) kr_m_length (by decide) hg149 d_MD_transform_471 (fun s150 e151 H locs hP hS => ?_)
                      replace h := xw_letI e151 h
                      refine lv_iconst (v := xw_i 1) hx hb d_MD_transform_472 rfl ?_
                      cases h
                      exact xw_zret hx hb hr hlk hP hK hD hX hS (by decide) d_MD_transform_473
                    · intro k462 hk462 h
                      exact hlp428 p1 k462 hk462 fu s138 0 h _ _ _ hP hS (lv_sub hl [1, 2, 0] rfl)
                  · intro j425 hj425 h
                    obtain ⟨hg110, h⟩ := xw_grdI h
                    refine xw_if_ne (tgt := 425) hx hb hg110 d_MD_transform_336 (by decide) (fun hc111 => ?_) (fun hc111 => ?_)
                    · replace h := xw_ifF hc111 h
                      exact hj425 s108 h _ _ _ hP hS (lv_sub hl [0, 1] rfl)
                    · replace h := xw_ifT hc111 h
                      refine lv_aload_n hx hb d_MD_transform_339 rfl (lv_at hl 0 rfl) ?_
                      refine lv_bipush (v := xw_i 30) hx hb d_MD_transform_340 (by decide) ?_
                      obtain ⟨s112, hc113, h⟩ := xw_bndI h
                      refine xw_callVv (C := "AdviceWeaverModel") (T := T_MD) ⟨hx, hb, hml, hown, hts⟩ (c_MD_emit l D A ad cs Z tt fu s108 s112 30 hc113) (cwV 1 hts (gd_V hw_534 hw_535 hw_536 hw_433 hw_537) rfl rfl rfl (by decide +kernel) ⟨Nat.le_of_ble_eq_true rfl, Nat.le_of_ble_eq_true rfl⟩) hP hK hD hX hS (by decide) kr_MD (by decide) rfl rfl hl.1 rfl (Nat.le_of_ble_eq_true rfl) d_MD_transform_342 (fun H locs hP hS => ?_)
                      refine lv_aload_n hx hb d_MD_transform_345 rfl (lv_at hl 0 rfl) ?_
                      refine lv_iconst (v := xw_i 3) hx hb d_MD_transform_346 rfl ?_
                      refine lv_iload_n hx hb d_MD_transform_347 rfl (lv_at hl 2 rfl) ?_
                      refine xw_imul hx hb d_MD_transform_348 ?_
                      refine lv_iconst (v := xw_i 2) hx hb d_MD_transform_349 rfl ?_
                      refine xw_iadd hx hb d_MD_transform_350 ?_
                      obtain ⟨s115, hc116, h⟩ := xw_bndI h
                      refine xw_callVv (C := "AdviceWeaverModel") (T := T_MD) ⟨hx, hb, hml, hown, hts⟩ (c_MD_emit l D A ad cs Z tt fu s112 s115 ((3 * p2) + 2) hc116) (cwV 1 hts (gd_V hw_534 hw_535 hw_536 hw_433 hw_537) rfl rfl rfl (by decide +kernel) ⟨Nat.le_of_ble_eq_true rfl, Nat.le_of_ble_eq_true rfl⟩) hP hK hD hX hS (by decide) kr_MD (by decide) rfl rfl hl.1 rfl (Nat.le_of_ble_eq_true rfl) d_MD_transform_351 (fun H locs hP hS => ?_)
                      refine lv_aload_n hx hb d_MD_transform_354 rfl (lv_at hl 0 rfl) ?_
                      refine lv_bipush (v := xw_i 32) hx hb d_MD_transform_355 (by decide) ?_
                      obtain ⟨s118, hc119, h⟩ := xw_bndI h
                      refine xw_callVv (C := "AdviceWeaverModel") (T := T_MD) ⟨hx, hb, hml, hown, hts⟩ (c_MD_emit l D A ad cs Z tt fu s115 s118 32 hc119) (cwV 1 hts (gd_V hw_534 hw_535 hw_536 hw_433 hw_537) rfl rfl rfl (by decide +kernel) ⟨Nat.le_of_ble_eq_true rfl, Nat.le_of_ble_eq_true rfl⟩) hP hK hD hX hS (by decide) kr_MD (by decide) rfl rfl hl.1 rfl (Nat.le_of_ble_eq_true rfl) d_MD_transform_357 (fun H locs hP hS => ?_)
                      refine lv_bipush (v := xw_i 20) hx hb d_MD_transform_360 (by decide) ?_
                      refine lv_iload_n hx hb d_MD_transform_362 rfl (lv_at hl 1 rfl) ?_
                      refine xw_imul hx hb d_MD_transform_363 ?_
                      refine lv_iconst (v := xw_i 4) hx hb d_MD_transform_364 rfl ?_
                      refine lv_aload_n hx hb d_MD_transform_365 rfl (lv_at hl 0 rfl) ?_
                      refine xw_getR (C := "AdviceWeaverModel") (T := T_MD) hx hb hts hin_MD hown hK hP (by decide) kr_MD (by decide) rfl 8 (by decide) (hts _ hw_449) (fun _ h9 => h9) rfl d_MD_transform_366 ?_
                      refine lv_iload_n hx hb d_MD_transform_369 rfl (lv_at hl 1 rfl) ?_
                      obtain ⟨hg121, h⟩ := xw_grdI h
                      refine xw_iald hx hb hK hP (by decide) kr_m_handlers (by decide) hg121 d_MD_transform_370 ?_
                      refine xw_imul hx hb d_MD_transform_371 ?_
                      refine xw_iadd hx hb d_MD_transform_372 ?_
                      refine xw_topi (fun v122 e123 => ?_)
                      replace h := xw_letI e123 h
                      refine lv_istore hx hb d_MD_transform_373 hl (by decide) rfl (fun ls hl => ?_)
                      refine lv_aload_n hx hb d_MD_transform_375 rfl (lv_at hl 1 rfl) ?_
                      refine xw_getR (C := "AdviceWeaverModel") (T := T_MD) hx hb hts hin_MD hown hK hP (by decide) kr_MD (by decide) rfl 9 (by decide) (hts _ hw_450) (fun _ h9 => h9) rfl d_MD_transform_376 ?_
                      refine lv_iload hx hb d_MD_transform_379 (lv_at hl 0 rfl) ?_
                      refine lv_iconst (v := xw_i 0) hx hb d_MD_transform_381 rfl ?_
                      obtain ⟨hg124, h⟩ := xw_grdI h
                      refine xw_iast hx hb hK hP hD hS (by decide) kr_m_handler (by decide) hg124 d_MD_transform_382 (fun s125 e126 H locs hP hS => ?_)
                      replace h := xw_letI e126 h
                      refine lv_aload_n hx hb d_MD_transform_383 rfl (lv_at hl 1 rfl) ?_
                      refine xw_getR (C := "AdviceWeaverModel") (T := T_MD) hx hb hts hin_MD hown hK hP (by decide) kr_MD (by decide) rfl 9 (by decide) (hts _ hw_450) (fun _ h9 => h9) rfl d_MD_transform_384 ?_
                      refine lv_iload hx hb d_MD_transform_387 (lv_at hl 0 rfl) ?_
                      refine lv_iconst (v := xw_i 1) hx hb d_MD_transform_389 rfl ?_
                      refine xw_iadd hx hb d_MD_transform_390 ?_
                      refine lv_iload hx hb d_MD_transform_391 (lv_at hl 4 rfl) ?_
                      obtain ⟨hg127, h⟩ := xw_grdI h
                      refine xw_iast hx hb hK hP hD hS (by decide) kr_m_handler (by decide) hg127 d_MD_transform_393 (fun s128 e129 H locs hP hS => ?_)
                      replace h := xw_letI e129 h
                      refine lv_aload_n hx hb d_MD_transform_394 rfl (lv_at hl 1 rfl) ?_
                      refine xw_getR (C := "AdviceWeaverModel") (T := T_MD) hx hb hts hin_MD hown hK hP (by decide) kr_MD (by decide) rfl 9 (by decide) (hts _ hw_450) (fun _ h9 => h9) rfl d_MD_transform_395 ?_
                      refine lv_iload hx hb d_MD_transform_398 (lv_at hl 0 rfl) ?_
                      refine lv_iconst (v := xw_i 2) hx hb d_MD_transform_400 rfl ?_
                      refine xw_iadd hx hb d_MD_transform_401 ?_
                      refine lv_iload hx hb d_MD_transform_402 (lv_at hl 4 rfl) ?_
                      obtain ⟨hg130, h⟩ := xw_grdI h
                      refine xw_iast hx hb hK hP hD hS (by decide) kr_m_handler (by decide) hg130 d_MD_transform_404 (fun s131 e132 H locs hP hS => ?_)
                      replace h := xw_letI e132 h
                      refine lv_aload_n hx hb d_MD_transform_405 rfl (lv_at hl 1 rfl) ?_
                      refine xw_getR (C := "AdviceWeaverModel") (T := T_MD) hx hb hts hin_MD hown hK hP (by decide) kr_MD (by decide) rfl 9 (by decide) (hts _ hw_450) (fun _ h9 => h9) rfl d_MD_transform_406 ?_
                      refine lv_iload hx hb d_MD_transform_409 (lv_at hl 0 rfl) ?_
                      refine lv_iconst (v := xw_i 3) hx hb d_MD_transform_411 rfl ?_
                      refine xw_iadd hx hb d_MD_transform_412 ?_
                      refine lv_iconst (v := xw_i 0) hx hb d_MD_transform_413 rfl ?_
                      obtain ⟨hg133, h⟩ := xw_grdI h
                      refine xw_iast hx hb hK hP hD hS (by decide) kr_m_handler (by decide) hg133 d_MD_transform_414 (fun s134 e135 H locs hP hS => ?_)
                      replace h := xw_letI e135 h
                      refine lv_aload_n hx hb d_MD_transform_415 rfl (lv_at hl 1 rfl) ?_
                      refine xw_getR (C := "AdviceWeaverModel") (T := T_MD) hx hb hts hin_MD hown hK hP (by decide) kr_MD (by decide) rfl 8 (by decide) (hts _ hw_449) (fun _ h9 => h9) rfl d_MD_transform_416 ?_
                      refine lv_iload_n hx hb d_MD_transform_419 rfl (lv_at hl 2 rfl) ?_
                      refine lv_dup2_11 hx hb d_MD_transform_420 rfl rfl ?_
                      refine xw_iald hx hb hK hP (by decide) kr_m_handlers (by decide) hg121 d_MD_transform_421 ?_
                      refine lv_iconst (v := xw_i 1) hx hb d_MD_transform_422 rfl ?_
                      refine xw_iadd hx hb d_MD_transform_423 ?_
                      refine xw_iast hx hb hK hP hD hS (by decide) kr_m_handlers (by decide) hg121 d_MD_transform_424 (fun s136 e137 H locs hP hS => ?_)
                      replace h := xw_letI e137 h
                      exact hj425 s136 h _ _ _ hP hS (lv_sub hl [1, 2] rfl)
                · intro k330 hk330 h
                  exact hlp259 p1 p2 i4_256 k330 hk330 fu s92 0 h _ _ _ hP hS (lv_sub hl [1, 2, 3, 4, 0] rfl)
              · intro k256 hk256 h
                exact hlp156 p1 p2 i4_153 k256 hk256 fu s56 i5_153 0 h _ _ _ hP hS (lv_sub hl [1, 2, 3, 4, 5, 0] rfl)
            · intro j153 hj153 h
              obtain ⟨hg48, h⟩ := xw_grdI h
              refine xw_if_ne (tgt := 153) hx hb hg48 d_MD_transform_137 (by decide) (fun hc49 => ?_) (fun hc49 => ?_)
              · replace h := xw_ifF hc49 h
                exact hj153 s45 i4_123 0 h _ _ _ hP hS (lv_sub hl [1, 2, 3, 4, 0] rfl)
              · replace h := xw_ifT hc49 h
                refine lv_aload_n hx hb d_MD_transform_140 rfl (lv_at hl 1 rfl) ?_
                refine lv_bipush (v := xw_i 30) hx hb d_MD_transform_141 (by decide) ?_
                obtain ⟨s50, hc51, h⟩ := xw_bndI h
                refine xw_callVv (C := "AdviceWeaverModel") (T := T_MD) ⟨hx, hb, hml, hown, hts⟩ (c_MD_emit l D A ad cs Z tt fu s45 s50 30 hc51) (cwV 1 hts (gd_V hw_534 hw_535 hw_536 hw_433 hw_537) rfl rfl rfl (by decide +kernel) ⟨Nat.le_of_ble_eq_true rfl, Nat.le_of_ble_eq_true rfl⟩) hP hK hD hX hS (by decide) kr_MD (by decide) rfl rfl hl.1 rfl (Nat.le_of_ble_eq_true rfl) d_MD_transform_143 (fun H locs hP hS => ?_)
                refine lv_aload_n hx hb d_MD_transform_146 rfl (lv_at hl 1 rfl) ?_
                refine lv_iconst (v := xw_i 3) hx hb d_MD_transform_147 rfl ?_
                refine lv_iload_n hx hb d_MD_transform_148 rfl (lv_at hl 3 rfl) ?_
                refine xw_imul hx hb d_MD_transform_149 ?_
                obtain ⟨s53, hc54, h⟩ := xw_bndI h
                refine xw_callVv (C := "AdviceWeaverModel") (T := T_MD) ⟨hx, hb, hml, hown, hts⟩ (c_MD_emit l D A ad cs Z tt fu s50 s53 (3 * p2) hc54) (cwV 1 hts (gd_V hw_534 hw_535 hw_536 hw_433 hw_537) rfl rfl rfl (by decide +kernel) ⟨Nat.le_of_ble_eq_true rfl, Nat.le_of_ble_eq_true rfl⟩) hP hK hD hX hS (by decide) kr_MD (by decide) rfl rfl hl.1 rfl (Nat.le_of_ble_eq_true rfl) d_MD_transform_150 (fun H locs hP hS => ?_)
                exact hj153 s53 i4_123 0 h _ _ _ hP hS (lv_sub hl [1, 2, 3, 4, 0] rfl)
          · intro j123 hj123 h
            obtain ⟨hg39, h⟩ := xw_grdI h
            refine xw_if_ne (tgt := 123) hx hb hg39 d_MD_transform_108 (by decide) (fun hc40 => ?_) (fun hc40 => ?_)
            · replace h := xw_ifF hc40 h
              exact hj123 s35 i4_96 h _ _ _ hP hS (lv_sub hl [0, 1, 2, 3] rfl)
            · replace h := xw_ifT hc40 h
              refine lv_aload_n hx hb d_MD_transform_111 rfl (lv_at hl 0 rfl) ?_
              refine xw_getR (C := "AdviceWeaverModel") (T := T_MD) hx hb hts hin_MD hown hK hP (by decide) kr_MD (by decide) rfl 8 (by decide) (hts _ hw_449) (fun _ h9 => h9) rfl d_MD_transform_112 ?_
              refine lv_iload_n hx hb d_MD_transform_115 rfl (lv_at hl 1 rfl) ?_
              obtain ⟨hg41, h⟩ := xw_grdI h
              refine xw_iald hx hb hK hP (by decide) kr_m_handlers (by decide) hg41 d_MD_transform_116 ?_
              refine lv_iconst (v := xw_i 5) hx hb d_MD_transform_117 rfl ?_
              obtain ⟨hg42, h⟩ := xw_grdI h
              refine xw_icmp_ne (tgt := 123) hx hb hg42 (by decide) d_MD_transform_118 (by decide) (fun hc43 => ?_) (fun hc43 => ?_)
              · replace h := xw_ifF hc43 h
                exact hj123 s35 i4_96 h _ _ _ hP hS (lv_sub hl [0, 1, 2, 3] rfl)
              · replace h := xw_ifT hc43 h
                refine lv_iconst (v := xw_i 0) hx hb d_MD_transform_121 rfl ?_
                cases h
                exact xw_zret hx hb hr hlk hP hK hD hX hS (by decide) d_MD_transform_122
      · intro j96 hj96 h
        obtain ⟨hg33, h⟩ := xw_grdI h
        refine xw_if_eq (tgt := 95) hx hb hg33 d_MD_transform_88 (by decide) (fun hc34 => ?_) (fun hc34 => ?_)
        · replace h := xw_ifT hc34 h
          refine lv_iconst (v := xw_i 3) hx hb d_MD_transform_95 rfl ?_
          exact hj96 s27 v30 3 v30 h _ _ _ hP hS (lv_sub hl [1, 2, 3, 0] rfl)
        · replace h := xw_ifF hc34 h
          refine lv_iconst (v := xw_i 0) hx hb d_MD_transform_91 rfl ?_
          refine lv_goto (tgt := 96) hx hb d_MD_transform_92 (by decide) ?_
          exact hj96 s27 v30 0 v30 h _ _ _ hP hS (lv_sub hl [1, 2, 3, 0] rfl)
    · intro k67 hk67 h
      exact hlp40 p1 p2 k67 hk67 fu s16 1 h _ _ _ hP hS (lv_sub hl [1, 2, 3, 0] rfl)
  · intro k38 hk38 h
    exact hlp19 p1 p2 k38 hk38 fu s5 0 h _ _ _ hP hS (lv_sub hl [1, 2, 3, 0] rfl)
