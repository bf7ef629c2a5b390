/-! the reference, piece 2 -/
theorem d_MD_transformer_0 : decode b_MD_transformer 0 = .ok (.iload_n 2, 1) := by decide +kernel
theorem d_MD_transformer_1 : decode b_MD_transformer 1 = .ok (.ifCond .eq 14, 3) := by decide +kernel
theorem d_MD_transformer_4 : decode b_MD_transformer 4 = .ok (.iload_n 2, 1) := by decide +kernel
theorem d_MD_transformer_5 : decode b_MD_transformer 5 = .ok (.bipush 97, 2) := by decide +kernel
theorem d_MD_transformer_7 : decode b_MD_transformer 7 = .ok (.bipush 122, 2) := by decide +kernel
theorem d_MD_transformer_9 : decode b_MD_transformer 9 = .ok (.invokestatic 96, 3) := by decide +kernel
theorem d_MD_transformer_12 : decode b_MD_transformer 12 = .ok (.ifCond .ne 20, 3) := by decide +kernel
theorem d_MD_transformer_15 : decode b_MD_transformer 15 = .ok (.iload_n 3, 1) := by decide +kernel
theorem d_MD_transformer_16 : decode b_MD_transformer 16 = .ok (.iconst (-1), 1) := by decide +kernel
theorem d_MD_transformer_17 : decode b_MD_transformer 17 = .ok (.iconst 2, 1) := by decide +kernel
theorem d_MD_transformer_18 : decode b_MD_transformer 18 = .ok (.invokestatic 96, 3) := by decide +kernel
theorem d_MD_transformer_21 : decode b_MD_transformer 21 = .ok (.ifCond .ne 11, 3) := by decide +kernel
theorem d_MD_transformer_24 : decode b_MD_transformer 24 = .ok (.aload_n 0, 1) := by decide +kernel
theorem d_MD_transformer_25 : decode b_MD_transformer 25 = .ok (.getfield 188, 3) := by decide +kernel
theorem d_MD_transformer_28 : decode b_MD_transformer 28 = .ok (.iconst 3, 1) := by decide +kernel
theorem d_MD_transformer_29 : decode b_MD_transformer 29 = .ok (.if_icmp .lt 5, 3) := by decide +kernel
theorem d_MD_transformer_32 : decode b_MD_transformer 32 = .ok (.iconst (-1), 1) := by decide +kernel
theorem d_MD_transformer_33 : decode b_MD_transformer 33 = .ok (.ireturn, 1) := by decide +kernel
theorem d_MD_transformer_34 : decode b_MD_transformer 34 = .ok (.aload_n 0, 1) := by decide +kernel
theorem d_MD_transformer_35 : decode b_MD_transformer 35 = .ok (.getfield 37, 3) := by decide +kernel
theorem d_MD_transformer_38 : decode b_MD_transformer 38 = .ok (.aload_n 0, 1) := by decide +kernel
theorem d_MD_transformer_39 : decode b_MD_transformer 39 = .ok (.getfield 188, 3) := by decide +kernel
theorem d_MD_transformer_42 : decode b_MD_transformer 42 = .ok (.iload_n 1, 1) := by decide +kernel
theorem d_MD_transformer_43 : decode b_MD_transformer 43 = .ok (.bastore, 1) := by decide +kernel
theorem d_MD_transformer_44 : decode b_MD_transformer 44 = .ok (.aload_n 0, 1) := by decide +kernel
theorem d_MD_transformer_45 : decode b_MD_transformer 45 = .ok (.getfield 41, 3) := by decide +kernel
theorem d_MD_transformer_48 : decode b_MD_transformer 48 = .ok (.aload_n 0, 1) := by decide +kernel
theorem d_MD_transformer_49 : decode b_MD_transformer 49 = .ok (.getfield 188, 3) := by decide +kernel
theorem d_MD_transformer_52 : decode b_MD_transformer 52 = .ok (.iload_n 2, 1) := by decide +kernel
theorem d_MD_transformer_53 : decode b_MD_transformer 53 = .ok (.iastore, 1) := by decide +kernel
theorem d_MD_transformer_54 : decode b_MD_transformer 54 = .ok (.aload_n 0, 1) := by decide +kernel
theorem d_MD_transformer_55 : decode b_MD_transformer 55 = .ok (.getfield 44, 3) := by decide +kernel
theorem d_MD_transformer_58 : decode b_MD_transformer 58 = .ok (.aload_n 0, 1) := by decide +kernel
theorem d_MD_transformer_59 : decode b_MD_transformer 59 = .ok (.getfield 188, 3) := by decide +kernel
theorem d_MD_transformer_62 : decode b_MD_transformer 62 = .ok (.iload_n 3, 1) := by decide +kernel
theorem d_MD_transformer_63 : decode b_MD_transformer 63 = .ok (.iastore, 1) := by decide +kernel
theorem d_MD_transformer_64 : decode b_MD_transformer 64 = .ok (.aload_n 0, 1) := by decide +kernel
theorem d_MD_transformer_65 : decode b_MD_transformer 65 = .ok (.dup, 1) := by decide +kernel
theorem d_MD_transformer_66 : decode b_MD_transformer 66 = .ok (.getfield 188, 3) := by decide +kernel
theorem d_MD_transformer_69 : decode b_MD_transformer 69 = .ok (.iconst 1, 1) := by decide +kernel
theorem d_MD_transformer_70 : decode b_MD_transformer 70 = .ok (.iadd, 1) := by decide +kernel
theorem d_MD_transformer_71 : decode b_MD_transformer 71 = .ok (.putfield 188, 3) := by decide +kernel
theorem d_MD_transformer_74 : decode b_MD_transformer 74 = .ok (.aload_n 0, 1) := by decide +kernel
theorem d_MD_transformer_75 : decode b_MD_transformer 75 = .ok (.getfield 188, 3) := by decide +kernel
theorem d_MD_transformer_78 : decode b_MD_transformer 78 = .ok (.iconst 1, 1) := by decide +kernel
theorem d_MD_transformer_79 : decode b_MD_transformer 79 = .ok (.isub, 1) := by decide +kernel
theorem d_MD_transformer_80 : decode b_MD_transformer 80 = .ok (.ireturn, 1) := by decide +kernel
theorem d_MD_unchain_0 : decode b_MD_unchain 0 = .ok (.aload_n 0, 1) := by decide +kernel
theorem d_MD_unchain_1 : decode b_MD_unchain 1 = .ok (.iconst 0, 1) := by decide +kernel
theorem d_MD_unchain_2 : decode b_MD_unchain 2 = .ok (.putfield 188, 3) := by decide +kernel
theorem d_MD_unchain_5 : decode b_MD_unchain 5 = .ok (.return_, 1) := by decide +kernel
theorem d_MD_choose_0 : decode b_MD_choose 0 = .ok (.iconst 0, 1) := by decide +kernel
theorem d_MD_choose_1 : decode b_MD_choose 1 = .ok (.istore_n 3, 1) := by decide +kernel
theorem d_MD_choose_2 : decode b_MD_choose 2 = .ok (.iload_n 3, 1) := by decide +kernel
theorem d_MD_choose_3 : decode b_MD_choose 3 = .ok (.bipush 120, 2) := by decide +kernel
theorem d_MD_choose_5 : decode b_MD_choose 5 = .ok (.if_icmp .gt 54, 3) := by decide +kernel
theorem d_MD_choose_8 : decode b_MD_choose 8 = .ok (.aload_n 0, 1) := by decide +kernel
theorem d_MD_choose_9 : decode b_MD_choose 9 = .ok (.getfield 60, 3) := by decide +kernel
theorem d_MD_choose_12 : decode b_MD_choose 12 = .ok (.iload_n 3, 1) := by decide +kernel
theorem d_MD_choose_13 : decode b_MD_choose 13 = .ok (.iload_n 2, 1) := by decide +kernel
theorem d_MD_choose_14 : decode b_MD_choose 14 = .ok (.ifCond .ne 37, 3) := by decide +kernel
theorem d_MD_choose_17 : decode b_MD_choose 17 = .ok (.iload_n 3, 1) := by decide +kernel
theorem d_MD_choose_18 : decode b_MD_choose 18 = .ok (.aload_n 0, 1) := by decide +kernel
theorem d_MD_choose_19 : decode b_MD_choose 19 = .ok (.getfield 25, 3) := by decide +kernel
theorem d_MD_choose_22 : decode b_MD_choose 22 = .ok (.iload_n 1, 1) := by decide +kernel
theorem d_MD_choose_23 : decode b_MD_choose 23 = .ok (.iaload, 1) := by decide +kernel
theorem d_MD_choose_24 : decode b_MD_choose 24 = .ok (.if_icmp .ge 27, 3) := by decide +kernel
theorem d_MD_choose_27 : decode b_MD_choose 27 = .ok (.aload_n 0, 1) := by decide +kernel
theorem d_MD_choose_28 : decode b_MD_choose 28 = .ok (.getfield 50, 3) := by decide +kernel
theorem d_MD_choose_31 : decode b_MD_choose 31 = .ok (.iload_n 3, 1) := by decide +kernel
theorem d_MD_choose_32 : decode b_MD_choose 32 = .ok (.baload, 1) := by decide +kernel
theorem d_MD_choose_33 : decode b_MD_choose 33 = .ok (.ifCond .eq 18, 3) := by decide +kernel
theorem d_MD_choose_36 : decode b_MD_choose 36 = .ok (.aload_n 0, 1) := by decide +kernel
theorem d_MD_choose_37 : decode b_MD_choose 37 = .ok (.iload_n 1, 1) := by decide +kernel
theorem d_MD_choose_38 : decode b_MD_choose 38 = .ok (.iload_n 3, 1) := by decide +kernel
theorem d_MD_choose_39 : decode b_MD_choose 39 = .ok (.invokevirtual 104, 3) := by decide +kernel
theorem d_MD_choose_42 : decode b_MD_choose 42 = .ok (.bipush 14, 2) := by decide +kernel
theorem d_MD_choose_44 : decode b_MD_choose 44 = .ok (.if_icmp .ne 7, 3) := by decide +kernel
theorem d_MD_choose_47 : decode b_MD_choose 47 = .ok (.iconst 1, 1) := by decide +kernel
theorem d_MD_choose_48 : decode b_MD_choose 48 = .ok (.goto 4, 3) := by decide +kernel
theorem d_MD_choose_51 : decode b_MD_choose 51 = .ok (.iconst 0, 1) := by decide +kernel
theorem d_MD_choose_52 : decode b_MD_choose 52 = .ok (.bastore, 1) := by decide +kernel
theorem d_MD_choose_53 : decode b_MD_choose 53 = .ok (.iinc 3 1, 3) := by decide +kernel
theorem d_MD_choose_56 : decode b_MD_choose 56 = .ok (.goto (-54), 3) := by decide +kernel
theorem d_MD_choose_59 : decode b_MD_choose 59 = .ok (.iload_n 2, 1) := by decide +kernel
theorem d_MD_choose_60 : decode b_MD_choose 60 = .ok (.ifCond .ne 4, 3) := by decide +kernel
theorem d_MD_choose_63 : decode b_MD_choose 63 = .ok (.return_, 1) := by decide +kernel
theorem d_MD_choose_64 : decode b_MD_choose 64 = .ok (.aload_n 0, 1) := by decide +kernel
theorem d_MD_choose_65 : decode b_MD_choose 65 = .ok (.getfield 60, 3) := by decide +kernel
theorem d_MD_choose_68 : decode b_MD_choose 68 = .ok (.iconst 0, 1) := by decide +kernel
theorem d_MD_choose_69 : decode b_MD_choose 69 = .ok (.iconst 1, 1) := by decide +kernel
theorem d_MD_choose_70 : decode b_MD_choose 70 = .ok (.bastore, 1) := by decide +kernel
theorem d_MD_choose_71 : decode b_MD_choose 71 = .ok (.iconst 0, 1) := by decide +kernel
theorem d_MD_choose_72 : decode b_MD_choose 72 = .ok (.istore_n 3, 1) := by decide +kernel
theorem d_MD_choose_73 : decode b_MD_choose 73 = .ok (.iload_n 3, 1) := by decide +kernel
theorem d_MD_choose_74 : decode b_MD_choose 74 = .ok (.aload_n 0, 1) := by decide +kernel
theorem d_MD_choose_75 : decode b_MD_choose 75 = .ok (.getfield 25, 3) := by decide +kernel
theorem d_MD_choose_78 : decode b_MD_choose 78 = .ok (.iload_n 1, 1) := by decide +kernel
theorem d_MD_choose_79 : decode b_MD_choose 79 = .ok (.iaload, 1) := by decide +kernel
theorem d_MD_choose_80 : decode b_MD_choose 80 = .ok (.if_icmp .ge 84, 3) := by decide +kernel
theorem d_MD_choose_83 : decode b_MD_choose 83 = .ok (.aload_n 0, 1) := by decide +kernel
theorem d_MD_choose_84 : decode b_MD_choose 84 = .ok (.iload_n 1, 1) := by decide +kernel
theorem d_MD_choose_85 : decode b_MD_choose 85 = .ok (.iload_n 3, 1) := by decide +kernel
theorem d_MD_choose_86 : decode b_MD_choose 86 = .ok (.invokevirtual 104, 3) := by decide +kernel
theorem d_MD_choose_89 : decode b_MD_choose 89 = .ok (.istore 4, 2) := by decide +kernel
theorem d_MD_choose_91 : decode b_MD_choose 91 = .ok (.aload_n 0, 1) := by decide +kernel
theorem d_MD_choose_92 : decode b_MD_choose 92 = .ok (.getfield 50, 3) := by decide +kernel
theorem d_MD_choose_95 : decode b_MD_choose 95 = .ok (.iload_n 3, 1) := by decide +kernel
theorem d_MD_choose_96 : decode b_MD_choose 96 = .ok (.baload, 1) := by decide +kernel
theorem d_MD_choose_97 : decode b_MD_choose 97 = .ok (.ifCond .eq 23, 3) := by decide +kernel
theorem d_MD_choose_100 : decode b_MD_choose 100 = .ok (.iload 4, 2) := by decide +kernel
theorem d_MD_choose_102 : decode b_MD_choose 102 = .ok (.invokestatic 119, 3) := by decide +kernel
theorem d_MD_choose_105 : decode b_MD_choose 105 = .ok (.ifCond .eq 15, 3) := by decide +kernel
theorem d_MD_choose_108 : decode b_MD_choose 108 = .ok (.aload_n 0, 1) := by decide +kernel
theorem d_MD_choose_109 : decode b_MD_choose 109 = .ok (.getfield 60, 3) := by decide +kernel
theorem d_MD_choose_112 : decode b_MD_choose 112 = .ok (.aload_n 0, 1) := by decide +kernel
theorem d_MD_choose_113 : decode b_MD_choose 113 = .ok (.iload_n 1, 1) := by decide +kernel
theorem d_MD_choose_114 : decode b_MD_choose 114 = .ok (.iload_n 3, 1) := by decide +kernel
theorem d_MD_choose_115 : decode b_MD_choose 115 = .ok (.invokevirtual 122, 3) := by decide +kernel
theorem d_MD_choose_118 : decode b_MD_choose 118 = .ok (.iconst 1, 1) := by decide +kernel
theorem d_MD_choose_119 : decode b_MD_choose 119 = .ok (.bastore, 1) := by decide +kernel
theorem d_MD_choose_120 : decode b_MD_choose 120 = .ok (.aload_n 0, 1) := by decide +kernel
theorem d_MD_choose_121 : decode b_MD_choose 121 = .ok (.getfield 50, 3) := by decide +kernel
theorem d_MD_choose_124 : decode b_MD_choose 124 = .ok (.iload_n 3, 1) := by decide +kernel
theorem d_MD_choose_125 : decode b_MD_choose 125 = .ok (.baload, 1) := by decide +kernel
theorem d_MD_choose_126 : decode b_MD_choose 126 = .ok (.ifCond .eq 32, 3) := by decide +kernel
theorem d_MD_choose_129 : decode b_MD_choose 129 = .ok (.iload 4, 2) := by decide +kernel
theorem d_MD_choose_131 : decode b_MD_choose 131 = .ok (.invokestatic 119, 3) := by decide +kernel
theorem d_MD_choose_134 : decode b_MD_choose 134 = .ok (.ifCond .ne 11, 3) := by decide +kernel
theorem d_MD_choose_137 : decode b_MD_choose 137 = .ok (.iload 4, 2) := by decide +kernel
theorem d_MD_choose_139 : decode b_MD_choose 139 = .ok (.invokestatic 153, 3) := by decide +kernel
theorem d_MD_choose_142 : decode b_MD_choose 142 = .ok (.ifCond .eq 16, 3) := by decide +kernel
theorem d_MD_choose_145 : decode b_MD_choose 145 = .ok (.aload_n 0, 1) := by decide +kernel
theorem d_MD_choose_146 : decode b_MD_choose 146 = .ok (.getfield 60, 3) := by decide +kernel
theorem d_MD_choose_149 : decode b_MD_choose 149 = .ok (.iload_n 3, 1) := by decide +kernel
theorem d_MD_choose_150 : decode b_MD_choose 150 = .ok (.iload 4, 2) := by decide +kernel
theorem d_MD_choose_152 : decode b_MD_choose 152 = .ok (.invokestatic 111, 3) := by decide +kernel
theorem d_MD_choose_155 : decode b_MD_choose 155 = .ok (.iadd, 1) := by decide +kernel
theorem d_MD_choose_156 : decode b_MD_choose 156 = .ok (.iconst 1, 1) := by decide +kernel
theorem d_MD_choose_157 : decode b_MD_choose 157 = .ok (.bastore, 1) := by decide +kernel
theorem d_MD_choose_158 : decode b_MD_choose 158 = .ok (.iinc 3 1, 3) := by decide +kernel
theorem d_MD_choose_161 : decode b_MD_choose 161 = .ok (.goto (-88), 3) := by decide +kernel
theorem d_MD_choose_164 : decode b_MD_choose 164 = .ok (.iconst 0, 1) := by decide +kernel
theorem d_MD_choose_165 : decode b_MD_choose 165 = .ok (.istore_n 3, 1) := by decide +kernel
theorem d_MD_choose_166 : decode b_MD_choose 166 = .ok (.iload_n 3, 1) := by decide +kernel
theorem d_MD_choose_167 : decode b_MD_choose 167 = .ok (.aload_n 0, 1) := by decide +kernel
theorem d_MD_choose_168 : decode b_MD_choose 168 = .ok (.getfield 31, 3) := by decide +kernel
theorem d_MD_choose_171 : decode b_MD_choose 171 = .ok (.iload_n 1, 1) := by decide +kernel
theorem d_MD_choose_172 : decode b_MD_choose 172 = .ok (.iaload, 1) := by decide +kernel
theorem d_MD_choose_173 : decode b_MD_choose 173 = .ok (.if_icmp .ge 30, 3) := by decide +kernel
theorem d_MD_choose_176 : decode b_MD_choose 176 = .ok (.aload_n 0, 1) := by decide +kernel
theorem d_MD_choose_177 : decode b_MD_choose 177 = .ok (.getfield 60, 3) := by decide +kernel
theorem d_MD_choose_180 : decode b_MD_choose 180 = .ok (.aload_n 0, 1) := by decide +kernel
theorem d_MD_choose_181 : decode b_MD_choose 181 = .ok (.getfield 34, 3) := by decide +kernel
theorem d_MD_choose_184 : decode b_MD_choose 184 = .ok (.bipush 20, 2) := by decide +kernel
theorem d_MD_choose_186 : decode b_MD_choose 186 = .ok (.iload_n 1, 1) := by decide +kernel
theorem d_MD_choose_187 : decode b_MD_choose 187 = .ok (.imul, 1) := by decide +kernel
theorem d_MD_choose_188 : decode b_MD_choose 188 = .ok (.iconst 4, 1) := by decide +kernel
theorem d_MD_choose_189 : decode b_MD_choose 189 = .ok (.iload_n 3, 1) := by decide +kernel
theorem d_MD_choose_190 : decode b_MD_choose 190 = .ok (.imul, 1) := by decide +kernel
theorem d_MD_choose_191 : decode b_MD_choose 191 = .ok (.iadd, 1) := by decide +kernel
theorem d_MD_choose_192 : decode b_MD_choose 192 = .ok (.iconst 2, 1) := by decide +kernel
theorem d_MD_choose_193 : decode b_MD_choose 193 = .ok (.iadd, 1) := by decide +kernel
theorem d_MD_choose_194 : decode b_MD_choose 194 = .ok (.iaload, 1) := by decide +kernel
theorem d_MD_choose_195 : decode b_MD_choose 195 = .ok (.iconst 1, 1) := by decide +kernel
theorem d_MD_choose_196 : decode b_MD_choose 196 = .ok (.bastore, 1) := by decide +kernel
theorem d_MD_choose_197 : decode b_MD_choose 197 = .ok (.iinc 3 1, 3) := by decide +kernel
theorem d_MD_choose_200 : decode b_MD_choose 200 = .ok (.goto (-34), 3) := by decide +kernel
theorem d_MD_choose_203 : decode b_MD_choose 203 = .ok (.aload_n 0, 1) := by decide +kernel
theorem d_MD_choose_204 : decode b_MD_choose 204 = .ok (.getfield 60, 3) := by decide +kernel
theorem d_MD_choose_207 : decode b_MD_choose 207 = .ok (.aload_n 0, 1) := by decide +kernel
theorem d_MD_choose_208 : decode b_MD_choose 208 = .ok (.getfield 25, 3) := by decide +kernel
theorem d_MD_choose_211 : decode b_MD_choose 211 = .ok (.iload_n 1, 1) := by decide +kernel
theorem d_MD_choose_212 : decode b_MD_choose 212 = .ok (.iaload, 1) := by decide +kernel
theorem d_MD_choose_213 : decode b_MD_choose 213 = .ok (.iconst 0, 1) := by decide +kernel
theorem d_MD_choose_214 : decode b_MD_choose 214 = .ok (.bastore, 1) := by decide +kernel
theorem d_MD_choose_215 : decode b_MD_choose 215 = .ok (.return_, 1) := by decide +kernel
theorem d_MD_lay_0 : decode b_MD_lay 0 = .ok (.iload_n 2, 1) := by decide +kernel
theorem d_MD_lay_1 : decode b_MD_lay 1 = .ok (.istore_n 3, 1) := by decide +kernel
theorem d_MD_lay_2 : decode b_MD_lay 2 = .ok (.iconst 0, 1) := by decide +kernel
theorem d_MD_lay_3 : decode b_MD_lay 3 = .ok (.istore 4, 2) := by decide +kernel
theorem d_MD_lay_5 : decode b_MD_lay 5 = .ok (.iload 4, 2) := by decide +kernel
theorem d_MD_lay_7 : decode b_MD_lay 7 = .ok (.aload_n 0, 1) := by decide +kernel
theorem d_MD_lay_8 : decode b_MD_lay 8 = .ok (.getfield 25, 3) := by decide +kernel
theorem d_MD_lay_11 : decode b_MD_lay 11 = .ok (.iload_n 1, 1) := by decide +kernel
theorem d_MD_lay_12 : decode b_MD_lay 12 = .ok (.iaload, 1) := by decide +kernel
theorem d_MD_lay_13 : decode b_MD_lay 13 = .ok (.if_icmp .ge 82, 3) := by decide +kernel
theorem d_MD_lay_16 : decode b_MD_lay 16 = .ok (.aload_n 0, 1) := by decide +kernel
theorem d_MD_lay_17 : decode b_MD_lay 17 = .ok (.getfield 50, 3) := by decide +kernel
theorem d_MD_lay_20 : decode b_MD_lay 20 = .ok (.iload 4, 2) := by decide +kernel
theorem d_MD_lay_22 : decode b_MD_lay 22 = .ok (.baload, 1) := by decide +kernel
theorem d_MD_lay_23 : decode b_MD_lay 23 = .ok (.ifCond .eq 66, 3) := by decide +kernel
theorem d_MD_lay_26 : decode b_MD_lay 26 = .ok (.aload_n 0, 1) := by decide +kernel
theorem d_MD_lay_27 : decode b_MD_lay 27 = .ok (.getfield 66, 3) := by decide +kernel
theorem d_MD_lay_30 : decode b_MD_lay 30 = .ok (.iload 4, 2) := by decide +kernel
theorem d_MD_lay_32 : decode b_MD_lay 32 = .ok (.iload_n 3, 1) := by decide +kernel
theorem d_MD_lay_33 : decode b_MD_lay 33 = .ok (.iastore, 1) := by decide +kernel
theorem d_MD_lay_34 : decode b_MD_lay 34 = .ok (.aload_n 0, 1) := by decide +kernel
theorem d_MD_lay_35 : decode b_MD_lay 35 = .ok (.getfield 60, 3) := by decide +kernel
theorem d_MD_lay_38 : decode b_MD_lay 38 = .ok (.iload 4, 2) := by decide +kernel
theorem d_MD_lay_40 : decode b_MD_lay 40 = .ok (.baload, 1) := by decide +kernel
theorem d_MD_lay_41 : decode b_MD_lay 41 = .ok (.ifCond .eq 9, 3) := by decide +kernel
theorem d_MD_lay_44 : decode b_MD_lay 44 = .ok (.iload_n 3, 1) := by decide +kernel
theorem d_MD_lay_45 : decode b_MD_lay 45 = .ok (.iconst 2, 1) := by decide +kernel
theorem d_MD_lay_46 : decode b_MD_lay 46 = .ok (.iadd, 1) := by decide +kernel
theorem d_MD_lay_47 : decode b_MD_lay 47 = .ok (.goto 4, 3) := by decide +kernel
theorem d_MD_lay_50 : decode b_MD_lay 50 = .ok (.iload_n 3, 1) := by decide +kernel
theorem d_MD_lay_51 : decode b_MD_lay 51 = .ok (.istore_n 3, 1) := by decide +kernel
theorem d_MD_lay_52 : decode b_MD_lay 52 = .ok (.aload_n 0, 1) := by decide +kernel
theorem d_MD_lay_53 : decode b_MD_lay 53 = .ok (.getfield 69, 3) := by decide +kernel
theorem d_MD_lay_56 : decode b_MD_lay 56 = .ok (.iload 4, 2) := by decide +kernel
theorem d_MD_lay_58 : decode b_MD_lay 58 = .ok (.iload_n 3, 1) := by decide +kernel
theorem d_MD_lay_59 : decode b_MD_lay 59 = .ok (.iastore, 1) := by decide +kernel
theorem d_MD_lay_60 : decode b_MD_lay 60 = .ok (.iload_n 3, 1) := by decide +kernel
theorem d_MD_lay_61 : decode b_MD_lay 61 = .ok (.aload_n 0, 1) := by decide +kernel
theorem d_MD_lay_62 : decode b_MD_lay 62 = .ok (.iload_n 1, 1) := by decide +kernel
theorem d_MD_lay_63 : decode b_MD_lay 63 = .ok (.iload 4, 2) := by decide +kernel
theorem d_MD_lay_65 : decode b_MD_lay 65 = .ok (.invokevirtual 104, 3) := by decide +kernel
theorem d_MD_lay_68 : decode b_MD_lay 68 = .ok (.invokestatic 111, 3) := by decide +kernel
theorem d_MD_lay_71 : decode b_MD_lay 71 = .ok (.iadd, 1) := by decide +kernel
theorem d_MD_lay_72 : decode b_MD_lay 72 = .ok (.aload_n 0, 1) := by decide +kernel
theorem d_MD_lay_73 : decode b_MD_lay 73 = .ok (.getfield 63, 3) := by decide +kernel
theorem d_MD_lay_76 : decode b_MD_lay 76 = .ok (.iload 4, 2) := by decide +kernel
theorem d_MD_lay_78 : decode b_MD_lay 78 = .ok (.baload, 1) := by decide +kernel
theorem d_MD_lay_79 : decode b_MD_lay 79 = .ok (.ifCond .eq 7, 3) := by decide +kernel
theorem d_MD_lay_82 : decode b_MD_lay 82 = .ok (.iconst 1, 1) := by decide +kernel
theorem d_MD_lay_83 : decode b_MD_lay 83 = .ok (.goto 4, 3) := by decide +kernel
theorem d_MD_lay_86 : decode b_MD_lay 86 = .ok (.iconst 0, 1) := by decide +kernel
theorem d_MD_lay_87 : decode b_MD_lay 87 = .ok (.iadd, 1) := by decide +kernel
theorem d_MD_lay_88 : decode b_MD_lay 88 = .ok (.istore_n 3, 1) := by decide +kernel
theorem d_MD_lay_89 : decode b_MD_lay 89 = .ok (.iinc 4 1, 3) := by decide +kernel
theorem d_MD_lay_92 : decode b_MD_lay 92 = .ok (.goto (-87), 3) := by decide +kernel
theorem d_MD_lay_95 : decode b_MD_lay 95 = .ok (.aload_n 0, 1) := by decide +kernel
theorem d_MD_lay_96 : decode b_MD_lay 96 = .ok (.getfield 66, 3) := by decide +kernel
theorem d_MD_lay_99 : decode b_MD_lay 99 = .ok (.aload_n 0, 1) := by decide +kernel
theorem d_MD_lay_100 : decode b_MD_lay 100 = .ok (.getfield 25, 3) := by decide +kernel
theorem d_MD_lay_103 : decode b_MD_lay 103 = .ok (.iload_n 1, 1) := by decide +kernel
theorem d_MD_lay_104 : decode b_MD_lay 104 = .ok (.iaload, 1) := by decide +kernel
theorem d_MD_lay_105 : decode b_MD_lay 105 = .ok (.iload_n 3, 1) := by decide +kernel
theorem d_MD_lay_106 : decode b_MD_lay 106 = .ok (.iastore, 1) := by decide +kernel
theorem d_MD_lay_107 : decode b_MD_lay 107 = .ok (.iconst 0, 1) := by decide +kernel
theorem d_MD_lay_108 : decode b_MD_lay 108 = .ok (.istore 4, 2) := by decide +kernel
theorem d_MD_lay_110 : decode b_MD_lay 110 = .ok (.iconst 0, 1) := by decide +kernel
theorem d_MD_lay_111 : decode b_MD_lay 111 = .ok (.istore 5, 2) := by decide +kernel
theorem d_MD_lay_113 : decode b_MD_lay 113 = .ok (.iload 5, 2) := by decide +kernel
theorem d_MD_lay_115 : decode b_MD_lay 115 = .ok (.aload_n 0, 1) := by decide +kernel
theorem d_MD_lay_116 : decode b_MD_lay 116 = .ok (.getfield 25, 3) := by decide +kernel
theorem d_MD_lay_119 : decode b_MD_lay 119 = .ok (.iload_n 1, 1) := by decide +kernel
theorem d_MD_lay_120 : decode b_MD_lay 120 = .ok (.iaload, 1) := by decide +kernel
theorem d_MD_lay_121 : decode b_MD_lay 121 = .ok (.if_icmp .ge 95, 3) := by decide +kernel
theorem d_MD_lay_124 : decode b_MD_lay 124 = .ok (.aload_n 0, 1) := by decide +kernel
theorem d_MD_lay_125 : decode b_MD_lay 125 = .ok (.getfield 50, 3) := by decide +kernel
theorem d_MD_lay_128 : decode b_MD_lay 128 = .ok (.iload 5, 2) := by decide +kernel
theorem d_MD_lay_130 : decode b_MD_lay 130 = .ok (.baload, 1) := by decide +kernel
theorem d_MD_lay_131 : decode b_MD_lay 131 = .ok (.ifCond .eq 79, 3) := by decide +kernel
theorem d_MD_lay_134 : decode b_MD_lay 134 = .ok (.aload_n 0, 1) := by decide +kernel
theorem d_MD_lay_135 : decode b_MD_lay 135 = .ok (.getfield 63, 3) := by decide +kernel
theorem d_MD_lay_138 : decode b_MD_lay 138 = .ok (.iload 5, 2) := by decide +kernel
theorem d_MD_lay_140 : decode b_MD_lay 140 = .ok (.baload, 1) := by decide +kernel
theorem d_MD_lay_141 : decode b_MD_lay 141 = .ok (.ifCond .ne 69, 3) := by decide +kernel
theorem d_MD_lay_144 : decode b_MD_lay 144 = .ok (.aload_n 0, 1) := by decide +kernel
theorem d_MD_lay_145 : decode b_MD_lay 145 = .ok (.iload_n 1, 1) := by decide +kernel
theorem d_MD_lay_146 : decode b_MD_lay 146 = .ok (.iload 5, 2) := by decide +kernel
theorem d_MD_lay_148 : decode b_MD_lay 148 = .ok (.invokevirtual 104, 3) := by decide +kernel
theorem d_MD_lay_151 : decode b_MD_lay 151 = .ok (.invokestatic 119, 3) := by decide +kernel
theorem d_MD_lay_154 : decode b_MD_lay 154 = .ok (.ifCond .eq 56, 3) := by decide +kernel
theorem d_MD_lay_157 : decode b_MD_lay 157 = .ok (.aload_n 0, 1) := by decide +kernel
theorem d_MD_lay_158 : decode b_MD_lay 158 = .ok (.iload_n 1, 1) := by decide +kernel
theorem d_MD_lay_159 : decode b_MD_lay 159 = .ok (.iload 5, 2) := by decide +kernel
theorem d_MD_lay_161 : decode b_MD_lay 161 = .ok (.invokevirtual 104, 3) := by decide +kernel
theorem d_MD_lay_164 : decode b_MD_lay 164 = .ok (.bipush 20, 2) := by decide +kernel
theorem d_MD_lay_166 : decode b_MD_lay 166 = .ok (.if_icmp .ge 44, 3) := by decide +kernel
theorem d_MD_lay_169 : decode b_MD_lay 169 = .ok (.aload_n 0, 1) := by decide +kernel
theorem d_MD_lay_170 : decode b_MD_lay 170 = .ok (.getfield 66, 3) := by decide +kernel
theorem d_MD_lay_173 : decode b_MD_lay 173 = .ok (.aload_n 0, 1) := by decide +kernel
theorem d_MD_lay_174 : decode b_MD_lay 174 = .ok (.iload_n 1, 1) := by decide +kernel
theorem d_MD_lay_175 : decode b_MD_lay 175 = .ok (.iload 5, 2) := by decide +kernel
theorem d_MD_lay_177 : decode b_MD_lay 177 = .ok (.invokevirtual 122, 3) := by decide +kernel
theorem d_MD_lay_180 : decode b_MD_lay 180 = .ok (.iaload, 1) := by decide +kernel
theorem d_MD_lay_181 : decode b_MD_lay 181 = .ok (.aload_n 0, 1) := by decide +kernel
theorem d_MD_lay_182 : decode b_MD_lay 182 = .ok (.getfield 69, 3) := by decide +kernel
theorem d_MD_lay_185 : decode b_MD_lay 185 = .ok (.iload 5, 2) := by decide +kernel
theorem d_MD_lay_187 : decode b_MD_lay 187 = .ok (.iaload, 1) := by decide +kernel
theorem d_MD_lay_188 : decode b_MD_lay 188 = .ok (.isub, 1) := by decide +kernel
theorem d_MD_lay_189 : decode b_MD_lay 189 = .ok (.bipush (-24), 2) := by decide +kernel
theorem d_MD_lay_191 : decode b_MD_lay 191 = .ok (.bipush 24, 2) := by decide +kernel
theorem d_MD_lay_193 : decode b_MD_lay 193 = .ok (.invokestatic 96, 3) := by decide +kernel
theorem d_MD_lay_196 : decode b_MD_lay 196 = .ok (.ifCond .eq 14, 3) := by decide +kernel
theorem d_MD_lay_199 : decode b_MD_lay 199 = .ok (.aload_n 0, 1) := by decide +kernel
theorem d_MD_lay_200 : decode b_MD_lay 200 = .ok (.getfield 63, 3) := by decide +kernel
theorem d_MD_lay_203 : decode b_MD_lay 203 = .ok (.iload 5, 2) := by decide +kernel
theorem d_MD_lay_205 : decode b_MD_lay 205 = .ok (.iconst 1, 1) := by decide +kernel
theorem d_MD_lay_206 : decode b_MD_lay 206 = .ok (.bastore, 1) := by decide +kernel
theorem d_MD_lay_207 : decode b_MD_lay 207 = .ok (.iconst 1, 1) := by decide +kernel
theorem d_MD_lay_208 : decode b_MD_lay 208 = .ok (.istore 4, 2) := by decide +kernel
theorem d_MD_lay_210 : decode b_MD_lay 210 = .ok (.iinc 5 1, 3) := by decide +kernel
theorem d_MD_lay_213 : decode b_MD_lay 213 = .ok (.goto (-100), 3) := by decide +kernel
theorem d_MD_lay_216 : decode b_MD_lay 216 = .ok (.iload 4, 2) := by decide +kernel
theorem d_MD_lay_218 : decode b_MD_lay 218 = .ok (.ireturn, 1) := by decide +kernel
def f_MD_transformer (fu : Nat) (s0 : xw_S) (p1 : Int) (p2 : Int) (p3 : Int) : Option (xw_S × Int) :=
 xw_jn (fun (s8 : xw_S) => xw_bn2 (f_MD_outside fu s8 p3 (-1) 2) (fun s9 r11 => xw_grd (xw_r r11) (xw_if (r11 = 0) (xw_grd (xw_r (s9.1 0 15)) (xw_if (s9.1 0 15 < 3) (xw_grd ((0 ≤ s9.1 0 15 ∧ s9.1 0 15 < ((3 : Nat) : Int)) ∧ (p1 = 0 ∨ p1 = 1)) (xw_let (xw_st s9 10 (s9.1 0 15).toNat p1) (fun s17 => xw_grd ((0 ≤ s17.1 0 15 ∧ s17.1 0 15 < ((3 : Nat) : Int))) (xw_let (xw_st s17 11 (s17.1 0 15).toNat p2) (fun s20 => xw_grd ((0 ≤ s20.1 0 15 ∧ s20.1 0 15 < ((3 : Nat) : Int))) (xw_let (xw_st s20 12 (s20.1 0 15).toNat p3) (fun s23 => xw_let (xw_st s23 0 15 ((s23.1 0 15) + 1)) (fun s25 => some (s25, (s25.1 0 15) - 1)))))))))
 (some (s9, -1))))
 (some (s9, -1)))))
 (fun (j15 : xw_S → Option (xw_S × Int)) => xw_grd (xw_r p2) (xw_if (p2 = 0) (j15 s0)
 (xw_bn2 (f_MD_outside fu s0 p2 97 122) (fun s3 r5 => xw_grd (xw_r r5) (xw_if (r5 = 0) (j15 s3)
 (some (s3, -1)))))))
set_option maxRecDepth 100000 in
set_option maxHeartbeats 4000000 in
theorem c_MD_transformer (l : Launch) (D : va_G) (A : Nat → Prop) (ad : Nat → Nat) (cs : Nat → ClassId) (Z : va_W) (tt : Nat → Nat) (fu : Nat) (s0 sZ : xw_S) (p1 : Int) (p2 : Int) (p3 : Int) (r0 : Int) (h : f_MD_transformer fu s0 p1 p2 p3 = some (sZ, r0)) : Met l y_MD_transformer w_MD_transformer ({ frames := 1, cells := 0, slots := 0, locals := 22 }) (va_Pc [.ref (ad 0), .int (xw_i p1), .int (xw_i p2), .int (xw_i p3)] (xw_H D vwCl A kdR 29 ad cs Z tt s0)) (va_Qi (fun r u => r = xw_i r0 ∧ u = sZ) (xw_H D vwCl A kdR 29 ad cs Z tt) A) 0 0 A := by
  refine Met.ofW (cc := b_MD_transformer) (maxL := 4) (ret := (some .int)) (by decide) rfl ?_
  intro p e s m args below meth c s₁ B hml hv
  obtain ⟨rfl, hP, hK, hD, hX⟩ := hv
  have hx := B.exec
  have hb := B.bytes
  have hr := B.returns
  have hts0 := atoms_spec (ws := w_MD_transformer) B.pre
  have hts := fun w (hw : w ∈ wAll) => hts0 w (List.mem_cons_of_mem _ hw)
  have hown : s.vm.findClass "AdviceWeaverModel" = some m.cls := findClass_of_methodNamed B.named
  have hlk := B.notSynchronized
  clear hts0 B
  have hS : va_S A s.heap s.heap [] := va_S.rf
  have hl := lv_entry [.ref (ad 0), .int (xw_i p1), .int (xw_i p2), .int (xw_i p3)] (n := 4) (Nat.le_of_ble_eq_true rfl)
  rw [lg_entry_eq]
  generalize (lg_sl [.ref (ad 0), .int (xw_i p1), .int (xw_i p2), .int (xw_i p3)] ++ List.replicate (4 - (lg_sl [.ref (ad 0), .int (xw_i p1), .int (xw_i p2), .int (xw_i p3)]).length) Slot.unset).toArray = ls at hl ⊢
  have hl : lv_has ls 4 [(0, .ref (ad 0)), (1, .int (xw_i p1)), (2, .int (xw_i p2)), (3, .int (xw_i p3))] := hl
  unfold f_MD_transformer at h
  refine lv_iload_n hx hb d_MD_transformer_0 rfl (lv_at hl 2 rfl) ?_
  refine xw_jnI (fun j => ∀ (sq : xw_S), j sq = some (sZ, r0) → ∀ (H : Heap) (locs : List Loc) (ls : Array Slot), va_P D vwCl (xw_ws kdR 29 ad cs Z sq) H → va_S A s.heap H locs → lv_has ls 4 [(0, .ref (ad 0)), (1, .int (xw_i p1)), (2, .int (xw_i p2)), (3, .int (xw_i p3))] → W p l e (headSpec w_MD_transformer ({ frames := 1, cells := 0, slots := 0, locals := 22 })).room s m [.ref (ad 0), .int (xw_i p1), .int (xw_i p2), .int (xw_i p3)].toArray below meth c H locs 0 0 (MQ below (va_Qi (fun r u => r = xw_i r0 ∧ u = sZ) (xw_H D vwCl A kdR 29 ad cs Z tt) A) [.ref (ad 0), .int (xw_i p1), .int (xw_i p2), .int (xw_i p3)].toArray s 0 0 A) (F0 m 15 ls [])) h ?_ ?_
  · intro s8 h H locs ls hP hS hl
    refine lv_iload_n hx hb d_MD_transformer_15 rfl (lv_at hl 3 rfl) ?_
    refine lv_iconst (v := xw_i (-1)) hx hb d_MD_transformer_16 rfl ?_
    refine lv_iconst (v := xw_i 2) hx hb d_MD_transformer_17 rfl ?_
    obtain ⟨s9, r11, hc10, h⟩ := xw_bn2I h
    refine xw_callSi ⟨hx, hb, hml, hown, hts⟩ (c_MD_outside l D A ad cs Z tt fu s8 s9 p3 (-1) 2 r11 hc10) (va_cwS 3 hts (gd_S hw_431 hw_432 hw_433 hw_434) rfl rfl rfl (by decide +kernel) ⟨Nat.le_of_ble_eq_true rfl, Nat.le_of_ble_eq_true rfl⟩) hP hK hD hX hS rfl hl.1 rfl (Nat.le_of_ble_eq_true rfl) d_MD_transformer_18 (fun H locs hP hS => ?_)
    obtain ⟨hg12, h⟩ := xw_grdI h
    refine xw_if_ne (tgt := 32) hx hb hg12 d_MD_transformer_21 (by decide) (fun hc13 => ?_) (fun hc13 => ?_)
    · replace h := xw_ifF hc13 h
      refine lv_iconst (v := xw_i (-1)) hx hb d_MD_transformer_32 rfl ?_
      exact xw_iretE hx hb hr hlk hP hK hD hX hS h d_MD_transformer_33
    · replace h := xw_ifT hc13 h
      refine lv_aload_n hx hb d_MD_transformer_24 rfl (lv_at hl 0 rfl) ?_
      refine xw_getI (C := "AdviceWeaverModel") (T := T_MD) hx hb hts hin_MD hown hK hP (by decide) kr_MD (by decide) rfl 15 (by decide) (hts _ hw_524) (fun _ h9 => h9) rfl d_MD_transformer_25 ?_
      refine lv_iconst (v := xw_i 3) hx hb d_MD_transformer_28 rfl ?_
      obtain ⟨hg14, h⟩ := xw_grdI h
      refine xw_icmp_lt (tgt := 34) hx hb hg14 (by decide) d_MD_transformer_29 (by decide) (fun hc15 => ?_) (fun hc15 => ?_)
      · replace h := xw_ifT hc15 h
        refine lv_aload_n hx hb d_MD_transformer_34 rfl (lv_at hl 0 rfl) ?_
        refine xw_getR (C := "AdviceWeaverModel") (T := T_MD) hx hb hts hin_MD hown hK hP (by decide) kr_MD (by decide) rfl 16 (by decide) (hts _ hw_525) (fun _ h9 => h9) rfl d_MD_transformer_35 ?_
        refine lv_aload_n hx hb d_MD_transformer_38 rfl (lv_at hl 0 rfl) ?_
        refine xw_getI (C := "AdviceWeaverModel") (T := T_MD) hx hb hts hin_MD hown hK hP (by decide) kr_MD (by decide) rfl 15 (by decide) (hts _ hw_524) (fun _ h9 => h9) rfl d_MD_transformer_39 ?_
        refine lv_iload_n hx hb d_MD_transformer_42 rfl (lv_at hl 1 rfl) ?_
        obtain ⟨hg16, h⟩ := xw_grdI h
        refine xw_zast hx hb hK hP hD hS (by decide) kr_m_cover (by decide) hg16.1 hg16.2 d_MD_transformer_43 (fun s17 e18 H locs hP hS => ?_)
        replace h := xw_letI e18 h
        refine lv_aload_n hx hb d_MD_transformer_44 rfl (lv_at hl 0 rfl) ?_
        refine xw_getR (C := "AdviceWeaverModel") (T := T_MD) hx hb hts hin_MD hown hK hP (by decide) kr_MD (by decide) rfl 17 (by decide) (hts _ hw_526) (fun _ h9 => h9) rfl d_MD_transformer_45 ?_
        refine lv_aload_n hx hb d_MD_transformer_48 rfl (lv_at hl 0 rfl) ?_
        refine xw_getI (C := "AdviceWeaverModel") (T := T_MD) hx hb hts hin_MD hown hK hP (by decide) kr_MD (by decide) rfl 15 (by decide) (hts _ hw_524) (fun _ h9 => h9) rfl d_MD_transformer_49 ?_
        refine lv_iload_n hx hb d_MD_transformer_52 rfl (lv_at hl 2 rfl) ?_
        obtain ⟨hg19, h⟩ := xw_grdI h
        refine xw_iast hx hb hK hP hD hS (by decide) kr_m_letter (by decide) hg19 d_MD_transformer_53 (fun s20 e21 H locs hP hS => ?_)
        replace h := xw_letI e21 h
        refine lv_aload_n hx hb d_MD_transformer_54 rfl (lv_at hl 0 rfl) ?_
        refine xw_getR (C := "AdviceWeaverModel") (T := T_MD) hx hb hts hin_MD hown hK hP (by decide) kr_MD (by decide) rfl 18 (by decide) (hts _ hw_527) (fun _ h9 => h9) rfl d_MD_transformer_55 ?_
        refine lv_aload_n hx hb d_MD_transformer_58 rfl (lv_at hl 0 rfl) ?_
        refine xw_getI (C := "AdviceWeaverModel") (T := T_MD) hx hb hts hin_MD hown hK hP (by decide) kr_MD (by decide) rfl 15 (by decide) (hts _ hw_524) (fun _ h9 => h9) rfl d_MD_transformer_59 ?_
        refine lv_iload_n hx hb d_MD_transformer_62 rfl (lv_at hl 3 rfl) ?_
        obtain ⟨hg22, h⟩ := xw_grdI h
        refine xw_iast hx hb hK hP hD hS (by decide) kr_m_wanted (by decide) hg22 d_MD_transformer_63 (fun s23 e24 H locs hP hS => ?_)
        replace h := xw_letI e24 h
        refine lv_aload_n hx hb d_MD_transformer_64 rfl (lv_at hl 0 rfl) ?_
        refine lv_dup hx hb d_MD_transformer_65 rfl ?_
        refine xw_getI (C := "AdviceWeaverModel") (T := T_MD) hx hb hts hin_MD hown hK hP (by decide) kr_MD (by decide) rfl 15 (by decide) (hts _ hw_524) (fun _ h9 => h9) rfl d_MD_transformer_66 ?_
        refine lv_iconst (v := xw_i 1) hx hb d_MD_transformer_69 rfl ?_
        refine xw_iadd hx hb d_MD_transformer_70 ?_
        refine xw_putI (C := "AdviceWeaverModel") (T := T_MD) hx hb hts hin_MD ty_MD ty_MD_ok nm_MD hown hK hP hD hS (by decide) kr_MD (by decide) rfl 15 (by decide) (hts _ hw_524) (fun _ h9 => h9) rfl (by decide +kernel) rfl d_MD_transformer_71 (fun s25 e26 H locs hP hS => ?_)
        replace h := xw_letI e26 h
        refine lv_aload_n hx hb d_MD_transformer_74 rfl (lv_at hl 0 rfl) ?_
        refine xw_getI (C := "AdviceWeaverModel") (T := T_MD) hx hb hts hin_MD hown hK hP (by decide) kr_MD (by decide) rfl 15 (by decide) (hts _ hw_524) (fun _ h9 => h9) rfl d_MD_transformer_75 ?_
        refine lv_iconst (v := xw_i 1) hx hb d_MD_transformer_78 rfl ?_
        refine xw_isub hx hb d_MD_transformer_79 ?_
        exact xw_iretE hx hb hr hlk hP hK hD hX hS h d_MD_transformer_80
      · replace h := xw_ifF hc15 h
        refine lv_iconst (v := xw_i (-1)) hx hb d_MD_transformer_32 rfl ?_
        exact xw_iretE hx hb hr hlk hP hK hD hX hS h d_MD_transformer_33
  · intro j15 hj15 h
    obtain ⟨hg1, h⟩ := xw_grdI h
    refine xw_if_eq (tgt := 15) hx hb hg1 d_MD_transformer_1 (by decide) (fun hc2 => ?_) (fun hc2 => ?_)
    · replace h := xw_ifT hc2 h
      exact hj15 s0 h _ _ _ hP hS (lv_sub hl [0, 1, 2, 3] rfl)
    · replace h := xw_ifF hc2 h
      refine lv_iload_n hx hb d_MD_transformer_4 rfl (lv_at hl 2 rfl) ?_
      refine lv_bipush (v := xw_i 97) hx hb d_MD_transformer_5 (by decide) ?_
      refine lv_bipush (v := xw_i 122) hx hb d_MD_transformer_7 (by decide) ?_
      obtain ⟨s3, r5, hc4, h⟩ := xw_bn2I h
      refine xw_callSi ⟨hx, hb, hml, hown, hts⟩ (c_MD_outside l D A ad cs Z tt fu s0 s3 p2 97 122 r5 hc4) (va_cwS 3 hts (gd_S hw_431 hw_432 hw_433 hw_434) rfl rfl rfl (by decide +kernel) ⟨Nat.le_of_ble_eq_true rfl, Nat.le_of_ble_eq_true rfl⟩) hP hK hD hX hS rfl hl.1 rfl (Nat.le_of_ble_eq_true rfl) d_MD_transformer_9 (fun H locs hP hS => ?_)
      obtain ⟨hg6, h⟩ := xw_grdI h
      refine xw_if_ne (tgt := 32) hx hb hg6 d_MD_transformer_12 (by decide) (fun hc7 => ?_) (fun hc7 => ?_)
      · replace h := xw_ifF hc7 h
        refine lv_iconst (v := xw_i (-1)) hx hb d_MD_transformer_32 rfl ?_
        exact xw_iretE hx hb hr hlk hP hK hD hX hS h d_MD_transformer_33
      · replace h := xw_ifT hc7 h
        exact hj15 s3 h _ _ _ hP hS (lv_sub hl [0, 1, 2, 3] rfl)
def f_MD_unchain (fu : Nat) (s0 : xw_S) : Option xw_S :=
 xw_let (xw_st s0 0 15 0) (fun s1 => some s1)
set_option maxRecDepth 100000 in
set_option maxHeartbeats 4000000 in
theorem c_MD_unchain (l : Launch) (D : va_G) (A : Nat → Prop) (ad : Nat → Nat) (cs : Nat → ClassId) (Z : va_W) (tt : Nat → Nat) (fu : Nat) (s0 sZ : xw_S) (h : f_MD_unchain fu s0 = some sZ) : Met l y_MD_unchain w_MD_unchain ({ frames := 0, cells := 0, slots := 0, locals := 0 }) (va_Pc [.ref (ad 0)] (xw_H D vwCl A kdR 29 ad cs Z tt s0)) (va_Qv (fun u => u = sZ) (xw_H D vwCl A kdR 29 ad cs Z tt) A) 0 0 A := by
  refine Met.ofW (cc := b_MD_unchain) (maxL := 1) (ret := none) (by decide) rfl ?_
  intro p e s m args below meth c s₁ B hml hv
  obtain ⟨rfl, hP, hK, hD, hX⟩ := hv
  have hx := B.exec
  have hb := B.bytes
  have hr := B.returns
  have hts0 := atoms_spec (ws := w_MD_unchain) B.pre
  have hts := fun w (hw : w ∈ wAll) => hts0 w (List.mem_cons_of_mem _ hw)
  have hown : s.vm.findClass "AdviceWeaverModel" = some m.cls := findClass_of_methodNamed B.named
  have hlk := B.notSynchronized
  clear hts0 B
  have hS : va_S A s.heap s.heap [] := va_S.rf
  have hl := lv_entry [.ref (ad 0)] (n := 1) (Nat.le_of_ble_eq_true rfl)
  rw [lg_entry_eq]
  generalize (lg_sl [.ref (ad 0)] ++ List.replicate (1 - (lg_sl [.ref (ad 0)]).length) Slot.unset).toArray = ls at hl ⊢
  have hl : lv_has ls 1 [(0, .ref (ad 0))] := hl
  unfold f_MD_unchain at h
  refine lv_aload_n hx hb d_MD_unchain_0 rfl (lv_at hl 0 rfl) ?_
  refine lv_iconst (v := xw_i 0) hx hb d_MD_unchain_1 rfl ?_
  refine xw_putI (C := "AdviceWeaverModel") (T := T_MD) hx hb hts hin_MD ty_MD ty_MD_ok nm_MD hown hK hP hD hS (by decide) kr_MD (by decide) rfl 15 (by decide) (hts _ hw_524) (fun _ h9 => h9) rfl (by decide +kernel) rfl d_MD_unchain_2 (fun s1 e2 H locs hP hS => ?_)
  replace h := xw_letI e2 h
  exact xw_vretE hx hb hr hlk hP hK hD hX hS h d_MD_unchain_5
def lp_MD_choose_2 (fu : Nat) (c1_2 : Int) (c2_2 : Int) (k59 : xw_S → Option xw_S) : Nat → xw_S → Int → Option xw_S
  | 0, _, _ => none
  | n + 1, s1, i3_2 =>
    xw_grd (xw_r i3_2) (xw_if (120 < i3_2) (k59 s1)
     (xw_jn (fun (s18 : xw_S) (i3_52 : Int) (t0_52 : Int) (t1_52 : Int) => xw_grd ((0 ≤ t1_52 ∧ t1_52 < ((121 : Nat) : Int)) ∧ (t0_52 = 0 ∨ t0_52 = 1)) (xw_let (xw_st s18 17 (t1_52).toNat t0_52) (fun s20 => xw_let (i3_52 + 1) (fun v22 => lp_MD_choose_2 fu c1_2 c2_2 k59 n s20 v22))))
     (fun (j52 : xw_S → Int → Int → Int → Option xw_S) => xw_jn (fun (s17 : xw_S) (i3_51 : Int) (t0_51 : Int) => j52 s17 i3_51 0 t0_51)
     (fun (j51 : xw_S → Int → Int → Option xw_S) => xw_grd (xw_r c2_2) (xw_if (c2_2 = 0) (xw_grd ((0 ≤ c1_2 ∧ c1_2 < ((12 : Nat) : Int))) (xw_grd (xw_r (s1.1 6 (c1_2).toNat)) (xw_if (s1.1 6 (c1_2).toNat ≤ i3_2) (j51 s1 i3_2 i3_2)
     (xw_grd ((0 ≤ i3_2 ∧ i3_2 < ((121 : Nat) : Int))) (xw_grd (xw_r (s1.1 14 (i3_2).toNat)) (xw_if (s1.1 14 (i3_2).toNat = 0) (j51 s1 i3_2 i3_2)
     (xw_bn2 (f_MD_op fu s1 c1_2 i3_2) (fun s12 r14 => xw_grd (xw_r r14) (xw_if (r14 = 14) (j52 s12 i3_2 1 i3_2)
     (j51 s12 i3_2 i3_2))))))))))
     (j51 s1 i3_2 i3_2))))))
def lp_MD_choose_73 (fu : Nat) (c1_73 : Int) (k164 : xw_S → Option xw_S) : Nat → xw_S → Int → Option xw_S
  | 0, _, _ => none
  | n + 1, s29, i3_73 =>
    xw_grd ((0 ≤ c1_73 ∧ c1_73 < ((12 : Nat) : Int))) (xw_grd (xw_r i3_73 ∧ xw_r (s29.1 6 (c1_73).toNat)) (xw_if (s29.1 6 (c1_73).toNat ≤ i3_73) (k164 s29)
     (xw_bn2 (f_MD_op fu s29 c1_73 i3_73) (fun s33 r35 => xw_grd ((0 ≤ i3_73 ∧ i3_73 < ((121 : Nat) : Int))) (xw_jn (fun (s50 : xw_S) (i3_120 : Int) (i4_120 : Int) => xw_grd ((0 ≤ i3_120 ∧ i3_120 < ((121 : Nat) : Int))) (xw_jn (fun (s71 : xw_S) (i3_158 : Int) => xw_let (i3_158 + 1) (fun v72 => lp_MD_choose_73 fu c1_73 k164 n s71 v72))
     (fun (j158 : xw_S → Int → Option xw_S) => xw_grd (xw_r (s50.1 14 (i3_120).toNat)) (xw_if (s50.1 14 (i3_120).toNat = 0) (j158 s50 i3_120)
     (xw_bn2 (f_MD_branches fu s50 i4_120) (fun s54 r56 => xw_jn (fun (s64 : xw_S) (i3_145 : Int) (i4_145 : Int) => xw_bn2 (f_MD_sizeOf fu s64 i4_145) (fun s65 r67 => xw_grd ((0 ≤ i3_145 + r67 ∧ i3_145 + r67 < ((121 : Nat) : Int))) (xw_let (xw_st s65 17 (i3_145 + r67).toNat 1) (fun s69 => j158 s69 i3_145))))
     (fun (j145 : xw_S → Int → Int → Option xw_S) => xw_grd (xw_r r56) (xw_if (r56 = 0) (xw_bn2 (f_MD_ends fu s54 i4_120) (fun s59 r61 => xw_grd (xw_r r61) (xw_if (r61 = 0) (j158 s59 i3_120)
     (j145 s59 i3_120 i4_120))))
     (j145 s54 i3_120 i4_120)))))))))
     (fun (j120 : xw_S → Int → Int → Option xw_S) => xw_grd (xw_r (s33.1 14 (i3_73).toNat)) (xw_if (s33.1 14 (i3_73).toNat = 0) (j120 s33 i3_73 r35)
     (xw_bn2 (f_MD_branches fu s33 r35) (fun s39 r41 => xw_grd (xw_r r41) (xw_if (r41 = 0) (j120 s39 i3_73 r35)
     (xw_bn2 (f_MD_target fu s39 c1_73 i3_73) (fun s44 r46 => xw_grd ((0 ≤ r46 ∧ r46 < ((121 : Nat) : Int))) (xw_let (xw_st s44 17 (r46).toNat 1) (fun s48 => j120 s48 i3_73 r35))))))))))))))
def lp_MD_choose_166 (fu : Nat) (c1_166 : Int) (k203 : xw_S → Option xw_S) : Nat → xw_S → Int → Option xw_S
  | 0, _, _ => none
  | n + 1, s75, i3_166 =>
    xw_grd ((0 ≤ c1_166 ∧ c1_166 < ((12 : Nat) : Int))) (xw_grd (xw_r i3_166 ∧ xw_r (s75.1 8 (c1_166).toNat)) (xw_if (s75.1 8 (c1_166).toNat ≤ i3_166) (k203 s75)
     (xw_grd ((0 ≤ ((20 * c1_166) + (4 * i3_166)) + 2 ∧ ((20 * c1_166) + (4 * i3_166)) + 2 < ((240 : Nat) : Int))) (xw_grd ((0 ≤ s75.1 9 (((20 * c1_166) + (4 * i3_166)) + 2).toNat ∧ s75.1 9 (((20 * c1_166) + (4 * i3_166)) + 2).toNat < ((121 : Nat) : Int))) (xw_let (xw_st s75 17 (s75.1 9 (((20 * c1_166) + (4 * i3_166)) + 2).toNat).toNat 1) (fun s81 => xw_let (i3_166 + 1) (fun v83 => lp_MD_choose_166 fu c1_166 k203 n s81 v83)))))))
def f_MD_choose (fu : Nat) (s0 : xw_S) (p1 : Int) (p2 : Int) : Option xw_S :=
 xw_jn (fun (s24 : xw_S) => xw_grd (xw_r p2) (xw_if (p2 = 0) (some s24)
 (xw_let (xw_st s24 17 (0 : Int).toNat 1) (fun s27 => xw_jn (fun (s74 : xw_S) => xw_jn (fun (s85 : xw_S) => xw_grd ((0 ≤ p1 ∧ p1 < ((12 : Nat) : Int))) (xw_grd ((0 ≤ s85.1 6 (p1).toNat ∧ s85.1 6 (p1).toNat < ((121 : Nat) : Int))) (xw_let (xw_st s85 17 (s85.1 6 (p1).toNat).toNat 0) (fun s88 => some s88))))
 (fun (k203 : xw_S → Option xw_S) => lp_MD_choose_166 fu p1 k203 fu s74 0))
 (fun (k164 : xw_S → Option xw_S) => lp_MD_choose_73 fu p1 k164 fu s27 0)))))
 (fun (k59 : xw_S → Option xw_S) => lp_MD_choose_2 fu p1 p2 k59 fu s0 0)
set_option maxRecDepth 100000 in
set_option maxHeartbeats 4000000 in
theorem c_MD_choose (l : Launch) (D : va_G) (A : Nat → Prop) (ad : Nat → Nat) (cs : Nat → ClassId) (Z : va_W) (tt : Nat → Nat) (fu : Nat) (s0 sZ : xw_S) (p1 : Int) (p2 : Int) (h : f_MD_choose fu s0 p1 p2 = some sZ) : Met l y_MD_choose w_MD_choose ({ frames := 2, cells := 0, slots := 0, locals := 44 }) (va_Pc [.ref (ad 0), .int (xw_i p1), .int (xw_i p2)] (xw_H D vwCl A kdR 29 ad cs Z tt s0)) (va_Qv (fun u => u = sZ) (xw_H D vwCl A kdR 29 ad cs Z tt) A) 0 0 A := by
  refine Met.ofW (cc := b_MD_choose) (maxL := 5) (ret := none) (by decide) rfl ?_
  intro p e s m args below meth c s₁ B hml hv
  obtain ⟨rfl, hP, hK, hD, hX⟩ := hv
  have hx := B.exec
  have hb := B.bytes
  have hr := B.returns
  have hts0 := atoms_spec (ws := w_MD_choose) B.pre
  have hts := fun w (hw : w ∈ wAll) => hts0 w (List.mem_cons_of_mem _ hw)
  have hown : s.vm.findClass "AdviceWeaverModel" = some m.cls := findClass_of_methodNamed B.named
  have hlk := B.notSynchronized
  clear hts0 B
  have hS : va_S A s.heap s.heap [] := va_S.rf
  have hl := lv_entry [.ref (ad 0), .int (xw_i p1), .int (xw_i p2)] (n := 5) (Nat.le_of_ble_eq_true rfl)
  rw [lg_entry_eq]
  generalize (lg_sl [.ref (ad 0), .int (xw_i p1), .int (xw_i p2)] ++ List.replicate (5 - (lg_sl [.ref (ad 0), .int (xw_i p1), .int (xw_i p2)]).length) Slot.unset).toArray = ls at hl ⊢
  have hl : lv_has ls 5 [(0, .ref (ad 0)), (1, .int (xw_i p1)), (2, .int (xw_i p2))] := hl
  have hlp2 : ∀ (c1_2 : Int) (c2_2 : Int) (k59 : xw_S → Option xw_S) (hk59 : ∀ (sq : xw_S), k59 sq = some sZ → ∀ (H : Heap) (locs : List Loc) (ls : Array Slot), va_P D vwCl (xw_ws kdR 29 ad cs Z sq) H → va_S A s.heap H locs → lv_has ls 5 [(0, .ref (ad 0)), (1, .int (xw_i c1_2)), (2, .int (xw_i c2_2))] → W p l e (headSpec w_MD_choose ({ frames := 2, cells := 0, slots := 0, locals := 44 })).room s m [.ref (ad 0), .int (xw_i p1), .int (xw_i p2)].toArray below meth c H locs 0 0 (MQ below (va_Qv (fun u => u = sZ) (xw_H D vwCl A kdR 29 ad cs Z tt) A) [.ref (ad 0), .int (xw_i p1), .int (xw_i p2)].toArray s 0 0 A) (F0 m 59 ls [])) (n : Nat), ∀ (sq : xw_S) (i3_2 : Int), lp_MD_choose_2 fu c1_2 c2_2 k59 n sq i3_2 = some sZ → ∀ (H : Heap) (locs : List Loc) (ls : Array Slot), va_P D vwCl (xw_ws kdR 29 ad cs Z sq) H → va_S A s.heap H locs → lv_has ls 5 [(0, .ref (ad 0)), (1, .int (xw_i c1_2)), (2, .int (xw_i c2_2)), (3, .int (xw_i i3_2))] → W p l e (headSpec w_MD_choose ({ frames := 2, cells := 0, slots := 0, locals := 44 })).room s m [.ref (ad 0), .int (xw_i p1), .int (xw_i p2)].toArray below meth c H locs 0 0 (MQ below (va_Qv (fun u => u = sZ) (xw_H D vwCl A kdR 29 ad cs Z tt) A) [.ref (ad 0), .int (xw_i p1), .int (xw_i p2)].toArray s 0 0 A) (F0 m 2 ls []) := by
    intro c1_2 c2_2 k59 hk59 n
    induction n with
    | zero =>
      intro sq i3_2 h
      cases (show (none : Option xw_S) = some sZ from h)
    | succ n ih2 =>
      intro s1 i3_2 h H locs ls hP hS hl
      unfold lp_MD_choose_2 at h
      refine lv_iload_n hx hb d_MD_choose_2 rfl (lv_at hl 3 rfl) ?_
      refine lv_bipush (v := xw_i 120) hx hb d_MD_choose_3 (by decide) ?_
      obtain ⟨hg2, h⟩ := xw_grdI h
      refine xw_icmp_gt (tgt := 59) hx hb hg2 (by decide) d_MD_choose_5 (by decide) (fun hc3 => ?_) (fun hc3 => ?_)
      · replace h := xw_ifT hc3 h
        exact hk59 s1 h _ _ _ hP hS (lv_sub hl [0, 1, 2] rfl)
      · replace h := xw_ifF hc3 h
        refine lv_aload_n hx hb d_MD_choose_8 rfl (lv_at hl 0 rfl) ?_
        refine xw_getR (C := "AdviceWeaverModel") (T := T_MD) hx hb hts hin_MD hown hK hP (by decide) kr_MD (by decide) rfl 25 (by decide) (hts _ hw_528) (fun _ h9 => h9) rfl d_MD_choose_9 ?_
        refine lv_iload_n hx hb d_MD_choose_12 rfl (lv_at hl 3 rfl) ?_
        refine lv_iload_n hx hb d_MD_choose_13 rfl (lv_at hl 2 rfl) ?_
        refine xw_jnI (fun j => ∀ (sq : xw_S) (i3_52 : Int) (t0_52 : Int) (t1_52 : Int), j sq i3_52 t0_52 t1_52 = some sZ → ∀ (H : Heap) (locs : List Loc) (ls : Array Slot), va_P D vwCl (xw_ws kdR 29 ad cs Z sq) H → va_S A s.heap H locs → lv_has ls 5 [(0, .ref (ad 0)), (1, .int (xw_i c1_2)), (2, .int (xw_i c2_2)), (3, .int (xw_i i3_52))] → W p l e (headSpec w_MD_choose ({ frames := 2, cells := 0, slots := 0, locals := 44 })).room s m [.ref (ad 0), .int (xw_i p1), .int (xw_i p2)].toArray below meth c H locs 0 0 (MQ below (va_Qv (fun u => u = sZ) (xw_H D vwCl A kdR 29 ad cs Z tt) A) [.ref (ad 0), .int (xw_i p1), .int (xw_i p2)].toArray s 0 0 A) (F0 m 52 ls [.int (xw_i t0_52), .int (xw_i t1_52), .ref (ad 17)])) h ?_ ?_
        · intro s18 i3_52 t0_52 t1_52 h H locs ls hP hS hl
          obtain ⟨hg19, h⟩ := xw_grdI h
          refine xw_zast hx hb hK hP hD hS (by decide) kr_m_before (by decide) hg19.1 hg19.2 d_MD_choose_52 (fun s20 e21 H locs hP hS => ?_)
          replace h := xw_letI e21 h
          obtain ⟨v22, e23⟩ : ∃ z, z = i3_52 + 1 := ⟨_, rfl⟩
          replace h := xw_letI e23 h
          refine xw_iinc (lv' := [(3, .int (xw_i v22)), (0, .ref (ad 0)), (1, .int (xw_i c1_2)), (2, .int (xw_i c2_2))]) hx hb d_MD_choose_53 hl (k := 3) rfl (by decide) (by rw [e23]; rfl) (fun ls hl => ?_)
          refine lv_goto (tgt := 2) hx hb d_MD_choose_56 (by decide) ?_
          exact ih2 s20 v22 h _ _ _ hP hS (lv_sub hl [1, 2, 3, 0] rfl)
        · intro j52 hj52 h
          refine xw_jnI (fun j => ∀ (sq : xw_S) (i3_51 : Int) (t0_51 : Int), j sq i3_51 t0_51 = some sZ → ∀ (H : Heap) (locs : List Loc) (ls : Array Slot), va_P D vwCl (xw_ws kdR 29 ad cs Z sq) H → va_S A s.heap H locs → lv_has ls 5 [(0, .ref (ad 0)), (1, .int (xw_i c1_2)), (2, .int (xw_i c2_2)), (3, .int (xw_i i3_51))] → W p l e (headSpec w_MD_choose ({ frames := 2, cells := 0, slots := 0, locals := 44 })).room s m [.ref (ad 0), .int (xw_i p1), .int (xw_i p2)].toArray below meth c H locs 0 0 (MQ below (va_Qv (fun u => u = sZ) (xw_H D vwCl A kdR 29 ad cs Z tt) A) [.ref (ad 0), .int (xw_i p1), .int (xw_i p2)].toArray s 0 0 A) (F0 m 51 ls [.int (xw_i t0_51), .ref (ad 17)])) h ?_ ?_
          · intro s17 i3_51 t0_51 h H locs ls hP hS hl
            refine lv_iconst (v := xw_i 0) hx hb d_MD_choose_51 rfl ?_
            exact hj52 s17 i3_51 0 t0_51 h _ _ _ hP hS (lv_sub hl [0, 1, 2, 3] rfl)
          · intro j51 hj51 h
            obtain ⟨hg4, h⟩ := xw_grdI h
            refine xw_if_ne (tgt := 51) hx hb hg4 d_MD_choose_14 (by decide) (fun hc5 => ?_) (fun hc5 => ?_)
            · replace h := xw_ifF hc5 h
              exact hj51 s1 i3_2 i3_2 h _ _ _ hP hS (lv_sub hl [0, 1, 2, 3] rfl)
            · replace h := xw_ifT hc5 h
              refine lv_iload_n hx hb d_MD_choose_17 rfl (lv_at hl 3 rfl) ?_
              refine lv_aload_n hx hb d_MD_choose_18 rfl (lv_at hl 0 rfl) ?_
              refine xw_getR (C := "AdviceWeaverModel") (T := T_MD) hx hb hts hin_MD hown hK hP (by decide) kr_MD (by decide) rfl 6 (by decide) (hts _ hw_447) (fun _ h9 => h9) rfl d_MD_choose_19 ?_
              refine lv_iload_n hx hb d_MD_choose_22 rfl (lv_at hl 1 rfl) ?_
              obtain ⟨hg6, h⟩ := xw_grdI h
              refine xw_iald hx hb hK hP (by decide) kr_m_length (by decide) hg6 d_MD_choose_23 ?_
              obtain ⟨hg7, h⟩ := xw_grdI h
              refine xw_icmp_ge (tgt := 51) hx hb hg2 hg7 d_MD_choose_24 (by decide) (fun hc8 => ?_) (fun hc8 => ?_)
              · replace h := xw_ifT hc8 h
                exact hj51 s1 i3_2 i3_2 h _ _ _ hP hS (lv_sub hl [0, 1, 2, 3] rfl)
              · replace h := xw_ifF hc8 h
                refine lv_aload_n hx hb d_MD_choose_27 rfl (lv_at hl 0 rfl) ?_
                refine xw_getR (C := "AdviceWeaverModel") (T := T_MD) hx hb hts hin_MD hown hK hP (by decide) kr_MD (by decide) rfl 20 (by decide) (hts _ hw_451) (fun _ h9 => h9) rfl d_MD_choose_28 ?_
                refine lv_iload_n hx hb d_MD_choose_31 rfl (lv_at hl 3 rfl) ?_
                obtain ⟨hg9, h⟩ := xw_grdI h
                refine xw_zald hx hb hK hP (by decide) kr_m_begins (by decide) hg9 d_MD_choose_32 ?_
                obtain ⟨hg10, h⟩ := xw_grdI h
                refine xw_if_eq (tgt := 51) hx hb hg10 d_MD_choose_33 (by decide) (fun hc11 => ?_) (fun hc11 => ?_)
                · replace h := xw_ifT hc11 h
                  exact hj51 s1 i3_2 i3_2 h _ _ _ hP hS (lv_sub hl [0, 1, 2, 3] rfl)
                · replace h := xw_ifF hc11 h
                  refine lv_aload_n hx hb d_MD_choose_36 rfl (lv_at hl 0 rfl) ?_
                  refine lv_iload_n hx hb d_MD_choose_37 rfl (lv_at hl 1 rfl) ?_
                  refine lv_iload_n hx hb d_MD_choose_38 rfl (lv_at hl 3 rfl) ?_
                  obtain ⟨s12, r14, hc13, h⟩ := xw_bn2I h
                  refine xw_callVi (C := "AdviceWeaverModel") (T := T_MD) ⟨hx, hb, hml, hown, hts⟩ (c_MD_op l D A ad cs Z tt fu s1 s12 c1_2 i3_2 r14 hc13) (cwV 2 hts (gd_V hw_452 hw_453 hw_454 hw_433 hw_455) rfl rfl rfl (by decide +kernel) ⟨Nat.le_of_ble_eq_true rfl, Nat.le_of_ble_eq_true rfl⟩) hP hK hD hX hS (by decide) kr_MD (by decide) rfl rfl hl.1 rfl (Nat.le_of_ble_eq_true rfl) d_MD_choose_39 (fun H locs hP hS => ?_)
                  refine lv_bipush (v := xw_i 14) hx hb d_MD_choose_42 (by decide) ?_
                  obtain ⟨hg15, h⟩ := xw_grdI h
                  refine xw_icmp_ne (tgt := 51) hx hb hg15 (by decide) d_MD_choose_44 (by decide) (fun hc16 => ?_) (fun hc16 => ?_)
                  · replace h := xw_ifF hc16 h
                    exact hj51 s12 i3_2 i3_2 h _ _ _ hP hS (lv_sub hl [0, 1, 2, 3] rfl)
                  · replace h := xw_ifT hc16 h
                    refine lv_iconst (v := xw_i 1) hx hb d_MD_choose_47 rfl ?_
                    refine lv_goto (tgt := 52) hx hb d_MD_choose_48 (by decide) ?_
                    exact hj52 s12 i3_2 1 i3_2 h _ _ _ hP hS (lv_sub hl [0, 1, 2, 3] rfl)
  have hlp73 : ∀ (c1_73 : Int) (k164 : xw_S → Option xw_S) (hk164 : ∀ (sq : xw_S), k164 sq = some sZ → ∀ (H : Heap) (locs : List Loc) (ls : Array Slot), va_P D vwCl (xw_ws kdR 29 ad cs Z sq) H → va_S A s.heap H locs → lv_has ls 5 [(0, .ref (ad 0)), (1, .int (xw_i c1_73))] → W p l e (headSpec w_MD_choose ({ frames := 2, cells := 0, slots := 0, locals := 44 })).room s m [.ref (ad 0), .int (xw_i p1), .int (xw_i p2)].toArray below meth c H locs 0 0 (MQ below (va_Qv (fun u => u = sZ) (xw_H D vwCl A kdR 29 ad cs Z tt) A) [.ref (ad 0), .int (xw_i p1), .int (xw_i p2)].toArray s 0 0 A) (F0 m 164 ls [])) (n : Nat), ∀ (sq : xw_S) (i3_73 : Int), lp_MD_choose_73 fu c1_73 k164 n sq i3_73 = some sZ → ∀ (H : Heap) (locs : List Loc) (ls : Array Slot), va_P D vwCl (xw_ws kdR 29 ad cs Z sq) H → va_S A s.heap H locs → lv_has ls 5 [(0, .ref (ad 0)), (1, .int (xw_i c1_73)), (3, .int (xw_i i3_73))] → W p l e (headSpec w_MD_choose ({ frames := 2, cells := 0, slots := 0, locals := 44 })).room s m [.ref (ad 0), .int (xw_i p1), .int (xw_i p2)].toArray below meth c H locs 0 0 (MQ below (va_Qv (fun u => u = sZ) (xw_H D vwCl A kdR 29 ad cs Z tt) A) [.ref (ad 0), .int (xw_i p1), .int (xw_i p2)].toArray s 0 0 A) (F0 m 73 ls []) := by
    intro c1_73 k164 hk164 n
    induction n with
    | zero =>
      intro sq i3_73 h
      cases (show (none : Option xw_S) = some sZ from h)
    | succ n ih73 =>
      intro s29 i3_73 h H locs ls hP hS hl
      unfold lp_MD_choose_73 at h
      refine lv_iload_n hx hb d_MD_choose_73 rfl (lv_at hl 2 rfl) ?_
      refine lv_aload_n hx hb d_MD_choose_74 rfl (lv_at hl 0 rfl) ?_
      refine xw_getR (C := "AdviceWeaverModel") (T := T_MD) hx hb hts hin_MD hown hK hP (by decide) kr_MD (by decide) rfl 6 (by decide) (hts _ hw_447) (fun _ h9 => h9) rfl d_MD_choose_75 ?_
      refine lv_iload_n hx hb d_MD_choose_78 rfl (lv_at hl 1 rfl) ?_
      obtain ⟨hg30, h⟩ := xw_grdI h
      refine xw_iald hx hb hK hP (by decide) kr_m_length (by decide) hg30 d_MD_choose_79 ?_
      obtain ⟨hg31, h⟩ := xw_grdI h
      refine xw_icmp_ge (tgt := 164) hx hb hg31.1 hg31.2 d_MD_choose_80 (by decide) (fun hc32 => ?_) (fun hc32 => ?_)
      · replace h := xw_ifT hc32 h
        exact hk164 s29 h _ _ _ hP hS (lv_sub hl [0, 1] rfl)
      · replace h := xw_ifF hc32 h
        refine lv_aload_n hx hb d_MD_choose_83 rfl (lv_at hl 0 rfl) ?_
        refine lv_iload_n hx hb d_MD_choose_84 rfl (lv_at hl 1 rfl) ?_
        refine lv_iload_n hx hb d_MD_choose_85 rfl (lv_at hl 2 rfl) ?_
        obtain ⟨s33, r35, hc34, h⟩ := xw_bn2I h
        refine xw_callVi (C := "AdviceWeaverModel") (T := T_MD) ⟨hx, hb, hml, hown, hts⟩ (c_MD_op l D A ad cs Z tt fu s29 s33 c1_73 i3_73 r35 hc34) (cwV 2 hts (gd_V hw_452 hw_453 hw_454 hw_433 hw_455) rfl rfl rfl (by decide +kernel) ⟨Nat.le_of_ble_eq_true rfl, Nat.le_of_ble_eq_true rfl⟩) hP hK hD hX hS (by decide) kr_MD (by decide) rfl rfl hl.1 rfl (Nat.le_of_ble_eq_true rfl) d_MD_choose_86 (fun H locs hP hS => ?_)
        refine lv_istore hx hb d_MD_choose_89 hl (by decide) rfl (fun ls hl => ?_)
        refine lv_aload_n hx hb d_MD_choose_91 rfl (lv_at hl 1 rfl) ?_
        refine xw_getR (C := "AdviceWeaverModel") (T := T_MD) hx hb hts hin_MD hown hK hP (by decide) kr_MD (by decide) rfl 20 (by decide) (hts _ hw_451) (fun _ h9 => h9) rfl d_MD_choose_92 ?_
        refine lv_iload_n hx hb d_MD_choose_95 rfl (lv_at hl 3 rfl) ?_
        obtain ⟨hg36, h⟩ := xw_grdI h
        refine xw_zald hx hb hK hP (by decide) kr_m_begins (by decide) hg36 d_MD_choose_96 ?_
        refine xw_jnI (fun j => ∀ (sq : xw_S) (i3_120 : Int) (i4_120 : Int), j sq i3_120 i4_120 = some sZ → ∀ (H : Heap) (locs : List Loc) (ls : Array Slot), va_P D vwCl (xw_ws kdR 29 ad cs Z sq) H → va_S A s.heap H locs → lv_has ls 5 [(0, .ref (ad 0)), (1, .int (xw_i c1_73)), (3, .int (xw_i i3_120)), (4, .int (xw_i i4_120))] → W p l e (headSpec w_MD_choose ({ frames := 2, cells := 0, slots := 0, locals := 44 })).room s m [.ref (ad 0), .int (xw_i p1), .int (xw_i p2)].toArray below meth c H locs 0 0 (MQ below (va_Qv (fun u => u = sZ) (xw_H D vwCl A kdR 29 ad cs Z tt) A) [.ref (ad 0), .int (xw_i p1), .int (xw_i p2)].toArray s 0 0 A) (F0 m 120 ls [])) h ?_ ?_
        · intro s50 i3_120 i4_120 h H locs ls hP hS hl
          refine lv_aload_n hx hb d_MD_choose_120 rfl (lv_at hl 0 rfl) ?_
          refine xw_getR (C := "AdviceWeaverModel") (T := T_MD) hx hb hts hin_MD hown hK hP (by decide) kr_MD (by decide) rfl 20 (by decide) (hts _ hw_451) (fun _ h9 => h9) rfl d_MD_choose_121 ?_
          refine lv_iload_n hx hb d_MD_choose_124 rfl (lv_at hl 2 rfl) ?_
          obtain ⟨hg51, h⟩ := xw_grdI h
          refine xw_zald hx hb hK hP (by decide) kr_m_begins (by decide) hg51 d_MD_choose_125 ?_
          refine xw_jnI (fun j => ∀ (sq : xw_S) (i3_158 : Int), j sq i3_158 = some sZ → ∀ (H : Heap) (locs : List Loc) (ls : Array Slot), va_P D vwCl (xw_ws kdR 29 ad cs Z sq) H → va_S A s.heap H locs → lv_has ls 5 [(0, .ref (ad 0)), (1, .int (xw_i c1_73)), (3, .int (xw_i i3_158))] → W p l e (headSpec w_MD_choose ({ frames := 2, cells := 0, slots := 0, locals := 44 })).room s m [.ref (ad 0), .int (xw_i p1), .int (xw_i p2)].toArray below meth c H locs 0 0 (MQ below (va_Qv (fun u => u = sZ) (xw_H D vwCl A kdR 29 ad cs Z tt) A) [.ref (ad 0), .int (xw_i p1), .int (xw_i p2)].toArray s 0 0 A) (F0 m 158 ls [])) h ?_ ?_
          · intro s71 i3_158 h H locs ls hP hS hl
            obtain ⟨v72, e73⟩ : ∃ z, z = i3_158 + 1 := ⟨_, rfl⟩
            replace h := xw_letI e73 h
            refine xw_iinc (lv' := [(3, .int (xw_i v72)), (0, .ref (ad 0)), (1, .int (xw_i c1_73))]) hx hb d_MD_choose_158 hl (k := 2) rfl (by decide) (by rw [e73]; rfl) (fun ls hl => ?_)
            refine lv_goto (tgt := 73) hx hb d_MD_choose_161 (by decide) ?_
            exact ih73 s71 v72 h _ _ _ hP hS (lv_sub hl [1, 2, 0] rfl)
          · intro j158 hj158 h
            obtain ⟨hg52, h⟩ := xw_grdI h
            refine xw_if_eq (tgt := 158) hx hb hg52 d_MD_choose_126 (by decide) (fun hc53 => ?_) (fun hc53 => ?_)
            · replace h := xw_ifT hc53 h
              exact hj158 s50 i3_120 h _ _ _ hP hS (lv_sub hl [0, 1, 2] rfl)
            · replace h := xw_ifF hc53 h
              refine lv_iload hx hb d_MD_choose_129 (lv_at hl 3 rfl) ?_
              obtain ⟨s54, r56, hc55, h⟩ := xw_bn2I h
              refine xw_callSi ⟨hx, hb, hml, hown, hts⟩ (c_MD_branches l D A ad cs Z tt fu s50 s54 i4_120 r56 hc55) (va_cwS 1 hts (gd_S hw_467 hw_468 hw_433 hw_469) rfl rfl rfl (by decide +kernel) ⟨Nat.le_of_ble_eq_true rfl, Nat.le_of_ble_eq_true rfl⟩) hP hK hD hX hS rfl hl.1 rfl (Nat.le_of_ble_eq_true rfl) d_MD_choose_131 (fun H locs hP hS => ?_)
              refine xw_jnI (fun j => ∀ (sq : xw_S) (i3_145 : Int) (i4_145 : Int), j sq i3_145 i4_145 = some sZ → ∀ (H : Heap) (locs : List Loc) (ls : Array Slot), va_P D vwCl (xw_ws kdR 29 ad cs Z sq) H → va_S A s.heap H locs → lv_has ls 5 [(0, .ref (ad 0)), (1, .int (xw_i c1_73)), (3, .int (xw_i i3_145)), (4, .int (xw_i i4_145))] → W p l e (headSpec w_MD_choose ({ frames := 2, cells := 0, slots := 0, locals := 44 })).room s m [.ref (ad 0), .int (xw_i p1), .int (xw_i p2)].toArray below meth c H locs 0 0 (MQ below (va_Qv (fun u => u = sZ) (xw_H D vwCl A kdR 29 ad cs Z tt) A) [.ref (ad 0), .int (xw_i p1), .int (xw_i p2)].toArray s 0 0 A) (F0 m 145 ls [])) h ?_ ?_
              · intro s64 i3_145 i4_145 h H locs ls hP hS hl
                refine lv_aload_n hx hb d_MD_choose_145 rfl (lv_at hl 0 rfl) ?_
                refine xw_getR (C := "AdviceWeaverModel") (T := T_MD) hx hb hts hin_MD hown hK hP (by decide) kr_MD (by decide) rfl 25 (by decide) (hts _ hw_528) (fun _ h9 => h9) rfl d_MD_choose_146 ?_
                refine lv_iload_n hx hb d_MD_choose_149 rfl (lv_at hl 2 rfl) ?_
                refine lv_iload hx hb d_MD_choose_150 (lv_at hl 3 rfl) ?_
                obtain ⟨s65, r67, hc66, h⟩ := xw_bn2I h
                refine xw_callSi ⟨hx, hb, hml, hown, hts⟩ (c_MD_sizeOf l D A ad cs Z tt fu s64 s65 i4_145 r67 hc66) (va_cwS 1 hts (gd_S hw_456 hw_457 hw_433 hw_458) rfl rfl rfl (by decide +kernel) ⟨Nat.le_of_ble_eq_true rfl, Nat.le_of_ble_eq_true rfl⟩) hP hK hD hX hS rfl hl.1 rfl (Nat.le_of_ble_eq_true rfl) d_MD_choose_152 (fun H locs hP hS => ?_)
                refine xw_iadd hx hb d_MD_choose_155 ?_
                refine lv_iconst (v := xw_i 1) hx hb d_MD_choose_156 rfl ?_
                obtain ⟨hg68, h⟩ := xw_grdI h
                refine xw_zast hx hb hK hP hD hS (by decide) kr_m_before (by decide) hg68 (by decide) d_MD_choose_157 (fun s69 e70 H locs hP hS => ?_)
                replace h := xw_letI e70 h
                exact hj158 s69 i3_145 h _ _ _ hP hS (lv_sub hl [0, 1, 2] rfl)
              · intro j145 hj145 h
                obtain ⟨hg57, h⟩ := xw_grdI h
                refine xw_if_ne (tgt := 145) hx hb hg57 d_MD_choose_134 (by decide) (fun hc58 => ?_) (fun hc58 => ?_)
                · replace h := xw_ifF hc58 h
                  exact hj145 s54 i3_120 i4_120 h _ _ _ hP hS (lv_sub hl [0, 1, 2, 3] rfl)
                · replace h := xw_ifT hc58 h
                  refine lv_iload hx hb d_MD_choose_137 (lv_at hl 3 rfl) ?_
                  obtain ⟨s59, r61, hc60, h⟩ := xw_bn2I h
                  refine xw_callSi ⟨hx, hb, hml, hown, hts⟩ (c_MD_ends l D A ad cs Z tt fu s54 s59 i4_120 r61 hc60) (va_cwS 1 hts (gd_S hw_498 hw_499 hw_433 hw_500) rfl rfl rfl (by decide +kernel) ⟨Nat.le_of_ble_eq_true rfl, Nat.le_of_ble_eq_true rfl⟩) hP hK hD hX hS rfl hl.1 rfl (Nat.le_of_ble_eq_true rfl) d_MD_choose_139 (fun H locs hP hS => ?_)
                  obtain ⟨hg62, h⟩ := xw_grdI h
                  refine xw_if_eq (tgt := 158) hx hb hg62 d_MD_choose_142 (by decide) (fun hc63 => ?_) (fun hc63 => ?_)
                  · replace h := xw_ifT hc63 h
                    exact hj158 s59 i3_120 h _ _ _ hP hS (lv_sub hl [0, 1, 2] rfl)
                  · replace h := xw_ifF hc63 h
                    exact hj145 s59 i3_120 i4_120 h _ _ _ hP hS (lv_sub hl [0, 1, 2, 3] rfl)
        · intro j120 hj120 h
          obtain ⟨hg37, h⟩ := xw_grdI h
          refine xw_if_eq (tgt := 120) hx hb hg37 d_MD_choose_97 (by decide) (fun hc38 => ?_) (fun hc38 => ?_)
          · replace h := xw_ifT hc38 h
            exact hj120 s33 i3_73 r35 h _ _ _ hP hS (lv_sub hl [1, 2, 3, 0] rfl)
          · replace h := xw_ifF hc38 h
            refine lv_iload hx hb d_MD_choose_100 (lv_at hl 0 rfl) ?_
            obtain ⟨s39, r41, hc40, h⟩ := xw_bn2I h
            refine xw_callSi ⟨hx, hb, hml, hown, hts⟩ (c_MD_branches l D A ad cs Z tt fu s33 s39 r35 r41 hc40) (va_cwS 1 hts (gd_S hw_467 hw_468 hw_433 hw_469) rfl rfl rfl (by decide +kernel) ⟨Nat.le_of_ble_eq_true rfl, Nat.le_of_ble_eq_true rfl⟩) hP hK hD hX hS rfl hl.1 rfl (Nat.le_of_ble_eq_true rfl) d_MD_choose_102 (fun H locs hP hS => ?_)
            obtain ⟨hg42, h⟩ := xw_grdI h
            refine xw_if_eq (tgt := 120) hx hb hg42 d_MD_choose_105 (by decide) (fun hc43 => ?_) (fun hc43 => ?_)
            · replace h := xw_ifT hc43 h
              exact hj120 s39 i3_73 r35 h _ _ _ hP hS (lv_sub hl [1, 2, 3, 0] rfl)
            · replace h := xw_ifF hc43 h
              refine lv_aload_n hx hb d_MD_choose_108 rfl (lv_at hl 1 rfl) ?_
              refine xw_getR (C := "AdviceWeaverModel") (T := T_MD) hx hb hts hin_MD hown hK hP (by decide) kr_MD (by decide) rfl 25 (by decide) (hts _ hw_528) (fun _ h9 => h9) rfl d_MD_choose_109 ?_
              refine lv_aload_n hx hb d_MD_choose_112 rfl (lv_at hl 1 rfl) ?_
              refine lv_iload_n hx hb d_MD_choose_113 rfl (lv_at hl 2 rfl) ?_
              refine lv_iload_n hx hb d_MD_choose_114 rfl (lv_at hl 3 rfl) ?_
              obtain ⟨s44, r46, hc45, h⟩ := xw_bn2I h
              refine xw_callVi (C := "AdviceWeaverModel") (T := T_MD) ⟨hx, hb, hml, hown, hts⟩ (c_MD_target l D A ad cs Z tt fu s39 s44 c1_73 i3_73 r46 hc45) (cwV 2 hts (gd_V hw_470 hw_471 hw_472 hw_433 hw_473) rfl rfl rfl (by decide +kernel) ⟨Nat.le_of_ble_eq_true rfl, Nat.le_of_ble_eq_true rfl⟩) hP hK hD hX hS (by decide) kr_MD (by decide) rfl rfl hl.1 rfl (Nat.le_of_ble_eq_true rfl) d_MD_choose_115 (fun H locs hP hS => ?_)
              refine lv_iconst (v := xw_i 1) hx hb d_MD_choose_118 rfl ?_
              obtain ⟨hg47, h⟩ := xw_grdI h
              refine xw_zast hx hb hK hP hD hS (by decide) kr_m_before (by decide) hg47 (by decide) d_MD_choose_119 (fun s48 e49 H locs hP hS => ?_)
              replace h := xw_letI e49 h
              exact hj120 s48 i3_73 r35 h _ _ _ hP hS (lv_sub hl [1, 2, 3, 0] rfl)
  have hlp166 : ∀ (c1_166 : Int) (k203 : xw_S → Option xw_S) (hk203 : ∀ (sq : xw_S), k203 sq = some sZ → ∀ (H : Heap) (locs : List Loc) (ls : Array Slot), va_P D vwCl (xw_ws kdR 29 ad cs Z sq) H → va_S A s.heap H locs → lv_has ls 5 [(0, .ref (ad 0)), (1, .int (xw_i c1_166))] → W p l e (headSpec w_MD_choose ({ frames := 2, cells := 0, slots := 0, locals := 44 })).room s m [.ref (ad 0), .int (xw_i p1), .int (xw_i p2)].toArray below meth c H locs 0 0 (MQ below (va_Qv (fun u => u = sZ) (xw_H D vwCl A kdR 29 ad cs Z tt) A) [.ref (ad 0), .int (xw_i p1), .int (xw_i p2)].toArray s 0 0 A) (F0 m 203 ls [])) (n : Nat), ∀ (sq : xw_S) (i3_166 : Int), lp_MD_choose_166 fu c1_166 k203 n sq i3_166 = some sZ → ∀ (H : Heap) (locs : List Loc) (ls : Array Slot), va_P D vwCl (xw_ws kdR 29 ad cs Z sq) H → va_S A s.heap H locs → lv_has ls 5 [(0, .ref (ad 0)), (1, .int (xw_i c1_166)), (3, .int (xw_i i3_166))] → W p l e (headSpec w_MD_choose ({ frames := 2, cells := 0, slots := 0, locals := 44 })).room s m [.ref (ad 0), .int (xw_i p1), .int (xw_i p2)].toArray below meth c H locs 0 0 (MQ below (va_Qv (fun u => u = sZ) (xw_H D vwCl A kdR 29 ad cs Z tt) A) [.ref (ad 0), .int (xw_i p1), .int (xw_i p2)].toArray s 0 0 A) (F0 m 166 ls []) := by
    intro c1_166 k203 hk203 n
    induction n with
    | zero =>
      intro sq i3_166 h
      cases (show (none : Option xw_S) = some sZ from h)
    | succ n ih166 =>
      intro s75 i3_166 h H locs ls hP hS hl
      unfold lp_MD_choose_166 at h
      refine lv_iload_n hx hb d_MD_choose_166 rfl (lv_at hl 2 rfl) ?_
      refine lv_aload_n hx hb d_MD_choose_167 rfl (lv_at hl 0 rfl) ?_
      refine xw_getR (C := "AdviceWeaverModel") (T := T_MD) hx hb hts hin_MD hown hK hP (by decide) kr_MD (by decide) rfl 8 (by decide) (hts _ hw_449) (fun _ h9 => h9) rfl d_MD_choose_168 ?_
      refine lv_iload_n hx hb d_MD_choose_171 rfl (lv_at hl 1 rfl) ?_
      obtain ⟨hg76, h⟩ := xw_grdI h
      refine xw_iald hx hb hK hP (by decide) kr_m_handlers (by decide) hg76 d_MD_choose_172 ?_
      obtain ⟨hg77, h⟩ := xw_grdI h
      refine xw_icmp_ge (tgt := 203) hx hb hg77.1 hg77.2 d_MD_choose_173 (by decide) (fun hc78 => ?_) (fun hc78 => ?_)
      · replace h := xw_ifT hc78 h
        exact hk203 s75 h _ _ _ hP hS (lv_sub hl [0, 1] rfl)
      · replace h := xw_ifF hc78 h
        refine lv_aload_n hx hb d_MD_choose_176 rfl (lv_at hl 0 rfl) ?_
        refine xw_getR (C := "AdviceWeaverModel") (T := T_MD) hx hb hts hin_MD hown hK hP (by decide) kr_MD (by decide) rfl 25 (by decide) (hts _ hw_528) (fun _ h9 => h9) rfl d_MD_choose_177 ?_
        refine lv_aload_n hx hb d_MD_choose_180 rfl (lv_at hl 0 rfl) ?_
        refine xw_getR (C := "AdviceWeaverModel") (T := T_MD) hx hb hts hin_MD hown hK hP (by decide) kr_MD (by decide) rfl 9 (by decide) (hts _ hw_450) (fun _ h9 => h9) rfl d_MD_choose_181 ?_
        refine lv_bipush (v := xw_i 20) hx hb d_MD_choose_184 (by decide) ?_
        refine lv_iload_n hx hb d_MD_choose_186 rfl (lv_at hl 1 rfl) ?_
        refine xw_imul hx hb d_MD_choose_187 ?_
        refine lv_iconst (v := xw_i 4) hx hb d_MD_choose_188 rfl ?_
        refine lv_iload_n hx hb d_MD_choose_189 rfl (lv_at hl 2 rfl) ?_
        refine xw_imul hx hb d_MD_choose_190 ?_
        refine xw_iadd hx hb d_MD_choose_191 ?_
        refine lv_iconst (v := xw_i 2) hx hb d_MD_choose_192 rfl ?_
        refine xw_iadd hx hb d_MD_choose_193 ?_
        obtain ⟨hg79, h⟩ := xw_grdI h
        refine xw_iald hx hb hK hP (by decide) kr_m_handler (by decide) hg79 d_MD_choose_194 ?_
        refine lv_iconst (v := xw_i 1) hx hb d_MD_choose_195 rfl ?_
        obtain ⟨hg80, h⟩ := xw_grdI h
        refine xw_zast hx hb hK hP hD hS (by decide) kr_m_before (by decide) hg80 (by decide) d_MD_choose_196 (fun s81 e82 H locs hP hS => ?_)
        replace h := xw_letI e82 h
        obtain ⟨v83, e84⟩ : ∃ z, z = i3_166 + 1 := ⟨_, rfl⟩
        replace h := xw_letI e84 h
        refine xw_iinc (lv' := [(3, .int (xw_i v83)), (0, .ref (ad 0)), (1, .int (xw_i c1_166))]) hx hb d_MD_choose_197 hl (k := 2) rfl (by decide) (by rw [e84]; rfl) (fun ls hl => ?_)
        refine lv_goto (tgt := 166) hx hb d_MD_choose_200 (by decide) ?_
        exact ih166 s81 v83 h _ _ _ hP hS (lv_sub hl [1, 2, 0] rfl)
  unfold f_MD_choose at h
  refine lv_iconst (v := xw_i 0) hx hb d_MD_choose_0 rfl ?_
  refine lv_istore_n hx hb d_MD_choose_1 rfl hl (by decide) rfl (fun ls hl => ?_)
  refine xw_jnI (fun j => ∀ (sq : xw_S), j sq = some sZ → ∀ (H : Heap) (locs : List Loc) (ls : Array Slot), va_P D vwCl (xw_ws kdR 29 ad cs Z sq) H → va_S A s.heap H locs → lv_has ls 5 [(0, .ref (ad 0)), (1, .int (xw_i p1)), (2, .int (xw_i p2))] → W p l e (headSpec w_MD_choose ({ frames := 2, cells := 0, slots := 0, locals := 44 })).room s m [.ref (ad 0), .int (xw_i p1), .int (xw_i p2)].toArray below meth c H locs 0 0 (MQ below (va_Qv (fun u => u = sZ) (xw_H D vwCl A kdR 29 ad cs Z tt) A) [.ref (ad 0), .int (xw_i p1), .int (xw_i p2)].toArray s 0 0 A) (F0 m 59 ls [])) h ?_ ?_
  · intro s24 h H locs ls hP hS hl
    refine lv_iload_n hx hb d_MD_choose_59 rfl (lv_at hl 2 rfl) ?_
    obtain ⟨hg25, h⟩ := xw_grdI h
    refine xw_if_ne (tgt := 64) hx hb hg25 d_MD_choose_60 (by decide) (fun hc26 => ?_) (fun hc26 => ?_)
    · replace h := xw_ifF hc26 h
      refine lv_aload_n hx hb d_MD_choose_64 rfl (lv_at hl 0 rfl) ?_
      refine xw_getR (C := "AdviceWeaverModel") (T := T_MD) hx hb hts hin_MD hown hK hP (by decide) kr_MD (by decide) rfl 25 (by decide) (hts _ hw_528) (fun _ h9 => h9) rfl d_MD_choose_65 ?_
      refine lv_iconst (v := xw_i 0) hx hb d_MD_choose_68 rfl ?_
      refine lv_iconst (v := xw_i 1) hx hb d_MD_choose_69 rfl ?_
      refine xw_zast hx hb hK hP hD hS (by decide) kr_m_before (by decide) (by decide) (by decide) d_MD_choose_70 (fun s27 e28 H locs hP hS => ?_)
      replace h := xw_letI e28 h
      refine lv_iconst (v := xw_i 0) hx hb d_MD_choose_71 rfl ?_
      refine lv_istore_n hx hb d_MD_choose_72 rfl hl (by decide) rfl (fun ls hl => ?_)
      refine xw_jnI (fun j => ∀ (sq : xw_S), j sq = some sZ → ∀ (H : Heap) (locs : List Loc) (ls : Array Slot), va_P D vwCl (xw_ws kdR 29 ad cs Z sq) H → va_S A s.heap H locs → lv_has ls 5 [(0, .ref (ad 0)), (1, .int (xw_i p1))] → W p l e (headSpec w_MD_choose ({ frames := 2, cells := 0, slots := 0, locals := 44 })).room s m [.ref (ad 0), .int (xw_i p1), .int (xw_i p2)].toArray below meth c H locs 0 0 (MQ below (va_Qv (fun u => u = sZ) (xw_H D vwCl A kdR 29 ad cs Z tt) A) [.ref (ad 0), .int (xw_i p1), .int (xw_i p2)].toArray s 0 0 A) (F0 m 164 ls [])) h ?_ ?_
      · intro s74 h H locs ls hP hS hl
        refine lv_iconst (v := xw_i 0) hx hb d_MD_choose_164 rfl ?_
        refine lv_istore_n hx hb d_MD_choose_165 rfl hl (by decide) rfl (fun ls hl => ?_)
        refine xw_jnI (fun j => ∀ (sq : xw_S), j sq = some sZ → ∀ (H : Heap) (locs : List Loc) (ls : Array Slot), va_P D vwCl (xw_ws kdR 29 ad cs Z sq) H → va_S A s.heap H locs → lv_has ls 5 [(0, .ref (ad 0)), (1, .int (xw_i p1))] → W p l e (headSpec w_MD_choose ({ frames := 2, cells := 0, slots := 0, locals := 44 })).room s m [.ref (ad 0), .int (xw_i p1), .int (xw_i p2)].toArray below meth c H locs 0 0 (MQ below (va_Qv (fun u => u = sZ) (xw_H D vwCl A kdR 29 ad cs Z tt) A) [.ref (ad 0), .int (xw_i p1), .int (xw_i p2)].toArray s 0 0 A) (F0 m 203 ls [])) h ?_ ?_
        · intro s85 h H locs ls hP hS hl
          refine lv_aload_n hx hb d_MD_choose_203 rfl (lv_at hl 0 rfl) ?_
          refine xw_getR (C := "AdviceWeaverModel") (T := T_MD) hx hb hts hin_MD hown hK hP (by decide) kr_MD (by decide) rfl 25 (by decide) (hts _ hw_528) (fun _ h9 => h9) rfl d_MD_choose_204 ?_
          refine lv_aload_n hx hb d_MD_choose_207 rfl (lv_at hl 0 rfl) ?_
          refine xw_getR (C := "AdviceWeaverModel") (T := T_MD) hx hb hts hin_MD hown hK hP (by decide) kr_MD (by decide) rfl 6 (by decide) (hts _ hw_447) (fun _ h9 => h9) rfl d_MD_choose_208 ?_
          refine lv_iload_n hx hb d_MD_choose_211 rfl (lv_at hl 1 rfl) ?_
          obtain ⟨hg86, h⟩ := xw_grdI h
          refine xw_iald hx hb hK hP (by decide) kr_m_length (by decide) hg86 d_MD_choose_212 ?_
          refine lv_iconst (v := xw_i 0) hx hb d_MD_choose_213 rfl ?_
          obtain ⟨hg87, h⟩ := xw_grdI h
          refine xw_zast hx hb hK hP hD hS (by decide) kr_m_before (by decide) hg87 (by decide) d_MD_choose_214 (fun s88 e89 H locs hP hS => ?_)
          replace h := xw_letI e89 h
          exact xw_vretE hx hb hr hlk hP hK hD hX hS h d_MD_choose_215
        · intro k203 hk203 h
          exact hlp166 p1 k203 hk203 fu s74 0 h _ _ _ hP hS (lv_sub hl [1, 2, 0] rfl)
      · intro k164 hk164 h
        exact hlp73 p1 k164 hk164 fu s27 0 h _ _ _ hP hS (lv_sub hl [1, 2, 0] rfl)
    · replace h := xw_ifT hc26 h
      exact xw_vretE hx hb hr hlk hP hK hD hX hS h d_MD_choose_63
  · intro k59 hk59 h
    exact hlp2 p1 p2 k59 hk59 fu s0 0 h _ _ _ hP hS (lv_sub hl [1, 2, 3, 0] rfl)
def lp_MD_lay_5 (fu : Nat) (c1_5 : Int) (k95 : xw_S → Int → Option (xw_S × Int)) : Nat → xw_S → Int → Int → Option (xw_S × Int)
  | 0, _, _, _ => none
  | n + 1, s1, i3_5, i4_5 =>
    xw_grd ((0 ≤ c1_5 ∧ c1_5 < ((12 : Nat) : Int))) (xw_grd (xw_r i4_5 ∧ xw_r (s1.1 6 (c1_5).toNat)) (xw_if (s1.1 6 (c1_5).toNat ≤ i4_5) (k95 s1 i3_5)
     (xw_grd ((0 ≤ i4_5 ∧ i4_5 < ((121 : Nat) : Int))) (xw_jn (fun (s27 : xw_S) (i3_89 : Int) (i4_89 : Int) => xw_let (i4_89 + 1) (fun v28 => lp_MD_lay_5 fu c1_5 k95 n s27 i3_89 v28))
     (fun (j89 : xw_S → Int → Int → Option (xw_S × Int)) => xw_grd (xw_r (s1.1 14 (i4_5).toNat)) (xw_if (s1.1 14 (i4_5).toNat = 0) (j89 s1 i3_5 i4_5)
     (xw_let (xw_st s1 19 (i4_5).toNat i3_5) (fun s8 => xw_jn (fun (s12 : xw_S) (i4_51 : Int) (t0_51 : Int) => xw_grd ((0 ≤ i4_51 ∧ i4_51 < ((121 : Nat) : Int))) (xw_let (xw_st s12 20 (i4_51).toNat t0_51) (fun s14 => xw_bn2 (f_MD_op fu s14 c1_5 i4_51) (fun s16 r18 => xw_bn2 (f_MD_sizeOf fu s16 r18) (fun s19 r21 => xw_jn (fun (s24 : xw_S) (i4_87 : Int) (t0_87 : Int) (t1_87 : Int) => xw_let (t1_87 + t0_87) (fun v25 => j89 s24 v25 i4_87))
     (fun (j87 : xw_S → Int → Int → Int → Option (xw_S × Int)) => xw_grd (xw_r (s19.1 18 (i4_51).toNat)) (xw_if (s19.1 18 (i4_51).toNat = 0) (j87 s19 i4_51 0 (t0_51 + r21))
     (j87 s19 i4_51 1 (t0_51 + r21)))))))))
     (fun (j51 : xw_S → Int → Int → Option (xw_S × Int)) => xw_grd (xw_r (s8.1 17 (i4_5).toNat)) (xw_if (s8.1 17 (i4_5).toNat = 0) (j51 s8 i4_5 i3_5)
     (j51 s8 i4_5 (i3_5 + 2))))))))))))
def lp_MD_lay_113 (fu : Nat) (c1_113 : Int) (k216 : xw_S → Int → Option (xw_S × Int)) : Nat → xw_S → Int → Int → Option (xw_S × Int)
  | 0, _, _, _ => none
  | n + 1, s35, i4_113, i5_113 =>
    xw_grd ((0 ≤ c1_113 ∧ c1_113 < ((12 : Nat) : Int))) (xw_grd (xw_r i5_113 ∧ xw_r (s35.1 6 (c1_113).toNat)) (xw_if (s35.1 6 (c1_113).toNat ≤ i5_113) (k216 s35 i4_113)
     (xw_grd ((0 ≤ i5_113 ∧ i5_113 < ((121 : Nat) : Int))) (xw_jn (fun (s68 : xw_S) (i4_210 : Int) (i5_210 : Int) => xw_let (i5_210 + 1) (fun v69 => lp_MD_lay_113 fu c1_113 k216 n s68 i4_210 v69))
     (fun (j210 : xw_S → Int → Int → Option (xw_S × Int)) => xw_grd (xw_r (s35.1 14 (i5_113).toNat)) (xw_if (s35.1 14 (i5_113).toNat = 0) (j210 s35 i4_113 i5_113)
     (xw_grd (xw_r (s35.1 18 (i5_113).toNat)) (xw_if (s35.1 18 (i5_113).toNat = 0) (xw_bn2 (f_MD_op fu s35 c1_113 i5_113) (fun s44 r46 => xw_bn2 (f_MD_branches fu s44 r46) (fun s47 r49 => xw_grd (xw_r r49) (xw_if (r49 = 0) (j210 s47 i4_113 i5_113)
     (xw_bn2 (f_MD_op fu s47 c1_113 i5_113) (fun s52 r54 => xw_grd (xw_r r54) (xw_if (20 ≤ r54) (j210 s52 i4_113 i5_113)
     (xw_bn2 (f_MD_target fu s52 c1_113 i5_113) (fun s57 r59 => xw_grd ((0 ≤ r59 ∧ r59 < ((121 : Nat) : Int))) (xw_bn2 (f_MD_outside fu s57 ((s57.1 19 (r59).toNat) - (s57.1 20 (i5_113).toNat)) (-24) 24) (fun s61 r63 => xw_grd (xw_r r63) (xw_if (r63 = 0) (j210 s61 i4_113 i5_113)
     (xw_let (xw_st s61 18 (i5_113).toNat 1) (fun s66 => j210 s66 1 i5_113))))))))))))))
     (j210 s35 i4_113 i5_113)))))))))
def f_MD_lay (fu : Nat) (s0 : xw_S) (p1 : Int) (p2 : Int) : Option (xw_S × Int) :=
 xw_jn (fun (s30 : xw_S) (i3_95 : Int) => xw_grd ((0 ≤ p1 ∧ p1 < ((12 : Nat) : Int))) (xw_grd ((0 ≤ s30.1 6 (p1).toNat ∧ s30.1 6 (p1).toNat < ((121 : Nat) : Int))) (xw_let (xw_st s30 19 (s30.1 6 (p1).toNat).toNat i3_95) (fun s33 => xw_jn (fun (s71 : xw_S) (i4_216 : Int) => xw_grd ((i4_216 = 0 ∨ i4_216 = 1)) (some (s71, i4_216)))
 (fun (k216 : xw_S → Int → Option (xw_S × Int)) => lp_MD_lay_113 fu p1 k216 fu s33 0 0)))))
 (fun (k95 : xw_S → Int → Option (xw_S × Int)) => lp_MD_lay_5 fu p1 k95 fu s0 p2 0)
set_option maxRecDepth 100000 in
set_option maxHeartbeats 4000000 in
theorem c_MD_lay (l : Launch) (D : va_G) (A : Nat → Prop) (ad : Nat → Nat) (cs : Nat → ClassId) (Z : va_W) (tt : Nat → Nat) (fu : Nat) (s0 sZ : xw_S) (p1 : Int) (p2 : Int) (r0 : Int) (h : f_MD_lay fu s0 p1 p2 = some (sZ, r0)) : Met l y_MD_lay w_MD_lay ({ frames := 2, cells := 0, slots := 0, locals := 44 }) (va_Pc [.ref (ad 0), .int (xw_i p1), .int (xw_i p2)] (xw_H D vwCl A kdR 29 ad cs Z tt s0)) (va_Qi (fun r u => r = xw_i r0 ∧ u = sZ) (xw_H D vwCl A kdR 29 ad cs Z tt) A) 0 0 A := by
  refine Met.ofW (cc := b_MD_lay) (maxL := 6) (ret := (some .boolean)) (by decide) rfl ?_
  intro p e s m args below meth c s₁ B hml hv
  obtain ⟨rfl, hP, hK, hD, hX⟩ := hv
  have hx := B.exec
  have hb := B.bytes
  have hr := B.returns
  have hts0 := atoms_spec (ws := w_MD_lay) B.pre
  have hts := fun w (hw : w ∈ wAll) => hts0 w (List.mem_cons_of_mem _ hw)
  have hown : s.vm.findClass "AdviceWeaverModel" = some m.cls := findClass_of_methodNamed B.named
  have hlk := B.notSynchronized
  clear hts0 B
  have hS : va_S A s.heap s.heap [] := va_S.rf
  have hl := lv_entry [.ref (ad 0), .int (xw_i p1), .int (xw_i p2)] (n := 6) (Nat.le_of_ble_eq_true rfl)
  rw [lg_entry_eq]
  generalize (lg_sl [.ref (ad 0), .int (xw_i p1), .int (xw_i p2)] ++ List.replicate (6 - (lg_sl [.ref (ad 0), .int (xw_i p1), .int (xw_i p2)]).length) Slot.unset).toArray = ls at hl ⊢
  have hl : lv_has ls 6 [(0, .ref (ad 0)), (1, .int (xw_i p1)), (2, .int (xw_i p2))] := hl
  have hlp5 : ∀ (c1_5 : Int) (k95 : xw_S → Int → Option (xw_S × Int)) (hk95 : ∀ (sq : xw_S) (i3_95 : Int), k95 sq i3_95 = some (sZ, r0) → ∀ (H : Heap) (locs : List Loc) (ls : Array Slot), va_P D vwCl (xw_ws kdR 29 ad cs Z sq) H → va_S A s.heap H locs → lv_has ls 6 [(0, .ref (ad 0)), (1, .int (xw_i c1_5)), (3, .int (xw_i i3_95))] → W p l e (headSpec w_MD_lay ({ frames := 2, cells := 0, slots := 0, locals := 44 })).room s m [.ref (ad 0), .int (xw_i p1), .int (xw_i p2)].toArray below meth c H locs 0 0 (MQ below (va_Qi (fun r u => r = xw_i r0 ∧ u = sZ) (xw_H D vwCl A kdR 29 ad cs Z tt) A) [.ref (ad 0), .int (xw_i p1), .int (xw_i p2)].toArray s 0 0 A) (F0 m 95 ls [])) (n : Nat), ∀ (sq : xw_S) (i3_5 : Int) (i4_5 : Int), lp_MD_lay_5 fu c1_5 k95 n sq i3_5 i4_5 = some (sZ, r0) → ∀ (H : Heap) (locs : List Loc) (ls : Array Slot), va_P D vwCl (xw_ws kdR 29 ad cs Z sq) H → va_S A s.heap H locs → lv_has ls 6 [(0, .ref (ad 0)), (1, .int (xw_i c1_5)), (3, .int (xw_i i3_5)), (4, .int (xw_i i4_5))] → W p l e (headSpec w_MD_lay ({ frames := 2, cells := 0, slots := 0, locals := 44 })).room s m [.ref (ad 0), .int (xw_i p1), .int (xw_i p2)].toArray below meth c H locs 0 0 (MQ below (va_Qi (fun r u => r = xw_i r0 ∧ u = sZ) (xw_H D vwCl A kdR 29 ad cs Z tt) A) [.ref (ad 0), .int (xw_i p1), .int (xw_i p2)].toArray s 0 0 A) (F0 m 5 ls []) := by
    intro c1_5 k95 hk95 n
    induction n with
    | zero =>
      intro sq i3_5 i4_5 h
      cases (show (none : Option (xw_S × Int)) = some (sZ, r0) from h)
    | succ n ih5 =>
      intro s1 i3_5 i4_5 h H locs ls hP hS hl
      unfold lp_MD_lay_5 at h
      refine lv_iload hx hb d_MD_lay_5 (lv_at hl 3 rfl) ?_
      refine lv_aload_n hx hb d_MD_lay_7 rfl (lv_at hl 0 rfl) ?_
      refine xw_getR (C := "AdviceWeaverModel") (T := T_MD) hx hb hts hin_MD hown hK hP (by decide) kr_MD (by decide) rfl 6 (by decide) (hts _ hw_447) (fun _ h9 => h9) rfl d_MD_lay_8 ?_
      refine lv_iload_n hx hb d_MD_lay_11 rfl (lv_at hl 1 rfl) ?_
      obtain ⟨hg2, h⟩ := xw_grdI h
      refine xw_iald hx hb hK hP (by decide) kr_m_length (by decide) hg2 d_MD_lay_12 ?_
      obtain ⟨hg3, h⟩ := xw_grdI h
      refine xw_icmp_ge (tgt := 95) hx hb hg3.1 hg3.2 d_MD_lay_13 (by decide) (fun hc4 => ?_) (fun hc4 => ?_)
      · replace h := xw_ifT hc4 h
        exact hk95 s1 i3_5 h _ _ _ hP hS (lv_sub hl [0, 1, 2] rfl)
      · replace h := xw_ifF hc4 h
        refine lv_aload_n hx hb d_MD_lay_16 rfl (lv_at hl 0 rfl) ?_
        refine xw_getR (C := "AdviceWeaverModel") (T := T_MD) hx hb hts hin_MD hown hK hP (by decide) kr_MD (by decide) rfl 20 (by decide) (hts _ hw_451) (fun _ h9 => h9) rfl d_MD_lay_17 ?_
        refine lv_iload hx hb d_MD_lay_20 (lv_at hl 3 rfl) ?_
        obtain ⟨hg5, h⟩ := xw_grdI h
        refine xw_zald hx hb hK hP (by decide) kr_m_begins (by decide) hg5 d_MD_lay_22 ?_
        refine xw_jnI (fun j => ∀ (sq : xw_S) (i3_89 : Int) (i4_89 : Int), j sq i3_89 i4_89 = some (sZ, r0) → ∀ (H : Heap) (locs : List Loc) (ls : Array Slot), va_P D vwCl (xw_ws kdR 29 ad cs Z sq) H → va_S A s.heap H locs → lv_has ls 6 [(0, .ref (ad 0)), (1, .int (xw_i c1_5)), (3, .int (xw_i i3_89)), (4, .int (xw_i i4_89))] → W p l e (headSpec w_MD_lay ({ frames := 2, cells := 0, slots := 0, locals := 44 })).room s m [.ref (ad 0), .int (xw_i p1), .int (xw_i p2)].toArray below meth c H locs 0 0 (MQ below (va_Qi (fun r u => r = xw_i r0 ∧ u = sZ) (xw_H D vwCl A kdR 29 ad cs Z tt) A) [.ref (ad 0), .int (xw_i p1), .int (xw_i p2)].toArray s 0 0 A) (F0 m 89 ls [])) h ?_ ?_
        · intro s27 i3_89 i4_89 h H locs ls hP hS hl
          obtain ⟨v28, e29⟩ : ∃ z, z = i4_89 + 1 := ⟨_, rfl⟩
          replace h := xw_letI e29 h
          refine xw_iinc (lv' := [(4, .int (xw_i v28)), (0, .ref (ad 0)), (1, .int (xw_i c1_5)), (3, .int (xw_i i3_89))]) hx hb d_MD_lay_89 hl (k := 3) rfl (by decide) (by rw [e29]; rfl) (fun ls hl => ?_)
          refine lv_goto (tgt := 5) hx hb d_MD_lay_92 (by decide) ?_
          exact ih5 s27 i3_89 v28 h _ _ _ hP hS (lv_sub hl [1, 2, 3, 0] rfl)
        · intro j89 hj89 h
          obtain ⟨hg6, h⟩ := xw_grdI h
          refine xw_if_eq (tgt := 89) hx hb hg6 d_MD_lay_23 (by decide) (fun hc7 => ?_) (fun hc7 => ?_)
          · replace h := xw_ifT hc7 h
            exact hj89 s1 i3_5 i4_5 h _ _ _ hP hS (lv_sub hl [0, 1, 2, 3] rfl)
          · replace h := xw_ifF hc7 h
            refine lv_aload_n hx hb d_MD_lay_26 rfl (lv_at hl 0 rfl) ?_
            refine xw_getR (C := "AdviceWeaverModel") (T := T_MD) hx hb hts hin_MD hown hK hP (by decide) kr_MD (by decide) rfl 27 (by decide) (hts _ hw_529) (fun _ h9 => h9) rfl d_MD_lay_27 ?_
            refine lv_iload hx hb d_MD_lay_30 (lv_at hl 3 rfl) ?_
            refine lv_iload_n hx hb d_MD_lay_32 rfl (lv_at hl 2 rfl) ?_
            refine xw_iast hx hb hK hP hD hS (by decide) kr_m_lead (by decide) hg5 d_MD_lay_33 (fun s8 e9 H locs hP hS => ?_)
            replace h := xw_letI e9 h
            refine lv_aload_n hx hb d_MD_lay_34 rfl (lv_at hl 0 rfl) ?_
            refine xw_getR (C := "AdviceWeaverModel") (T := T_MD) hx hb hts hin_MD hown hK hP (by decide) kr_MD (by decide) rfl 25 (by decide) (hts _ hw_528) (fun _ h9 => h9) rfl d_MD_lay_35 ?_
            refine lv_iload hx hb d_MD_lay_38 (lv_at hl 3 rfl) ?_
            refine xw_zald hx hb hK hP (by decide) kr_m_before (by decide) hg5 d_MD_lay_40 ?_
            refine xw_jnI (fun j => ∀ (sq : xw_S) (i4_51 : Int) (t0_51 : Int), j sq i4_51 t0_51 = some (sZ, r0) → ∀ (H : Heap) (locs : List Loc) (ls : Array Slot), va_P D vwCl (xw_ws kdR 29 ad cs Z sq) H → va_S A s.heap H locs → lv_has ls 6 [(0, .ref (ad 0)), (1, .int (xw_i c1_5)), (4, .int (xw_i i4_51))] → W p l e (headSpec w_MD_lay ({ frames := 2, cells := 0, slots := 0, locals := 44 })).room s m [.ref (ad 0), .int (xw_i p1), .int (xw_i p2)].toArray below meth c H locs 0 0 (MQ below (va_Qi (fun r u => r = xw_i r0 ∧ u = sZ) (xw_H D vwCl A kdR 29 ad cs Z tt) A) [.ref (ad 0), .int (xw_i p1), .int (xw_i p2)].toArray s 0 0 A) (F0 m 51 ls [.int (xw_i t0_51)])) h ?_ ?_
            · intro s12 i4_51 t0_51 h H locs ls hP hS hl
              refine lv_istore_n hx hb d_MD_lay_51 rfl hl (by decide) rfl (fun ls hl => ?_)
              refine lv_aload_n hx hb d_MD_lay_52 rfl (lv_at hl 1 rfl) ?_
              refine xw_getR (C := "AdviceWeaverModel") (T := T_MD) hx hb hts hin_MD hown hK hP (by decide) kr_MD (by decide) rfl 28 (by decide) (hts _ hw_530) (fun _ h9 => h9) rfl d_MD_lay_53 ?_
              refine lv_iload hx hb d_MD_lay_56 (lv_at hl 3 rfl) ?_
              refine lv_iload_n hx hb d_MD_lay_58 rfl (lv_at hl 0 rfl) ?_
              obtain ⟨hg13, h⟩ := xw_grdI h
              refine xw_iast hx hb hK hP hD hS (by decide) kr_m_own (by decide) hg13 d_MD_lay_59 (fun s14 e15 H locs hP hS => ?_)
              replace h := xw_letI e15 h
              refine lv_iload_n hx hb d_MD_lay_60 rfl (lv_at hl 0 rfl) ?_
              refine lv_aload_n hx hb d_MD_lay_61 rfl (lv_at hl 1 rfl) ?_
              refine lv_iload_n hx hb d_MD_lay_62 rfl (lv_at hl 2 rfl) ?_
              refine lv_iload hx hb d_MD_lay_63 (lv_at hl 3 rfl) ?_
              obtain ⟨s16, r18, hc17, h⟩ := xw_bn2I h
              refine xw_callVi (C := "AdviceWeaverModel") (T := T_MD) ⟨hx, hb, hml, hown, hts⟩ (c_MD_op l D A ad cs Z tt fu s14 s16 c1_5 i4_51 r18 hc17) (cwV 2 hts (gd_V hw_452 hw_453 hw_454 hw_433 hw_455) rfl rfl rfl (by decide +kernel) ⟨Nat.le_of_ble_eq_true rfl, Nat.le_of_ble_eq_true rfl⟩) hP hK hD hX hS (by decide) kr_MD (by decide) rfl rfl hl.1 rfl (Nat.le_of_ble_eq_true rfl) d_MD_lay_65 (fun H locs hP hS => ?_)
              obtain ⟨s19, r21, hc20, h⟩ := xw_bn2I h
              refine xw_callSi ⟨hx, hb, hml, hown, hts⟩ (c_MD_sizeOf l D A ad cs Z tt fu s16 s19 r18 r21 hc20) (va_cwS 1 hts (gd_S hw_456 hw_457 hw_433 hw_458) rfl rfl rfl (by decide +kernel) ⟨Nat.le_of_ble_eq_true rfl, Nat.le_of_ble_eq_true rfl⟩) hP hK hD hX hS rfl hl.1 rfl (Nat.le_of_ble_eq_true rfl) d_MD_lay_68 (fun H locs hP hS => ?_)
              refine xw_iadd hx hb d_MD_lay_71 ?_
              refine lv_aload_n hx hb d_MD_lay_72 rfl (lv_at hl 1 rfl) ?_
              refine xw_getR (C := "AdviceWeaverModel") (T := T_MD) hx hb hts hin_MD hown hK hP (by decide) kr_MD (by decide) rfl 26 (by decide) (hts _ hw_531) (fun _ h9 => h9) rfl d_MD_lay_73 ?_
              refine lv_iload hx hb d_MD_lay_76 (lv_at hl 3 rfl) ?_
              refine xw_zald hx hb hK hP (by decide) kr_m_wide (by decide) hg13 d_MD_lay_78 ?_
              refine xw_jnI (fun j => ∀ (sq : xw_S) (i4_87 : Int) (t0_87 : Int) (t1_87 : Int), j sq i4_87 t0_87 t1_87 = some (sZ, r0) → ∀ (H : Heap) (locs : List Loc) (ls : Array Slot), va_P D vwCl (xw_ws kdR 29 ad cs Z sq) H → va_S A s.heap H locs → lv_has ls 6 [(0, .ref (ad 0)), (1, .int (xw_i c1_5)), (4, .int (xw_i i4_87))] → W p l e (headSpec w_MD_lay ({ frames := 2, cells := 0, slots := 0, locals := 44 })).room s m [.ref (ad 0), .int (xw_i p1), .int (xw_i p2)].toArray below meth c H locs 0 0 (MQ below (va_Qi (fun r u => r = xw_i r0 ∧ u = sZ) (xw_H D vwCl A kdR 29 ad cs Z tt) A) [.ref (ad 0), .int (xw_i p1), .int (xw_i p2)].toArray s 0 0 A) (F0 m 87 ls [.int (xw_i t0_87), .int (xw_i t1_87)])) h ?_ ?_
              · intro s24 i4_87 t0_87 t1_87 h H locs ls hP hS hl
                refine xw_iadd hx hb d_MD_lay_87 ?_
                refine xw_topi (fun v25 e26 => ?_)
                replace h := xw_letI e26 h
                refine lv_istore_n hx hb d_MD_lay_88 rfl hl (by decide) rfl (fun ls hl => ?_)
                exact hj89 s24 v25 i4_87 h _ _ _ hP hS (lv_sub hl [1, 2, 0, 3] rfl)
              · intro j87 hj87 h
                obtain ⟨hg22, h⟩ := xw_grdI h
                refine xw_if_eq (tgt := 86) hx hb hg22 d_MD_lay_79 (by decide) (fun hc23 => ?_) (fun hc23 => ?_)
                · replace h := xw_ifT hc23 h
                  refine lv_iconst (v := xw_i 0) hx hb d_MD_lay_86 rfl ?_
                  exact hj87 s19 i4_51 0 (t0_51 + r21) h _ _ _ hP hS (lv_sub hl [1, 2, 3] rfl)
                · replace h := xw_ifF hc23 h
                  refine lv_iconst (v := xw_i 1) hx hb d_MD_lay_82 rfl ?_
                  refine lv_goto (tgt := 87) hx hb d_MD_lay_83 (by decide) ?_
                  exact hj87 s19 i4_51 1 (t0_51 + r21) h _ _ _ hP hS (lv_sub hl [1, 2, 3] rfl)
            · intro j51 hj51 h
              obtain ⟨hg10, h⟩ := xw_grdI h
              refine xw_if_eq (tgt := 50) hx hb hg10 d_MD_lay_41 (by decide) (fun hc11 => ?_) (fun hc11 => ?_)
              · replace h := xw_ifT hc11 h
                refine lv_iload_n hx hb d_MD_lay_50 rfl (lv_at hl 2 rfl) ?_
                exact hj51 s8 i4_5 i3_5 h _ _ _ hP hS (lv_sub hl [0, 1, 3] rfl)
              · replace h := xw_ifF hc11 h
                refine lv_iload_n hx hb d_MD_lay_44 rfl (lv_at hl 2 rfl) ?_
                refine lv_iconst (v := xw_i 2) hx hb d_MD_lay_45 rfl ?_
                refine xw_iadd hx hb d_MD_lay_46 ?_
                refine lv_goto (tgt := 51) hx hb d_MD_lay_47 (by decide) ?_
                exact hj51 s8 i4_5 (i3_5 + 2) h _ _ _ hP hS (lv_sub hl [0, 1, 3] rfl)
  have hlp113 : ∀ (c1_113 : Int) (k216 : xw_S → Int → Option (xw_S × Int)) (hk216 : ∀ (sq : xw_S) (i4_216 : Int), k216 sq i4_216 = some (sZ, r0) → ∀ (H : Heap) (locs : List Loc) (ls : Array Slot), va_P D vwCl (xw_ws kdR 29 ad cs Z sq) H → va_S A s.heap H locs → lv_has ls 6 [(4, .int (xw_i i4_216))] → W p l e (headSpec w_MD_lay ({ frames := 2, cells := 0, slots := 0, locals := 44 })).room s m [.ref (ad 0), .int (xw_i p1), .int (xw_i p2)].toArray below meth c H locs 0 0 (MQ below (va_Qi (fun r u => r = xw_i r0 ∧ u = sZ) (xw_H D vwCl A kdR 29 ad cs Z tt) A) [.ref (ad 0), .int (xw_i p1), .int (xw_i p2)].toArray s 0 0 A) (F0 m 216 ls [])) (n : Nat), ∀ (sq : xw_S) (i4_113 : Int) (i5_113 : Int), lp_MD_lay_113 fu c1_113 k216 n sq i4_113 i5_113 = some (sZ, r0) → ∀ (H : Heap) (locs : List Loc) (ls : Array Slot), va_P D vwCl (xw_ws kdR 29 ad cs Z sq) H → va_S A s.heap H locs → lv_has ls 6 [(0, .ref (ad 0)), (1, .int (xw_i c1_113)), (4, .int (xw_i i4_113)), (5, .int (xw_i i5_113))] → W p l e (headSpec w_MD_lay ({ frames := 2, cells := 0, slots := 0, locals := 44 })).room s m [.ref (ad 0), .int (xw_i p1), .int (xw_i p2)].toArray below meth c H locs 0 0 (MQ below (va_Qi (fun r u => r = xw_i r0 ∧ u = sZ) (xw_H D vwCl A kdR 29 ad cs Z tt) A) [.ref (ad 0), .int (xw_i p1), .int (xw_i p2)].toArray s 0 0 A) (F0 m 113 ls []) := by
    intro c1_113 k216 hk216 n
    induction n with
    | zero =>
      intro sq i4_113 i5_113 h
      cases (show (none : Option (xw_S × Int)) = some (sZ, r0) from h)
    | succ n ih113 =>
      intro s35 i4_113 i5_113 h H locs ls hP hS hl
      unfold lp_MD_lay_113 at h
      refine lv_iload hx hb d_MD_lay_113 (lv_at hl 3 rfl) ?_
      refine lv_aload_n hx hb d_MD_lay_115 rfl (lv_at hl 0 rfl) ?_
      refine xw_getR (C := "AdviceWeaverModel") (T := T_MD) hx hb hts hin_MD hown hK hP (by decide) kr_MD (by decide) rfl 6 (by decide) (hts _ hw_447) (fun _ h9 => h9) rfl d_MD_lay_116 ?_
      refine lv_iload_n hx hb d_MD_lay_119 rfl (lv_at hl 1 rfl) ?_
      obtain ⟨hg36, h⟩ := xw_grdI h
      refine xw_iald hx hb hK hP (by decide) kr_m_length (by decide) hg36 d_MD_lay_120 ?_
      obtain ⟨hg37, h⟩ := xw_grdI h
      refine xw_icmp_ge (tgt := 216) hx hb hg37.1 hg37.2 d_MD_lay_121 (by decide) (fun hc38 => ?_) (fun hc38 => ?_)
      · replace h := xw_ifT hc38 h
        exact hk216 s35 i4_113 h _ _ _ hP hS (lv_sub hl [2] rfl)
      · replace h := xw_ifF hc38 h
        refine lv_aload_n hx hb d_MD_lay_124 rfl (lv_at hl 0 rfl) ?_
        refine xw_getR (C := "AdviceWeaverModel") (T := T_MD) hx hb hts hin_MD hown hK hP (by decide) kr_MD (by decide) rfl 20 (by decide) (hts _ hw_451) (fun _ h9 => h9) rfl d_MD_lay_125 ?_
        refine lv_iload hx hb d_MD_lay_128 (lv_at hl 3 rfl) ?_
        obtain ⟨hg39, h⟩ := xw_grdI h
        refine xw_zald hx hb hK hP (by decide) kr_m_begins (by decide) hg39 d_MD_lay_130 ?_
        refine xw_jnI (fun j => ∀ (sq : xw_S) (i4_210 : Int) (i5_210 : Int), j sq i4_210 i5_210 = some (sZ, r0) → ∀ (H : Heap) (locs : List Loc) (ls : Array Slot), va_P D vwCl (xw_ws kdR 29 ad cs Z sq) H → va_S A s.heap H locs → lv_has ls 6 [(0, .ref (ad 0)), (1, .int (xw_i c1_113)), (4, .int (xw_i i4_210)), (5, .int (xw_i i5_210))] → W p l e (headSpec w_MD_lay ({ frames := 2, cells := 0, slots := 0, locals := 44 })).room s m [.ref (ad 0), .int (xw_i p1), .int (xw_i p2)].toArray below meth c H locs 0 0 (MQ below (va_Qi (fun r u => r = xw_i r0 ∧ u = sZ) (xw_H D vwCl A kdR 29 ad cs Z tt) A) [.ref (ad 0), .int (xw_i p1), .int (xw_i p2)].toArray s 0 0 A) (F0 m 210 ls [])) h ?_ ?_
        · intro s68 i4_210 i5_210 h H locs ls hP hS hl
          obtain ⟨v69, e70⟩ : ∃ z, z = i5_210 + 1 := ⟨_, rfl⟩
          replace h := xw_letI e70 h
          refine xw_iinc (lv' := [(5, .int (xw_i v69)), (0, .ref (ad 0)), (1, .int (xw_i c1_113)), (4, .int (xw_i i4_210))]) hx hb d_MD_lay_210 hl (k := 3) rfl (by decide) (by rw [e70]; rfl) (fun ls hl => ?_)
          refine lv_goto (tgt := 113) hx hb d_MD_lay_213 (by decide) ?_
          exact ih113 s68 i4_210 v69 h _ _ _ hP hS (lv_sub hl [1, 2, 3, 0] rfl)
        · intro j210 hj210 h
          obtain ⟨hg40, h⟩ := xw_grdI h
          refine xw_if_eq (tgt := 210) hx hb hg40 d_MD_lay_131 (by decide) (fun hc41 => ?_) (fun hc41 => ?_)
          · replace h := xw_ifT hc41 h
            exact hj210 s35 i4_113 i5_113 h _ _ _ hP hS (lv_sub hl [0, 1, 2, 3] rfl)
          · replace h := xw_ifF hc41 h
            refine lv_aload_n hx hb d_MD_lay_134 rfl (lv_at hl 0 rfl) ?_
            refine xw_getR (C := "AdviceWeaverModel") (T := T_MD) hx hb hts hin_MD hown hK hP (by decide) kr_MD (by decide) rfl 26 (by decide) (hts _ hw_531) (fun _ h9 => h9) rfl d_MD_lay_135 ?_
            refine lv_iload hx hb d_MD_lay_138 (lv_at hl 3 rfl) ?_
            refine xw_zald hx hb hK hP (by decide) kr_m_wide (by decide) hg39 d_MD_lay_140 ?_
            obtain ⟨hg42, h⟩ := xw_grdI h
            refine xw_if_ne (tgt := 210) hx hb hg42 d_MD_lay_141 (by decide) (fun hc43 => ?_) (fun hc43 => ?_)
            · replace h := xw_ifF hc43 h
              exact hj210 s35 i4_113 i5_113 h _ _ _ hP hS (lv_sub hl [0, 1, 2, 3] rfl)
            · replace h := xw_ifT hc43 h
              refine lv_aload_n hx hb d_MD_lay_144 rfl (lv_at hl 0 rfl) ?_
              refine lv_iload_n hx hb d_MD_lay_145 rfl (lv_at hl 1 rfl) ?_
              refine lv_iload hx hb d_MD_lay_146 (lv_at hl 3 rfl) ?_
              obtain ⟨s44, r46, hc45, h⟩ := xw_bn2I h
              refine xw_callVi (C := "AdviceWeaverModel") (T := T_MD) ⟨hx, hb, hml, hown, hts⟩ (c_MD_op l D A ad cs Z tt fu s35 s44 c1_113 i5_113 r46 hc45) (cwV 2 hts (gd_V hw_452 hw_453 hw_454 hw_433 hw_455) rfl rfl rfl (by decide +kernel) ⟨Nat.le_of_ble_eq_true rfl, Nat.le_of_ble_eq_true rfl⟩) hP hK hD hX hS (by decide) kr_MD (by decide) rfl rfl hl.1 rfl (Nat.le_of_ble_eq_true rfl) d_MD_lay_148 (fun H locs hP hS => ?_)
              obtain ⟨s47, r49, hc48, h⟩ := xw_bn2I h
              refine xw_callSi ⟨hx, hb, hml, hown, hts⟩ (c_MD_branches l D A ad cs Z tt fu s44 s47 r46 r49 hc48) (va_cwS 1 hts (gd_S hw_467 hw_468 hw_433 hw_469) rfl rfl rfl (by decide +kernel) ⟨Nat.le_of_ble_eq_true rfl, Nat.le_of_ble_eq_true rfl⟩) hP hK hD hX hS rfl hl.1 rfl (Nat.le_of_ble_eq_true rfl) d_MD_lay_151 (fun H locs hP hS => ?_)
              obtain ⟨hg50, h⟩ := xw_grdI h
              refine xw_if_eq (tgt := 210) hx hb hg50 d_MD_lay_154 (by decide) (fun hc51 => ?_) (fun hc51 => ?_)
              · replace h := xw_ifT hc51 h
                exact hj210 s47 i4_113 i5_113 h _ _ _ hP hS (lv_sub hl [0, 1, 2, 3] rfl)
              · replace h := xw_ifF hc51 h
                refine lv_aload_n hx hb d_MD_lay_157 rfl (lv_at hl 0 rfl) ?_
                refine lv_iload_n hx hb d_MD_lay_158 rfl (lv_at hl 1 rfl) ?_
                refine lv_iload hx hb d_MD_lay_159 (lv_at hl 3 rfl) ?_
                obtain ⟨s52, r54, hc53, h⟩ := xw_bn2I h
                refine xw_callVi (C := "AdviceWeaverModel") (T := T_MD) ⟨hx, hb, hml, hown, hts⟩ (c_MD_op l D A ad cs Z tt fu s47 s52 c1_113 i5_113 r54 hc53) (cwV 2 hts (gd_V hw_452 hw_453 hw_454 hw_433 hw_455) rfl rfl rfl (by decide +kernel) ⟨Nat.le_of_ble_eq_true rfl, Nat.le_of_ble_eq_true rfl⟩) hP hK hD hX hS (by decide) kr_MD (by decide) rfl rfl hl.1 rfl (Nat.le_of_ble_eq_true rfl) d_MD_lay_161 (fun H locs hP hS => ?_)
                refine lv_bipush (v := xw_i 20) hx hb d_MD_lay_164 (by decide) ?_
                obtain ⟨hg55, h⟩ := xw_grdI h
                refine xw_icmp_ge (tgt := 210) hx hb hg55 (by decide) d_MD_lay_166 (by decide) (fun hc56 => ?_) (fun hc56 => ?_)
                · replace h := xw_ifT hc56 h
                  exact hj210 s52 i4_113 i5_113 h _ _ _ hP hS (lv_sub hl [0, 1, 2, 3] rfl)
                · replace h := xw_ifF hc56 h
                  refine lv_aload_n hx hb d_MD_lay_169 rfl (lv_at hl 0 rfl) ?_
                  refine xw_getR (C := "AdviceWeaverModel") (T := T_MD) hx hb hts hin_MD hown hK hP (by decide) kr_MD (by decide) rfl 27 (by decide) (hts _ hw_529) (fun _ h9 => h9) rfl d_MD_lay_170 ?_
                  refine lv_aload_n hx hb d_MD_lay_173 rfl (lv_at hl 0 rfl) ?_
                  refine lv_iload_n hx hb d_MD_lay_174 rfl (lv_at hl 1 rfl) ?_
                  refine lv_iload hx hb d_MD_lay_175 (lv_at hl 3 rfl) ?_
                  obtain ⟨s57, r59, hc58, h⟩ := xw_bn2I h
                  refine xw_callVi (C := "AdviceWeaverModel") (T := T_MD) ⟨hx, hb, hml, hown, hts⟩ (c_MD_target l D A ad cs Z tt fu s52 s57 c1_113 i5_113 r59 hc58) (cwV 2 hts (gd_V hw_470 hw_471 hw_472 hw_433 hw_473) rfl rfl rfl (by decide +kernel) ⟨Nat.le_of_ble_eq_true rfl, Nat.le_of_ble_eq_true rfl⟩) hP hK hD hX hS (by decide) kr_MD (by decide) rfl rfl hl.1 rfl (Nat.le_of_ble_eq_true rfl) d_MD_lay_177 (fun H locs hP hS => ?_)
                  obtain ⟨hg60, h⟩ := xw_grdI h
                  refine xw_iald hx hb hK hP (by decide) kr_m_lead (by decide) hg60 d_MD_lay_180 ?_
                  refine lv_aload_n hx hb d_MD_lay_181 rfl (lv_at hl 0 rfl) ?_
                  refine xw_getR (C := "AdviceWeaverModel") (T := T_MD) hx hb hts hin_MD hown hK hP (by decide) kr_MD (by decide) rfl 28 (by decide) (hts _ hw_530) (fun _ h9 => h9) rfl d_MD_lay_182 ?_
                  refine lv_iload hx hb d_MD_lay_185 (lv_at hl 3 rfl) ?_
                  refine xw_iald hx hb hK hP (by decide) kr_m_own (by decide) hg39 d_MD_lay_187 ?_
                  refine xw_isub hx hb d_MD_lay_188 ?_
                  refine lv_bipush (v := xw_i (-24)) hx hb d_MD_lay_189 (by decide) ?_
                  refine lv_bipush (v := xw_i 24) hx hb d_MD_lay_191 (by decide) ?_
                  obtain ⟨s61, r63, hc62, h⟩ := xw_bn2I h
                  refine xw_callSi ⟨hx, hb, hml, hown, hts⟩ (c_MD_outside l D A ad cs Z tt fu s57 s61 ((s57.1 19 (r59).toNat) - (s57.1 20 (i5_113).toNat)) (-24) 24 r63 hc62) (va_cwS 3 hts (gd_S hw_431 hw_432 hw_433 hw_434) rfl rfl rfl (by decide +kernel) ⟨Nat.le_of_ble_eq_true rfl, Nat.le_of_ble_eq_true rfl⟩) hP hK hD hX hS rfl hl.1 rfl (Nat.le_of_ble_eq_true rfl) d_MD_lay_193 (fun H locs hP hS => ?_)
                  obtain ⟨hg64, h⟩ := xw_grdI h
                  refine xw_if_eq (tgt := 210) hx hb hg64 d_MD_lay_196 (by decide) (fun hc65 => ?_) (fun hc65 => ?_)
                  · replace h := xw_ifT hc65 h
                    exact hj210 s61 i4_113 i5_113 h _ _ _ hP hS (lv_sub hl [0, 1, 2, 3] rfl)
                  · replace h := xw_ifF hc65 h
                    refine lv_aload_n hx hb d_MD_lay_199 rfl (lv_at hl 0 rfl) ?_
                    refine xw_getR (C := "AdviceWeaverModel") (T := T_MD) hx hb hts hin_MD hown hK hP (by decide) kr_MD (by decide) rfl 26 (by decide) (hts _ hw_531) (fun _ h9 => h9) rfl d_MD_lay_200 ?_
                    refine lv_iload hx hb d_MD_lay_203 (lv_at hl 3 rfl) ?_
                    refine lv_iconst (v := xw_i 1) hx hb d_MD_lay_205 rfl ?_
                    refine xw_zast hx hb hK hP hD hS (by decide) kr_m_wide (by decide) hg39 (by decide) d_MD_lay_206 (fun s66 e67 H locs hP hS => ?_)
                    replace h := xw_letI e67 h
                    refine lv_iconst (v := xw_i 1) hx hb d_MD_lay_207 rfl ?_
                    refine lv_istore hx hb d_MD_lay_208 hl (by decide) rfl (fun ls hl => ?_)
                    exact hj210 s66 1 i5_113 h _ _ _ hP hS (lv_sub hl [1, 2, 0, 3] rfl)
  unfold f_MD_lay at h
  refine lv_iload_n hx hb d_MD_lay_0 rfl (lv_at hl 2 rfl) ?_
  refine lv_istore_n hx hb d_MD_lay_1 rfl hl (by decide) rfl (fun ls hl => ?_)
  refine lv_iconst (v := xw_i 0) hx hb d_MD_lay_2 rfl ?_
  refine lv_istore hx hb d_MD_lay_3 hl (by decide) rfl (fun ls hl => ?_)
  refine xw_jnI (fun j => ∀ (sq : xw_S) (i3_95 : Int), j sq i3_95 = some (sZ, r0) → ∀ (H : Heap) (locs : List Loc) (ls : Array Slot), va_P D vwCl (xw_ws kdR 29 ad cs Z sq) H → va_S A s.heap H locs → lv_has ls 6 [(0, .ref (ad 0)), (1, .int (xw_i p1)), (3, .int (xw_i i3_95))] → W p l e (headSpec w_MD_lay ({ frames := 2, cells := 0, slots := 0, locals := 44 })).room s m [.ref (ad 0), .int (xw_i p1), .int (xw_i p2)].toArray below meth c H locs 0 0 (MQ below (va_Qi (fun r u => r = xw_i r0 ∧ u = sZ) (xw_H D vwCl A kdR 29 ad cs Z tt) A) [.ref (ad 0), .int (xw_i p1), .int (xw_i p2)].toArray s 0 0 A) (F0 m 95 ls [])) h ?_ ?_
  · intro s30 i3_95 h H locs ls hP hS hl
    refine lv_aload_n hx hb d_MD_lay_95 rfl (lv_at hl 0 rfl) ?_
    refine xw_getR (C := "AdviceWeaverModel") (T := T_MD) hx hb hts hin_MD hown hK hP (by decide) kr_MD (by decide) rfl 27 (by decide) (hts _ hw_529) (fun _ h9 => h9) rfl d_MD_lay_96 ?_
    refine lv_aload_n hx hb d_MD_lay_99 rfl (lv_at hl 0 rfl) ?_
    refine xw_getR (C := "AdviceWeaverModel") (T := T_MD) hx hb hts hin_MD hown hK hP (by decide) kr_MD (by decide) rfl 6 (by decide) (hts _ hw_447) (fun _ h9 => h9) rfl d_MD_lay_100 ?_
    refine lv_iload_n hx hb d_MD_lay_103 rfl (lv_at hl 1 rfl) ?_
    obtain ⟨hg31, h⟩ := xw_grdI h
    refine xw_iald hx hb hK hP (by decide) kr_m_length (by decide) hg31 d_MD_lay_104 ?_
    refine lv_iload_n hx hb d_MD_lay_105 rfl (lv_at hl 2 rfl) ?_
    obtain ⟨hg32, h⟩ := xw_grdI h
    refine xw_iast hx hb hK hP hD hS (by decide) kr_m_lead (by decide) hg32 d_MD_lay_106 (fun s33 e34 H locs hP hS => ?_)
    replace h := xw_letI e34 h
    refine lv_iconst (v := xw_i 0) hx hb d_MD_lay_107 rfl ?_
    refine lv_istore hx hb d_MD_lay_108 hl (by decide) rfl (fun ls hl => ?_)
    refine lv_iconst (v := xw_i 0) hx hb d_MD_lay_110 rfl ?_
    refine lv_istore hx hb d_MD_lay_111 hl (by decide) rfl (fun ls hl => ?_)
    refine xw_jnI (fun j => ∀ (sq : xw_S) (i4_216 : Int), j sq i4_216 = some (sZ, r0) → ∀ (H : Heap) (locs : List Loc) (ls : Array Slot), va_P D vwCl (xw_ws kdR 29 ad cs Z sq) H → va_S A s.heap H locs → lv_has ls 6 [(4, .int (xw_i i4_216))] → W p l e (headSpec w_MD_lay ({ frames := 2, cells := 0, slots := 0, locals := 44 })).room s m [.ref (ad 0), .int (xw_i p1), .int (xw_i p2)].toArray below meth c H locs 0 0 (MQ below (va_Qi (fun r u => r = xw_i r0 ∧ u = sZ) (xw_H D vwCl A kdR 29 ad cs Z tt) A) [.ref (ad 0), .int (xw_i p1), .int (xw_i p2)].toArray s 0 0 A) (F0 m 216 ls [])) h ?_ ?_
    · intro s71 i4_216 h H locs ls hP hS hl
      refine lv_iload hx hb d_MD_lay_216 (lv_at hl 0 rfl) ?_
      obtain ⟨hg72, h⟩ := xw_grdI h
      exact xw_zretE hx hb hr hlk hP hK hD hX hS h hg72 d_MD_lay_218
    · intro k216 hk216 h
      exact hlp113 p1 k216 hk216 fu s33 0 0 h _ _ _ hP hS (lv_sub hl [2, 3, 1, 0] rfl)
  · intro k95 hk95 h
    exact hlp5 p1 k95 hk95 fu s0 p2 0 h _ _ _ hP hS (lv_sub hl [2, 3, 1, 0] rfl)
