/-! the reference, piece 0 -/
theorem d_MD_outside_0 : decode b_MD_outside 0 = .ok (.iload_n 0, 1) := by decide +kernel
theorem d_MD_outside_1 : decode b_MD_outside 1 = .ok (.iload_n 1, 1) := by decide +kernel
theorem d_MD_outside_2 : decode b_MD_outside 2 = .ok (.if_icmp .lt 8, 3) := by decide +kernel
theorem d_MD_outside_5 : decode b_MD_outside 5 = .ok (.iload_n 0, 1) := by decide +kernel
theorem d_MD_outside_6 : decode b_MD_outside 6 = .ok (.iload_n 2, 1) := by decide +kernel
theorem d_MD_outside_7 : decode b_MD_outside 7 = .ok (.if_icmp .le 7, 3) := by decide +kernel
theorem d_MD_outside_10 : decode b_MD_outside 10 = .ok (.iconst 1, 1) := by decide +kernel
theorem d_MD_outside_11 : decode b_MD_outside 11 = .ok (.goto 4, 3) := by decide +kernel
theorem d_MD_outside_14 : decode b_MD_outside 14 = .ok (.iconst 0, 1) := by decide +kernel
theorem d_MD_outside_15 : decode b_MD_outside 15 = .ok (.ireturn, 1) := by decide +kernel
theorem d_MD_put_0 : decode b_MD_put 0 = .ok (.iload_n 2, 1) := by decide +kernel
theorem d_MD_put_1 : decode b_MD_put 1 = .ok (.iconst 1, 1) := by decide +kernel
theorem d_MD_put_2 : decode b_MD_put 2 = .ok (.iconst 4, 1) := by decide +kernel
theorem d_MD_put_3 : decode b_MD_put 3 = .ok (.invokestatic 96, 3) := by decide +kernel
theorem d_MD_put_6 : decode b_MD_put 6 = .ok (.ifCond .ne 15, 3) := by decide +kernel
theorem d_MD_put_9 : decode b_MD_put 9 = .ok (.aload_n 0, 1) := by decide +kernel
theorem d_MD_put_10 : decode b_MD_put 10 = .ok (.getfield 100, 3) := by decide +kernel
theorem d_MD_put_13 : decode b_MD_put 13 = .ok (.iload_n 2, 1) := by decide +kernel
theorem d_MD_put_14 : decode b_MD_put 14 = .ok (.iadd, 1) := by decide +kernel
theorem d_MD_put_15 : decode b_MD_put 15 = .ok (.sipush 240, 3) := by decide +kernel
theorem d_MD_put_18 : decode b_MD_put 18 = .ok (.if_icmp .le 5, 3) := by decide +kernel
theorem d_MD_put_21 : decode b_MD_put 21 = .ok (.iconst 0, 1) := by decide +kernel
theorem d_MD_put_22 : decode b_MD_put 22 = .ok (.ireturn, 1) := by decide +kernel
theorem d_MD_put_23 : decode b_MD_put 23 = .ok (.iload_n 2, 1) := by decide +kernel
theorem d_MD_put_24 : decode b_MD_put 24 = .ok (.iconst 1, 1) := by decide +kernel
theorem d_MD_put_25 : decode b_MD_put 25 = .ok (.isub, 1) := by decide +kernel
theorem d_MD_put_26 : decode b_MD_put 26 = .ok (.istore_n 3, 1) := by decide +kernel
theorem d_MD_put_27 : decode b_MD_put 27 = .ok (.iload_n 3, 1) := by decide +kernel
theorem d_MD_put_28 : decode b_MD_put 28 = .ok (.ifCond .lt 38, 3) := by decide +kernel
theorem d_MD_put_31 : decode b_MD_put 31 = .ok (.aload_n 0, 1) := by decide +kernel
theorem d_MD_put_32 : decode b_MD_put 32 = .ok (.getfield 7, 3) := by decide +kernel
theorem d_MD_put_35 : decode b_MD_put 35 = .ok (.aload_n 0, 1) := by decide +kernel
theorem d_MD_put_36 : decode b_MD_put 36 = .ok (.getfield 100, 3) := by decide +kernel
theorem d_MD_put_39 : decode b_MD_put 39 = .ok (.iload_n 1, 1) := by decide +kernel
theorem d_MD_put_40 : decode b_MD_put 40 = .ok (.bipush 8, 2) := by decide +kernel
theorem d_MD_put_42 : decode b_MD_put 42 = .ok (.iload_n 3, 1) := by decide +kernel
theorem d_MD_put_43 : decode b_MD_put 43 = .ok (.imul, 1) := by decide +kernel
theorem d_MD_put_44 : decode b_MD_put 44 = .ok (.ishr, 1) := by decide +kernel
theorem d_MD_put_45 : decode b_MD_put 45 = .ok (.sipush 255, 3) := by decide +kernel
theorem d_MD_put_48 : decode b_MD_put 48 = .ok (.iand, 1) := by decide +kernel
theorem d_MD_put_49 : decode b_MD_put 49 = .ok (.iastore, 1) := by decide +kernel
theorem d_MD_put_50 : decode b_MD_put 50 = .ok (.aload_n 0, 1) := by decide +kernel
theorem d_MD_put_51 : decode b_MD_put 51 = .ok (.dup, 1) := by decide +kernel
theorem d_MD_put_52 : decode b_MD_put 52 = .ok (.getfield 100, 3) := by decide +kernel
theorem d_MD_put_55 : decode b_MD_put 55 = .ok (.iconst 1, 1) := by decide +kernel
theorem d_MD_put_56 : decode b_MD_put 56 = .ok (.iadd, 1) := by decide +kernel
theorem d_MD_put_57 : decode b_MD_put 57 = .ok (.putfield 100, 3) := by decide +kernel
theorem d_MD_put_60 : decode b_MD_put 60 = .ok (.iinc 3 (-1), 3) := by decide +kernel
theorem d_MD_put_63 : decode b_MD_put 63 = .ok (.goto (-36), 3) := by decide +kernel
theorem d_MD_put_66 : decode b_MD_put 66 = .ok (.iconst 1, 1) := by decide +kernel
theorem d_MD_put_67 : decode b_MD_put 67 = .ok (.ireturn, 1) := by decide +kernel
theorem d_MD_clear_0 : decode b_MD_clear 0 = .ok (.aload_n 0, 1) := by decide +kernel
theorem d_MD_clear_1 : decode b_MD_clear 1 = .ok (.iconst 0, 1) := by decide +kernel
theorem d_MD_clear_2 : decode b_MD_clear 2 = .ok (.putfield 100, 3) := by decide +kernel
theorem d_MD_clear_5 : decode b_MD_clear 5 = .ok (.return_, 1) := by decide +kernel
theorem d_MD_next_0 : decode b_MD_next 0 = .ok (.aload_n 0, 1) := by decide +kernel
theorem d_MD_next_1 : decode b_MD_next 1 = .ok (.getfield 160, 3) := by decide +kernel
theorem d_MD_next_4 : decode b_MD_next 4 = .ok (.aload_n 0, 1) := by decide +kernel
theorem d_MD_next_5 : decode b_MD_next 5 = .ok (.getfield 100, 3) := by decide +kernel
theorem d_MD_next_8 : decode b_MD_next 8 = .ok (.if_icmp .ge 15, 3) := by decide +kernel
theorem d_MD_next_11 : decode b_MD_next 11 = .ok (.aload_n 0, 1) := by decide +kernel
theorem d_MD_next_12 : decode b_MD_next 12 = .ok (.getfield 7, 3) := by decide +kernel
theorem d_MD_next_15 : decode b_MD_next 15 = .ok (.aload_n 0, 1) := by decide +kernel
theorem d_MD_next_16 : decode b_MD_next 16 = .ok (.getfield 160, 3) := by decide +kernel
theorem d_MD_next_19 : decode b_MD_next 19 = .ok (.iaload, 1) := by decide +kernel
theorem d_MD_next_20 : decode b_MD_next 20 = .ok (.goto 4, 3) := by decide +kernel
theorem d_MD_next_23 : decode b_MD_next 23 = .ok (.iconst (-1), 1) := by decide +kernel
theorem d_MD_next_24 : decode b_MD_next 24 = .ok (.istore_n 3, 1) := by decide +kernel
theorem d_MD_next_25 : decode b_MD_next 25 = .ok (.aload_n 0, 1) := by decide +kernel
theorem d_MD_next_26 : decode b_MD_next 26 = .ok (.getfield 163, 3) := by decide +kernel
theorem d_MD_next_29 : decode b_MD_next 29 = .ok (.ifCond .ge 20, 3) := by decide +kernel
theorem d_MD_next_32 : decode b_MD_next 32 = .ok (.iload_n 3, 1) := by decide +kernel
theorem d_MD_next_33 : decode b_MD_next 33 = .ok (.iload_n 1, 1) := by decide +kernel
theorem d_MD_next_34 : decode b_MD_next 34 = .ok (.iload_n 2, 1) := by decide +kernel
theorem d_MD_next_35 : decode b_MD_next 35 = .ok (.invokestatic 96, 3) := by decide +kernel
theorem d_MD_next_38 : decode b_MD_next 38 = .ok (.ifCond .eq 11, 3) := by decide +kernel
theorem d_MD_next_41 : decode b_MD_next 41 = .ok (.aload_n 0, 1) := by decide +kernel
theorem d_MD_next_42 : decode b_MD_next 42 = .ok (.aload_n 0, 1) := by decide +kernel
theorem d_MD_next_43 : decode b_MD_next 43 = .ok (.getfield 160, 3) := by decide +kernel
theorem d_MD_next_46 : decode b_MD_next 46 = .ok (.putfield 163, 3) := by decide +kernel
theorem d_MD_next_49 : decode b_MD_next 49 = .ok (.aload_n 0, 1) := by decide +kernel
theorem d_MD_next_50 : decode b_MD_next 50 = .ok (.dup, 1) := by decide +kernel
theorem d_MD_next_51 : decode b_MD_next 51 = .ok (.getfield 160, 3) := by decide +kernel
theorem d_MD_next_54 : decode b_MD_next 54 = .ok (.iconst 1, 1) := by decide +kernel
theorem d_MD_next_55 : decode b_MD_next 55 = .ok (.iadd, 1) := by decide +kernel
theorem d_MD_next_56 : decode b_MD_next 56 = .ok (.putfield 160, 3) := by decide +kernel
theorem d_MD_next_59 : decode b_MD_next 59 = .ok (.iload_n 3, 1) := by decide +kernel
theorem d_MD_next_60 : decode b_MD_next 60 = .ok (.ireturn, 1) := by decide +kernel
theorem d_MD_readMethod_0 : decode b_MD_readMethod 0 = .ok (.aload_n 0, 1) := by decide +kernel
theorem d_MD_readMethod_1 : decode b_MD_readMethod 1 = .ok (.getfield 13, 3) := by decide +kernel
theorem d_MD_readMethod_4 : decode b_MD_readMethod 4 = .ok (.iload_n 1, 1) := by decide +kernel
theorem d_MD_readMethod_5 : decode b_MD_readMethod 5 = .ok (.aload_n 0, 1) := by decide +kernel
theorem d_MD_readMethod_6 : decode b_MD_readMethod 6 = .ok (.bipush 97, 2) := by decide +kernel
theorem d_MD_readMethod_8 : decode b_MD_readMethod 8 = .ok (.bipush 122, 2) := by decide +kernel
theorem d_MD_readMethod_10 : decode b_MD_readMethod 10 = .ok (.invokevirtual 166, 3) := by decide +kernel
theorem d_MD_readMethod_13 : decode b_MD_readMethod 13 = .ok (.iastore, 1) := by decide +kernel
theorem d_MD_readMethod_14 : decode b_MD_readMethod 14 = .ok (.bipush 8, 2) := by decide +kernel
theorem d_MD_readMethod_16 : decode b_MD_readMethod 16 = .ok (.istore_n 2, 1) := by decide +kernel
theorem d_MD_readMethod_17 : decode b_MD_readMethod 17 = .ok (.iload_n 2, 1) := by decide +kernel
theorem d_MD_readMethod_18 : decode b_MD_readMethod 18 = .ok (.iload_n 1, 1) := by decide +kernel
theorem d_MD_readMethod_19 : decode b_MD_readMethod 19 = .ok (.if_icmp .ge 41, 3) := by decide +kernel
theorem d_MD_readMethod_22 : decode b_MD_readMethod 22 = .ok (.aload_n 0, 1) := by decide +kernel
theorem d_MD_readMethod_23 : decode b_MD_readMethod 23 = .ok (.getfield 163, 3) := by decide +kernel
theorem d_MD_readMethod_26 : decode b_MD_readMethod 26 = .ok (.ifCond .ge 28, 3) := by decide +kernel
theorem d_MD_readMethod_29 : decode b_MD_readMethod 29 = .ok (.aload_n 0, 1) := by decide +kernel
theorem d_MD_readMethod_30 : decode b_MD_readMethod 30 = .ok (.getfield 13, 3) := by decide +kernel
theorem d_MD_readMethod_33 : decode b_MD_readMethod 33 = .ok (.iload_n 2, 1) := by decide +kernel
theorem d_MD_readMethod_34 : decode b_MD_readMethod 34 = .ok (.iaload, 1) := by decide +kernel
theorem d_MD_readMethod_35 : decode b_MD_readMethod 35 = .ok (.aload_n 0, 1) := by decide +kernel
theorem d_MD_readMethod_36 : decode b_MD_readMethod 36 = .ok (.getfield 13, 3) := by decide +kernel
theorem d_MD_readMethod_39 : decode b_MD_readMethod 39 = .ok (.iload_n 1, 1) := by decide +kernel
theorem d_MD_readMethod_40 : decode b_MD_readMethod 40 = .ok (.iaload, 1) := by decide +kernel
theorem d_MD_readMethod_41 : decode b_MD_readMethod 41 = .ok (.if_icmp .ne 13, 3) := by decide +kernel
theorem d_MD_readMethod_44 : decode b_MD_readMethod 44 = .ok (.aload_n 0, 1) := by decide +kernel
theorem d_MD_readMethod_45 : decode b_MD_readMethod 45 = .ok (.aload_n 0, 1) := by decide +kernel
theorem d_MD_readMethod_46 : decode b_MD_readMethod 46 = .ok (.getfield 160, 3) := by decide +kernel
theorem d_MD_readMethod_49 : decode b_MD_readMethod 49 = .ok (.iconst 1, 1) := by decide +kernel
theorem d_MD_readMethod_50 : decode b_MD_readMethod 50 = .ok (.isub, 1) := by decide +kernel
theorem d_MD_readMethod_51 : decode b_MD_readMethod 51 = .ok (.putfield 163, 3) := by decide +kernel
theorem d_MD_readMethod_54 : decode b_MD_readMethod 54 = .ok (.iinc 2 1, 3) := by decide +kernel
theorem d_MD_readMethod_57 : decode b_MD_readMethod 57 = .ok (.goto (-40), 3) := by decide +kernel
theorem d_MD_readMethod_60 : decode b_MD_readMethod 60 = .ok (.aload_n 0, 1) := by decide +kernel
theorem d_MD_readMethod_61 : decode b_MD_readMethod 61 = .ok (.getfield 16, 3) := by decide +kernel
theorem d_MD_readMethod_64 : decode b_MD_readMethod 64 = .ok (.iload_n 1, 1) := by decide +kernel
theorem d_MD_readMethod_65 : decode b_MD_readMethod 65 = .ok (.aload_n 0, 1) := by decide +kernel
theorem d_MD_readMethod_66 : decode b_MD_readMethod 66 = .ok (.iconst 0, 1) := by decide +kernel
theorem d_MD_readMethod_67 : decode b_MD_readMethod 67 = .ok (.iconst 2, 1) := by decide +kernel
theorem d_MD_readMethod_68 : decode b_MD_readMethod 68 = .ok (.invokevirtual 166, 3) := by decide +kernel
theorem d_MD_readMethod_71 : decode b_MD_readMethod 71 = .ok (.iastore, 1) := by decide +kernel
theorem d_MD_readMethod_72 : decode b_MD_readMethod 72 = .ok (.aload_n 0, 1) := by decide +kernel
theorem d_MD_readMethod_73 : decode b_MD_readMethod 73 = .ok (.getfield 19, 3) := by decide +kernel
theorem d_MD_readMethod_76 : decode b_MD_readMethod 76 = .ok (.iload_n 1, 1) := by decide +kernel
theorem d_MD_readMethod_77 : decode b_MD_readMethod 77 = .ok (.aload_n 0, 1) := by decide +kernel
theorem d_MD_readMethod_78 : decode b_MD_readMethod 78 = .ok (.aload_n 0, 1) := by decide +kernel
theorem d_MD_readMethod_79 : decode b_MD_readMethod 79 = .ok (.getfield 163, 3) := by decide +kernel
theorem d_MD_readMethod_82 : decode b_MD_readMethod 82 = .ok (.ifCond .ge 12, 3) := by decide +kernel
theorem d_MD_readMethod_85 : decode b_MD_readMethod 85 = .ok (.aload_n 0, 1) := by decide +kernel
theorem d_MD_readMethod_86 : decode b_MD_readMethod 86 = .ok (.getfield 16, 3) := by decide +kernel
theorem d_MD_readMethod_89 : decode b_MD_readMethod 89 = .ok (.iload_n 1, 1) := by decide +kernel
theorem d_MD_readMethod_90 : decode b_MD_readMethod 90 = .ok (.iaload, 1) := by decide +kernel
theorem d_MD_readMethod_91 : decode b_MD_readMethod 91 = .ok (.goto 4, 3) := by decide +kernel
theorem d_MD_readMethod_94 : decode b_MD_readMethod 94 = .ok (.iconst 0, 1) := by decide +kernel
theorem d_MD_readMethod_95 : decode b_MD_readMethod 95 = .ok (.bipush 6, 2) := by decide +kernel
theorem d_MD_readMethod_97 : decode b_MD_readMethod 97 = .ok (.invokevirtual 166, 3) := by decide +kernel
theorem d_MD_readMethod_100 : decode b_MD_readMethod 100 = .ok (.iastore, 1) := by decide +kernel
theorem d_MD_readMethod_101 : decode b_MD_readMethod 101 = .ok (.aload_n 0, 1) := by decide +kernel
theorem d_MD_readMethod_102 : decode b_MD_readMethod 102 = .ok (.getfield 22, 3) := by decide +kernel
theorem d_MD_readMethod_105 : decode b_MD_readMethod 105 = .ok (.iload_n 1, 1) := by decide +kernel
theorem d_MD_readMethod_106 : decode b_MD_readMethod 106 = .ok (.aload_n 0, 1) := by decide +kernel
theorem d_MD_readMethod_107 : decode b_MD_readMethod 107 = .ok (.iconst 1, 1) := by decide +kernel
theorem d_MD_readMethod_108 : decode b_MD_readMethod 108 = .ok (.bipush 8, 2) := by decide +kernel
theorem d_MD_readMethod_110 : decode b_MD_readMethod 110 = .ok (.invokevirtual 166, 3) := by decide +kernel
theorem d_MD_readMethod_113 : decode b_MD_readMethod 113 = .ok (.iastore, 1) := by decide +kernel
theorem d_MD_readMethod_114 : decode b_MD_readMethod 114 = .ok (.aload_n 0, 1) := by decide +kernel
theorem d_MD_readMethod_115 : decode b_MD_readMethod 115 = .ok (.getfield 25, 3) := by decide +kernel
theorem d_MD_readMethod_118 : decode b_MD_readMethod 118 = .ok (.iload_n 1, 1) := by decide +kernel
theorem d_MD_readMethod_119 : decode b_MD_readMethod 119 = .ok (.aload_n 0, 1) := by decide +kernel
theorem d_MD_readMethod_120 : decode b_MD_readMethod 120 = .ok (.iconst 1, 1) := by decide +kernel
theorem d_MD_readMethod_121 : decode b_MD_readMethod 121 = .ok (.bipush 40, 2) := by decide +kernel
theorem d_MD_readMethod_123 : decode b_MD_readMethod 123 = .ok (.invokevirtual 166, 3) := by decide +kernel
theorem d_MD_readMethod_126 : decode b_MD_readMethod 126 = .ok (.iastore, 1) := by decide +kernel
theorem d_MD_readMethod_127 : decode b_MD_readMethod 127 = .ok (.iconst 0, 1) := by decide +kernel
theorem d_MD_readMethod_128 : decode b_MD_readMethod 128 = .ok (.istore_n 2, 1) := by decide +kernel
theorem d_MD_readMethod_129 : decode b_MD_readMethod 129 = .ok (.aload_n 0, 1) := by decide +kernel
theorem d_MD_readMethod_130 : decode b_MD_readMethod 130 = .ok (.getfield 163, 3) := by decide +kernel
theorem d_MD_readMethod_133 : decode b_MD_readMethod 133 = .ok (.ifCond .ge 38, 3) := by decide +kernel
theorem d_MD_readMethod_136 : decode b_MD_readMethod 136 = .ok (.iload_n 2, 1) := by decide +kernel
theorem d_MD_readMethod_137 : decode b_MD_readMethod 137 = .ok (.aload_n 0, 1) := by decide +kernel
theorem d_MD_readMethod_138 : decode b_MD_readMethod 138 = .ok (.getfield 25, 3) := by decide +kernel
theorem d_MD_readMethod_141 : decode b_MD_readMethod 141 = .ok (.iload_n 1, 1) := by decide +kernel
theorem d_MD_readMethod_142 : decode b_MD_readMethod 142 = .ok (.iaload, 1) := by decide +kernel
theorem d_MD_readMethod_143 : decode b_MD_readMethod 143 = .ok (.if_icmp .ge 28, 3) := by decide +kernel
theorem d_MD_readMethod_146 : decode b_MD_readMethod 146 = .ok (.aload_n 0, 1) := by decide +kernel
theorem d_MD_readMethod_147 : decode b_MD_readMethod 147 = .ok (.getfield 28, 3) := by decide +kernel
theorem d_MD_readMethod_150 : decode b_MD_readMethod 150 = .ok (.bipush 120, 2) := by decide +kernel
theorem d_MD_readMethod_152 : decode b_MD_readMethod 152 = .ok (.iload_n 1, 1) := by decide +kernel
theorem d_MD_readMethod_153 : decode b_MD_readMethod 153 = .ok (.imul, 1) := by decide +kernel
theorem d_MD_readMethod_154 : decode b_MD_readMethod 154 = .ok (.iload_n 2, 1) := by decide +kernel
theorem d_MD_readMethod_155 : decode b_MD_readMethod 155 = .ok (.iadd, 1) := by decide +kernel
theorem d_MD_readMethod_156 : decode b_MD_readMethod 156 = .ok (.aload_n 0, 1) := by decide +kernel
theorem d_MD_readMethod_157 : decode b_MD_readMethod 157 = .ok (.iconst 0, 1) := by decide +kernel
theorem d_MD_readMethod_158 : decode b_MD_readMethod 158 = .ok (.sipush 255, 3) := by decide +kernel
theorem d_MD_readMethod_161 : decode b_MD_readMethod 161 = .ok (.invokevirtual 166, 3) := by decide +kernel
theorem d_MD_readMethod_164 : decode b_MD_readMethod 164 = .ok (.iastore, 1) := by decide +kernel
theorem d_MD_readMethod_165 : decode b_MD_readMethod 165 = .ok (.iinc 2 1, 3) := by decide +kernel
theorem d_MD_readMethod_168 : decode b_MD_readMethod 168 = .ok (.goto (-39), 3) := by decide +kernel
theorem d_MD_readMethod_171 : decode b_MD_readMethod 171 = .ok (.aload_n 0, 1) := by decide +kernel
theorem d_MD_readMethod_172 : decode b_MD_readMethod 172 = .ok (.getfield 31, 3) := by decide +kernel
theorem d_MD_readMethod_175 : decode b_MD_readMethod 175 = .ok (.iload_n 1, 1) := by decide +kernel
theorem d_MD_readMethod_176 : decode b_MD_readMethod 176 = .ok (.aload_n 0, 1) := by decide +kernel
theorem d_MD_readMethod_177 : decode b_MD_readMethod 177 = .ok (.iconst 0, 1) := by decide +kernel
theorem d_MD_readMethod_178 : decode b_MD_readMethod 178 = .ok (.iconst 3, 1) := by decide +kernel
theorem d_MD_readMethod_179 : decode b_MD_readMethod 179 = .ok (.invokevirtual 166, 3) := by decide +kernel
theorem d_MD_readMethod_182 : decode b_MD_readMethod 182 = .ok (.iastore, 1) := by decide +kernel
theorem d_MD_readMethod_183 : decode b_MD_readMethod 183 = .ok (.iconst 0, 1) := by decide +kernel
theorem d_MD_readMethod_184 : decode b_MD_readMethod 184 = .ok (.istore_n 2, 1) := by decide +kernel
theorem d_MD_readMethod_185 : decode b_MD_readMethod 185 = .ok (.aload_n 0, 1) := by decide +kernel
theorem d_MD_readMethod_186 : decode b_MD_readMethod 186 = .ok (.getfield 163, 3) := by decide +kernel
theorem d_MD_readMethod_189 : decode b_MD_readMethod 189 = .ok (.ifCond .ge 52, 3) := by decide +kernel
theorem d_MD_readMethod_192 : decode b_MD_readMethod 192 = .ok (.iload_n 2, 1) := by decide +kernel
theorem d_MD_readMethod_193 : decode b_MD_readMethod 193 = .ok (.iconst 4, 1) := by decide +kernel
theorem d_MD_readMethod_194 : decode b_MD_readMethod 194 = .ok (.aload_n 0, 1) := by decide +kernel
theorem d_MD_readMethod_195 : decode b_MD_readMethod 195 = .ok (.getfield 31, 3) := by decide +kernel
theorem d_MD_readMethod_198 : decode b_MD_readMethod 198 = .ok (.iload_n 1, 1) := by decide +kernel
theorem d_MD_readMethod_199 : decode b_MD_readMethod 199 = .ok (.iaload, 1) := by decide +kernel
theorem d_MD_readMethod_200 : decode b_MD_readMethod 200 = .ok (.imul, 1) := by decide +kernel
theorem d_MD_readMethod_201 : decode b_MD_readMethod 201 = .ok (.if_icmp .ge 40, 3) := by decide +kernel
theorem d_MD_readMethod_204 : decode b_MD_readMethod 204 = .ok (.aload_n 0, 1) := by decide +kernel
theorem d_MD_readMethod_205 : decode b_MD_readMethod 205 = .ok (.getfield 34, 3) := by decide +kernel
theorem d_MD_readMethod_208 : decode b_MD_readMethod 208 = .ok (.bipush 20, 2) := by decide +kernel
theorem d_MD_readMethod_210 : decode b_MD_readMethod 210 = .ok (.iload_n 1, 1) := by decide +kernel
theorem d_MD_readMethod_211 : decode b_MD_readMethod 211 = .ok (.imul, 1) := by decide +kernel
theorem d_MD_readMethod_212 : decode b_MD_readMethod 212 = .ok (.iload_n 2, 1) := by decide +kernel
theorem d_MD_readMethod_213 : decode b_MD_readMethod 213 = .ok (.iadd, 1) := by decide +kernel
theorem d_MD_readMethod_214 : decode b_MD_readMethod 214 = .ok (.aload_n 0, 1) := by decide +kernel
theorem d_MD_readMethod_215 : decode b_MD_readMethod 215 = .ok (.iconst 0, 1) := by decide +kernel
theorem d_MD_readMethod_216 : decode b_MD_readMethod 216 = .ok (.iload_n 2, 1) := by decide +kernel
theorem d_MD_readMethod_217 : decode b_MD_readMethod 217 = .ok (.iconst 4, 1) := by decide +kernel
theorem d_MD_readMethod_218 : decode b_MD_readMethod 218 = .ok (.irem, 1) := by decide +kernel
theorem d_MD_readMethod_219 : decode b_MD_readMethod 219 = .ok (.iconst 3, 1) := by decide +kernel
theorem d_MD_readMethod_220 : decode b_MD_readMethod 220 = .ok (.if_icmp .ne 8, 3) := by decide +kernel
theorem d_MD_readMethod_223 : decode b_MD_readMethod 223 = .ok (.bipush 9, 2) := by decide +kernel
theorem d_MD_readMethod_225 : decode b_MD_readMethod 225 = .ok (.goto 6, 3) := by decide +kernel
theorem d_MD_readMethod_228 : decode b_MD_readMethod 228 = .ok (.sipush 255, 3) := by decide +kernel
theorem d_MD_readMethod_231 : decode b_MD_readMethod 231 = .ok (.invokevirtual 166, 3) := by decide +kernel
theorem d_MD_readMethod_234 : decode b_MD_readMethod 234 = .ok (.iastore, 1) := by decide +kernel
theorem d_MD_readMethod_235 : decode b_MD_readMethod 235 = .ok (.iinc 2 1, 3) := by decide +kernel
theorem d_MD_readMethod_238 : decode b_MD_readMethod 238 = .ok (.goto (-53), 3) := by decide +kernel
theorem d_MD_readMethod_241 : decode b_MD_readMethod 241 = .ok (.return_, 1) := by decide +kernel
theorem d_MD_op_0 : decode b_MD_op 0 = .ok (.aload_n 0, 1) := by decide +kernel
theorem d_MD_op_1 : decode b_MD_op 1 = .ok (.getfield 28, 3) := by decide +kernel
theorem d_MD_op_4 : decode b_MD_op 4 = .ok (.bipush 120, 2) := by decide +kernel
theorem d_MD_op_6 : decode b_MD_op 6 = .ok (.iload_n 1, 1) := by decide +kernel
theorem d_MD_op_7 : decode b_MD_op 7 = .ok (.imul, 1) := by decide +kernel
theorem d_MD_op_8 : decode b_MD_op 8 = .ok (.iload_n 2, 1) := by decide +kernel
theorem d_MD_op_9 : decode b_MD_op 9 = .ok (.iadd, 1) := by decide +kernel
theorem d_MD_op_10 : decode b_MD_op 10 = .ok (.iaload, 1) := by decide +kernel
theorem d_MD_op_11 : decode b_MD_op 11 = .ok (.ireturn, 1) := by decide +kernel
theorem d_MD_sizeOf_0 : decode b_MD_sizeOf 0 = .ok (.iload_n 0, 1) := by decide +kernel
theorem d_MD_sizeOf_1 : decode b_MD_sizeOf 1 = .ok (.bipush 16, 2) := by decide +kernel
theorem d_MD_sizeOf_3 : decode b_MD_sizeOf 3 = .ok (.if_icmp .eq 15, 3) := by decide +kernel
theorem d_MD_sizeOf_6 : decode b_MD_sizeOf 6 = .ok (.iload_n 0, 1) := by decide +kernel
theorem d_MD_sizeOf_7 : decode b_MD_sizeOf 7 = .ok (.bipush 20, 2) := by decide +kernel
theorem d_MD_sizeOf_9 : decode b_MD_sizeOf 9 = .ok (.if_icmp .lt 11, 3) := by decide +kernel
theorem d_MD_sizeOf_12 : decode b_MD_sizeOf 12 = .ok (.iload_n 0, 1) := by decide +kernel
theorem d_MD_sizeOf_13 : decode b_MD_sizeOf 13 = .ok (.bipush 22, 2) := by decide +kernel
theorem d_MD_sizeOf_15 : decode b_MD_sizeOf 15 = .ok (.if_icmp .gt 5, 3) := by decide +kernel
theorem d_MD_sizeOf_18 : decode b_MD_sizeOf 18 = .ok (.iconst 3, 1) := by decide +kernel
theorem d_MD_sizeOf_19 : decode b_MD_sizeOf 19 = .ok (.ireturn, 1) := by decide +kernel
theorem d_MD_sizeOf_20 : decode b_MD_sizeOf 20 = .ok (.iload_n 0, 1) := by decide +kernel
theorem d_MD_sizeOf_21 : decode b_MD_sizeOf 21 = .ok (.iconst 1, 1) := by decide +kernel
theorem d_MD_sizeOf_22 : decode b_MD_sizeOf 22 = .ok (.if_icmp .lt 8, 3) := by decide +kernel
theorem d_MD_sizeOf_25 : decode b_MD_sizeOf 25 = .ok (.iload_n 0, 1) := by decide +kernel
theorem d_MD_sizeOf_26 : decode b_MD_sizeOf 26 = .ok (.iconst 3, 1) := by decide +kernel
theorem d_MD_sizeOf_27 : decode b_MD_sizeOf 27 = .ok (.if_icmp .le 27, 3) := by decide +kernel
theorem d_MD_sizeOf_30 : decode b_MD_sizeOf 30 = .ok (.iload_n 0, 1) := by decide +kernel
theorem d_MD_sizeOf_31 : decode b_MD_sizeOf 31 = .ok (.bipush 10, 2) := by decide +kernel
theorem d_MD_sizeOf_33 : decode b_MD_sizeOf 33 = .ok (.if_icmp .lt 9, 3) := by decide +kernel
theorem d_MD_sizeOf_36 : decode b_MD_sizeOf 36 = .ok (.iload_n 0, 1) := by decide +kernel
theorem d_MD_sizeOf_37 : decode b_MD_sizeOf 37 = .ok (.bipush 13, 2) := by decide +kernel
theorem d_MD_sizeOf_39 : decode b_MD_sizeOf 39 = .ok (.if_icmp .le 15, 3) := by decide +kernel
theorem d_MD_sizeOf_42 : decode b_MD_sizeOf 42 = .ok (.iload_n 0, 1) := by decide +kernel
theorem d_MD_sizeOf_43 : decode b_MD_sizeOf 43 = .ok (.bipush 30, 2) := by decide +kernel
theorem d_MD_sizeOf_45 : decode b_MD_sizeOf 45 = .ok (.if_icmp .eq 9, 3) := by decide +kernel
theorem d_MD_sizeOf_48 : decode b_MD_sizeOf 48 = .ok (.iload_n 0, 1) := by decide +kernel
theorem d_MD_sizeOf_49 : decode b_MD_sizeOf 49 = .ok (.bipush 31, 2) := by decide +kernel
theorem d_MD_sizeOf_51 : decode b_MD_sizeOf 51 = .ok (.if_icmp .ne 5, 3) := by decide +kernel
theorem d_MD_sizeOf_54 : decode b_MD_sizeOf 54 = .ok (.iconst 2, 1) := by decide +kernel
theorem d_MD_sizeOf_55 : decode b_MD_sizeOf 55 = .ok (.ireturn, 1) := by decide +kernel
theorem d_MD_sizeOf_56 : decode b_MD_sizeOf 56 = .ok (.iload_n 0, 1) := by decide +kernel
theorem d_MD_sizeOf_57 : decode b_MD_sizeOf 57 = .ok (.ifCond .lt 9, 3) := by decide +kernel
theorem d_MD_sizeOf_60 : decode b_MD_sizeOf 60 = .ok (.iload_n 0, 1) := by decide +kernel
theorem d_MD_sizeOf_61 : decode b_MD_sizeOf 61 = .ok (.bipush 15, 2) := by decide +kernel
theorem d_MD_sizeOf_63 : decode b_MD_sizeOf 63 = .ok (.if_icmp .le 9, 3) := by decide +kernel
theorem d_MD_sizeOf_66 : decode b_MD_sizeOf 66 = .ok (.iload_n 0, 1) := by decide +kernel
theorem d_MD_sizeOf_67 : decode b_MD_sizeOf 67 = .ok (.bipush 32, 2) := by decide +kernel
theorem d_MD_sizeOf_69 : decode b_MD_sizeOf 69 = .ok (.if_icmp .ne 7, 3) := by decide +kernel
theorem d_MD_sizeOf_72 : decode b_MD_sizeOf 72 = .ok (.iconst 1, 1) := by decide +kernel
theorem d_MD_sizeOf_73 : decode b_MD_sizeOf 73 = .ok (.goto 4, 3) := by decide +kernel
theorem d_MD_sizeOf_76 : decode b_MD_sizeOf 76 = .ok (.iconst 0, 1) := by decide +kernel
theorem d_MD_sizeOf_77 : decode b_MD_sizeOf 77 = .ok (.ireturn, 1) := by decide +kernel
theorem d_MD_divide_0 : decode b_MD_divide 0 = .ok (.iconst 0, 1) := by decide +kernel
theorem d_MD_divide_1 : decode b_MD_divide 1 = .ok (.istore_n 2, 1) := by decide +kernel
theorem d_MD_divide_2 : decode b_MD_divide 2 = .ok (.iload_n 2, 1) := by decide +kernel
theorem d_MD_divide_3 : decode b_MD_divide 3 = .ok (.bipush 120, 2) := by decide +kernel
theorem d_MD_divide_5 : decode b_MD_divide 5 = .ok (.if_icmp .gt 16, 3) := by decide +kernel
theorem d_MD_divide_8 : decode b_MD_divide 8 = .ok (.aload_n 0, 1) := by decide +kernel
theorem d_MD_divide_9 : decode b_MD_divide 9 = .ok (.getfield 50, 3) := by decide +kernel
theorem d_MD_divide_12 : decode b_MD_divide 12 = .ok (.iload_n 2, 1) := by decide +kernel
theorem d_MD_divide_13 : decode b_MD_divide 13 = .ok (.iconst 0, 1) := by decide +kernel
theorem d_MD_divide_14 : decode b_MD_divide 14 = .ok (.bastore, 1) := by decide +kernel
theorem d_MD_divide_15 : decode b_MD_divide 15 = .ok (.iinc 2 1, 3) := by decide +kernel
theorem d_MD_divide_18 : decode b_MD_divide 18 = .ok (.goto (-16), 3) := by decide +kernel
theorem d_MD_divide_21 : decode b_MD_divide 21 = .ok (.iconst 0, 1) := by decide +kernel
theorem d_MD_divide_22 : decode b_MD_divide 22 = .ok (.istore_n 2, 1) := by decide +kernel
theorem d_MD_divide_23 : decode b_MD_divide 23 = .ok (.iload_n 2, 1) := by decide +kernel
theorem d_MD_divide_24 : decode b_MD_divide 24 = .ok (.aload_n 0, 1) := by decide +kernel
theorem d_MD_divide_25 : decode b_MD_divide 25 = .ok (.getfield 25, 3) := by decide +kernel
theorem d_MD_divide_28 : decode b_MD_divide 28 = .ok (.iload_n 1, 1) := by decide +kernel
theorem d_MD_divide_29 : decode b_MD_divide 29 = .ok (.iaload, 1) := by decide +kernel
theorem d_MD_divide_30 : decode b_MD_divide 30 = .ok (.if_icmp .ge 45, 3) := by decide +kernel
theorem d_MD_divide_33 : decode b_MD_divide 33 = .ok (.aload_n 0, 1) := by decide +kernel
theorem d_MD_divide_34 : decode b_MD_divide 34 = .ok (.iload_n 1, 1) := by decide +kernel
theorem d_MD_divide_35 : decode b_MD_divide 35 = .ok (.iload_n 2, 1) := by decide +kernel
theorem d_MD_divide_36 : decode b_MD_divide 36 = .ok (.invokevirtual 104, 3) := by decide +kernel
theorem d_MD_divide_39 : decode b_MD_divide 39 = .ok (.invokestatic 111, 3) := by decide +kernel
theorem d_MD_divide_42 : decode b_MD_divide 42 = .ok (.istore_n 3, 1) := by decide +kernel
theorem d_MD_divide_43 : decode b_MD_divide 43 = .ok (.iload_n 3, 1) := by decide +kernel
theorem d_MD_divide_44 : decode b_MD_divide 44 = .ok (.ifCond .eq 15, 3) := by decide +kernel
theorem d_MD_divide_47 : decode b_MD_divide 47 = .ok (.iload_n 2, 1) := by decide +kernel
theorem d_MD_divide_48 : decode b_MD_divide 48 = .ok (.iload_n 3, 1) := by decide +kernel
theorem d_MD_divide_49 : decode b_MD_divide 49 = .ok (.iadd, 1) := by decide +kernel
theorem d_MD_divide_50 : decode b_MD_divide 50 = .ok (.aload_n 0, 1) := by decide +kernel
theorem d_MD_divide_51 : decode b_MD_divide 51 = .ok (.getfield 25, 3) := by decide +kernel
theorem d_MD_divide_54 : decode b_MD_divide 54 = .ok (.iload_n 1, 1) := by decide +kernel
theorem d_MD_divide_55 : decode b_MD_divide 55 = .ok (.iaload, 1) := by decide +kernel
theorem d_MD_divide_56 : decode b_MD_divide 56 = .ok (.if_icmp .le 5, 3) := by decide +kernel
theorem d_MD_divide_59 : decode b_MD_divide 59 = .ok (.iconst 0, 1) := by decide +kernel
theorem d_MD_divide_60 : decode b_MD_divide 60 = .ok (.ireturn, 1) := by decide +kernel
theorem d_MD_divide_61 : decode b_MD_divide 61 = .ok (.aload_n 0, 1) := by decide +kernel
theorem d_MD_divide_62 : decode b_MD_divide 62 = .ok (.getfield 50, 3) := by decide +kernel
theorem d_MD_divide_65 : decode b_MD_divide 65 = .ok (.iload_n 2, 1) := by decide +kernel
theorem d_MD_divide_66 : decode b_MD_divide 66 = .ok (.iconst 1, 1) := by decide +kernel
theorem d_MD_divide_67 : decode b_MD_divide 67 = .ok (.bastore, 1) := by decide +kernel
theorem d_MD_divide_68 : decode b_MD_divide 68 = .ok (.iload_n 2, 1) := by decide +kernel
theorem d_MD_divide_69 : decode b_MD_divide 69 = .ok (.iload_n 3, 1) := by decide +kernel
theorem d_MD_divide_70 : decode b_MD_divide 70 = .ok (.iadd, 1) := by decide +kernel
theorem d_MD_divide_71 : decode b_MD_divide 71 = .ok (.istore_n 2, 1) := by decide +kernel
theorem d_MD_divide_72 : decode b_MD_divide 72 = .ok (.goto (-49), 3) := by decide +kernel
theorem d_MD_divide_75 : decode b_MD_divide 75 = .ok (.iconst 1, 1) := by decide +kernel
theorem d_MD_divide_76 : decode b_MD_divide 76 = .ok (.ireturn, 1) := by decide +kernel
theorem d_MD_branches_0 : decode b_MD_branches 0 = .ok (.iload_n 0, 1) := by decide +kernel
theorem d_MD_branches_1 : decode b_MD_branches 1 = .ok (.bipush 10, 2) := by decide +kernel
theorem d_MD_branches_3 : decode b_MD_branches 3 = .ok (.if_icmp .lt 9, 3) := by decide +kernel
theorem d_MD_branches_6 : decode b_MD_branches 6 = .ok (.iload_n 0, 1) := by decide +kernel
theorem d_MD_branches_7 : decode b_MD_branches 7 = .ok (.bipush 12, 2) := by decide +kernel
theorem d_MD_branches_9 : decode b_MD_branches 9 = .ok (.if_icmp .le 15, 3) := by decide +kernel
theorem d_MD_branches_12 : decode b_MD_branches 12 = .ok (.iload_n 0, 1) := by decide +kernel
theorem d_MD_branches_13 : decode b_MD_branches 13 = .ok (.bipush 20, 2) := by decide +kernel
theorem d_MD_branches_15 : decode b_MD_branches 15 = .ok (.if_icmp .lt 13, 3) := by decide +kernel
theorem d_MD_branches_18 : decode b_MD_branches 18 = .ok (.iload_n 0, 1) := by decide +kernel
theorem d_MD_branches_19 : decode b_MD_branches 19 = .ok (.bipush 22, 2) := by decide +kernel
theorem d_MD_branches_21 : decode b_MD_branches 21 = .ok (.if_icmp .gt 7, 3) := by decide +kernel
theorem d_MD_branches_24 : decode b_MD_branches 24 = .ok (.iconst 1, 1) := by decide +kernel
theorem d_MD_branches_25 : decode b_MD_branches 25 = .ok (.goto 4, 3) := by decide +kernel
theorem d_MD_branches_28 : decode b_MD_branches 28 = .ok (.iconst 0, 1) := by decide +kernel
theorem d_MD_branches_29 : decode b_MD_branches 29 = .ok (.ireturn, 1) := by decide +kernel
theorem d_MD_signed_0 : decode b_MD_signed 0 = .ok (.aload_n 0, 1) := by decide +kernel
theorem d_MD_signed_1 : decode b_MD_signed 1 = .ok (.getfield 28, 3) := by decide +kernel
theorem d_MD_signed_4 : decode b_MD_signed 4 = .ok (.bipush 120, 2) := by decide +kernel
theorem d_MD_signed_6 : decode b_MD_signed 6 = .ok (.iload_n 1, 1) := by decide +kernel
theorem d_MD_signed_7 : decode b_MD_signed 7 = .ok (.imul, 1) := by decide +kernel
theorem d_MD_signed_8 : decode b_MD_signed 8 = .ok (.iload_n 2, 1) := by decide +kernel
theorem d_MD_signed_9 : decode b_MD_signed 9 = .ok (.iadd, 1) := by decide +kernel
theorem d_MD_signed_10 : decode b_MD_signed 10 = .ok (.iaload, 1) := by decide +kernel
theorem d_MD_signed_11 : decode b_MD_signed 11 = .ok (.i2b, 1) := by decide +kernel
theorem d_MD_signed_12 : decode b_MD_signed 12 = .ok (.ireturn, 1) := by decide +kernel
theorem d_MD_target_0 : decode b_MD_target 0 = .ok (.aload_n 0, 1) := by decide +kernel
theorem d_MD_target_1 : decode b_MD_target 1 = .ok (.iload_n 1, 1) := by decide +kernel
theorem d_MD_target_2 : decode b_MD_target 2 = .ok (.iload_n 2, 1) := by decide +kernel
theorem d_MD_target_3 : decode b_MD_target 3 = .ok (.invokevirtual 104, 3) := by decide +kernel
theorem d_MD_target_6 : decode b_MD_target 6 = .ok (.bipush 20, 2) := by decide +kernel
theorem d_MD_target_8 : decode b_MD_target 8 = .ok (.if_icmp .ge 16, 3) := by decide +kernel
theorem d_MD_target_11 : decode b_MD_target 11 = .ok (.iload_n 2, 1) := by decide +kernel
theorem d_MD_target_12 : decode b_MD_target 12 = .ok (.aload_n 0, 1) := by decide +kernel
theorem d_MD_target_13 : decode b_MD_target 13 = .ok (.iload_n 1, 1) := by decide +kernel
theorem d_MD_target_14 : decode b_MD_target 14 = .ok (.iload_n 2, 1) := by decide +kernel
theorem d_MD_target_15 : decode b_MD_target 15 = .ok (.iconst 1, 1) := by decide +kernel
theorem d_MD_target_16 : decode b_MD_target 16 = .ok (.iadd, 1) := by decide +kernel
theorem d_MD_target_17 : decode b_MD_target 17 = .ok (.invokevirtual 108, 3) := by decide +kernel
theorem d_MD_target_20 : decode b_MD_target 20 = .ok (.iadd, 1) := by decide +kernel
theorem d_MD_target_21 : decode b_MD_target 21 = .ok (.goto 26, 3) := by decide +kernel
theorem d_MD_target_24 : decode b_MD_target 24 = .ok (.iload_n 2, 1) := by decide +kernel
theorem d_MD_target_25 : decode b_MD_target 25 = .ok (.aload_n 0, 1) := by decide +kernel
theorem d_MD_target_26 : decode b_MD_target 26 = .ok (.iload_n 1, 1) := by decide +kernel
theorem d_MD_target_27 : decode b_MD_target 27 = .ok (.iload_n 2, 1) := by decide +kernel
theorem d_MD_target_28 : decode b_MD_target 28 = .ok (.iconst 1, 1) := by decide +kernel
theorem d_MD_target_29 : decode b_MD_target 29 = .ok (.iadd, 1) := by decide +kernel
theorem d_MD_target_30 : decode b_MD_target 30 = .ok (.invokevirtual 108, 3) := by decide +kernel
theorem d_MD_target_33 : decode b_MD_target 33 = .ok (.sipush 256, 3) := by decide +kernel
theorem d_MD_target_36 : decode b_MD_target 36 = .ok (.imul, 1) := by decide +kernel
theorem d_MD_target_37 : decode b_MD_target 37 = .ok (.iadd, 1) := by decide +kernel
theorem d_MD_target_38 : decode b_MD_target 38 = .ok (.aload_n 0, 1) := by decide +kernel
theorem d_MD_target_39 : decode b_MD_target 39 = .ok (.iload_n 1, 1) := by decide +kernel
theorem d_MD_target_40 : decode b_MD_target 40 = .ok (.iload_n 2, 1) := by decide +kernel
theorem d_MD_target_41 : decode b_MD_target 41 = .ok (.iconst 2, 1) := by decide +kernel
theorem d_MD_target_42 : decode b_MD_target 42 = .ok (.iadd, 1) := by decide +kernel
theorem d_MD_target_43 : decode b_MD_target 43 = .ok (.invokevirtual 104, 3) := by decide +kernel
theorem d_MD_target_46 : decode b_MD_target 46 = .ok (.iadd, 1) := by decide +kernel
theorem d_MD_target_47 : decode b_MD_target 47 = .ok (.ireturn, 1) := by decide +kernel
theorem d_MD_isPlace_0 : decode b_MD_isPlace 0 = .ok (.iload_n 2, 1) := by decide +kernel
theorem d_MD_isPlace_1 : decode b_MD_isPlace 1 = .ok (.ifCond .lt 26, 3) := by decide +kernel
theorem d_MD_isPlace_4 : decode b_MD_isPlace 4 = .ok (.iload_n 2, 1) := by decide +kernel
theorem d_MD_isPlace_5 : decode b_MD_isPlace 5 = .ok (.aload_n 0, 1) := by decide +kernel
theorem d_MD_isPlace_6 : decode b_MD_isPlace 6 = .ok (.getfield 25, 3) := by decide +kernel
theorem d_MD_isPlace_9 : decode b_MD_isPlace 9 = .ok (.iload_n 1, 1) := by decide +kernel
theorem d_MD_isPlace_10 : decode b_MD_isPlace 10 = .ok (.iaload, 1) := by decide +kernel
theorem d_MD_isPlace_11 : decode b_MD_isPlace 11 = .ok (.if_icmp .ge 16, 3) := by decide +kernel
theorem d_MD_isPlace_14 : decode b_MD_isPlace 14 = .ok (.aload_n 0, 1) := by decide +kernel
theorem d_MD_isPlace_15 : decode b_MD_isPlace 15 = .ok (.getfield 50, 3) := by decide +kernel
theorem d_MD_isPlace_18 : decode b_MD_isPlace 18 = .ok (.iload_n 2, 1) := by decide +kernel
theorem d_MD_isPlace_19 : decode b_MD_isPlace 19 = .ok (.baload, 1) := by decide +kernel
theorem d_MD_isPlace_20 : decode b_MD_isPlace 20 = .ok (.ifCond .eq 7, 3) := by decide +kernel
theorem d_MD_isPlace_23 : decode b_MD_isPlace 23 = .ok (.iconst 1, 1) := by decide +kernel
theorem d_MD_isPlace_24 : decode b_MD_isPlace 24 = .ok (.goto 4, 3) := by decide +kernel
theorem d_MD_isPlace_27 : decode b_MD_isPlace 27 = .ok (.iconst 0, 1) := by decide +kernel
theorem d_MD_isPlace_28 : decode b_MD_isPlace 28 = .ok (.ireturn, 1) := by decide +kernel
theorem d_MD_formed_0 : decode b_MD_formed 0 = .ok (.aload_n 0, 1) := by decide +kernel
theorem d_MD_formed_1 : decode b_MD_formed 1 = .ok (.iload_n 1, 1) := by decide +kernel
theorem d_MD_formed_2 : decode b_MD_formed 2 = .ok (.invokevirtual 115, 3) := by decide +kernel
theorem d_MD_formed_5 : decode b_MD_formed 5 = .ok (.ifCond .ne 5, 3) := by decide +kernel
theorem d_MD_formed_8 : decode b_MD_formed 8 = .ok (.iconst 0, 1) := by decide +kernel
theorem d_MD_formed_9 : decode b_MD_formed 9 = .ok (.ireturn, 1) := by decide +kernel
theorem d_MD_formed_10 : decode b_MD_formed 10 = .ok (.iconst 1, 1) := by decide +kernel
theorem d_MD_formed_11 : decode b_MD_formed 11 = .ok (.istore_n 2, 1) := by decide +kernel
theorem d_MD_formed_12 : decode b_MD_formed 12 = .ok (.iconst 0, 1) := by decide +kernel
theorem d_MD_formed_13 : decode b_MD_formed 13 = .ok (.istore_n 3, 1) := by decide +kernel
theorem d_MD_formed_14 : decode b_MD_formed 14 = .ok (.iload_n 3, 1) := by decide +kernel
theorem d_MD_formed_15 : decode b_MD_formed 15 = .ok (.aload_n 0, 1) := by decide +kernel
theorem d_MD_formed_16 : decode b_MD_formed 16 = .ok (.getfield 25, 3) := by decide +kernel
theorem d_MD_formed_19 : decode b_MD_formed 19 = .ok (.iload_n 1, 1) := by decide +kernel
theorem d_MD_formed_20 : decode b_MD_formed 20 = .ok (.iaload, 1) := by decide +kernel
theorem d_MD_formed_21 : decode b_MD_formed 21 = .ok (.if_icmp .ge 158, 3) := by decide +kernel
theorem d_MD_formed_24 : decode b_MD_formed 24 = .ok (.aload_n 0, 1) := by decide +kernel
theorem d_MD_formed_25 : decode b_MD_formed 25 = .ok (.iload_n 1, 1) := by decide +kernel
theorem d_MD_formed_26 : decode b_MD_formed 26 = .ok (.iload_n 3, 1) := by decide +kernel
theorem d_MD_formed_27 : decode b_MD_formed 27 = .ok (.invokevirtual 104, 3) := by decide +kernel
theorem d_MD_formed_30 : decode b_MD_formed 30 = .ok (.istore 4, 2) := by decide +kernel
theorem d_MD_formed_32 : decode b_MD_formed 32 = .ok (.aload_n 0, 1) := by decide +kernel
theorem d_MD_formed_33 : decode b_MD_formed 33 = .ok (.getfield 50, 3) := by decide +kernel
theorem d_MD_formed_36 : decode b_MD_formed 36 = .ok (.iload_n 3, 1) := by decide +kernel
theorem d_MD_formed_37 : decode b_MD_formed 37 = .ok (.baload, 1) := by decide +kernel
theorem d_MD_formed_38 : decode b_MD_formed 38 = .ok (.ifCond .eq 135, 3) := by decide +kernel
theorem d_MD_formed_41 : decode b_MD_formed 41 = .ok (.iload_n 2, 1) := by decide +kernel
theorem d_MD_formed_42 : decode b_MD_formed 42 = .ok (.ifCond .eq 61, 3) := by decide +kernel
theorem d_MD_formed_45 : decode b_MD_formed 45 = .ok (.iload 4, 2) := by decide +kernel
theorem d_MD_formed_47 : decode b_MD_formed 47 = .ok (.bipush 30, 2) := by decide +kernel
theorem d_MD_formed_49 : decode b_MD_formed 49 = .ok (.if_icmp .ge 54, 3) := by decide +kernel
theorem d_MD_formed_52 : decode b_MD_formed 52 = .ok (.iload 4, 2) := by decide +kernel
theorem d_MD_formed_54 : decode b_MD_formed 54 = .ok (.invokestatic 119, 3) := by decide +kernel
theorem d_MD_formed_57 : decode b_MD_formed 57 = .ok (.ifCond .eq 42, 3) := by decide +kernel
theorem d_MD_formed_60 : decode b_MD_formed 60 = .ok (.aload_n 0, 1) := by decide +kernel
theorem d_MD_formed_61 : decode b_MD_formed 61 = .ok (.iload_n 1, 1) := by decide +kernel
theorem d_MD_formed_62 : decode b_MD_formed 62 = .ok (.aload_n 0, 1) := by decide +kernel
theorem d_MD_formed_63 : decode b_MD_formed 63 = .ok (.iload_n 1, 1) := by decide +kernel
theorem d_MD_formed_64 : decode b_MD_formed 64 = .ok (.iload_n 3, 1) := by decide +kernel
theorem d_MD_formed_65 : decode b_MD_formed 65 = .ok (.invokevirtual 122, 3) := by decide +kernel
theorem d_MD_formed_68 : decode b_MD_formed 68 = .ok (.invokevirtual 125, 3) := by decide +kernel
theorem d_MD_formed_71 : decode b_MD_formed 71 = .ok (.ifCond .eq 32, 3) := by decide +kernel
theorem d_MD_formed_74 : decode b_MD_formed 74 = .ok (.iload 4, 2) := by decide +kernel
theorem d_MD_formed_76 : decode b_MD_formed 76 = .ok (.bipush 12, 2) := by decide +kernel
theorem d_MD_formed_78 : decode b_MD_formed 78 = .ok (.if_icmp .gt 21, 3) := by decide +kernel
theorem d_MD_formed_81 : decode b_MD_formed 81 = .ok (.aload_n 0, 1) := by decide +kernel
theorem d_MD_formed_82 : decode b_MD_formed 82 = .ok (.iload_n 1, 1) := by decide +kernel
theorem d_MD_formed_83 : decode b_MD_formed 83 = .ok (.iload_n 3, 1) := by decide +kernel
theorem d_MD_formed_84 : decode b_MD_formed 84 = .ok (.iconst 1, 1) := by decide +kernel
theorem d_MD_formed_85 : decode b_MD_formed 85 = .ok (.iadd, 1) := by decide +kernel
theorem d_MD_formed_86 : decode b_MD_formed 86 = .ok (.invokevirtual 108, 3) := by decide +kernel
theorem d_MD_formed_89 : decode b_MD_formed 89 = .ok (.bipush (-24), 2) := by decide +kernel
theorem d_MD_formed_91 : decode b_MD_formed 91 = .ok (.bipush 24, 2) := by decide +kernel
theorem d_MD_formed_93 : decode b_MD_formed 93 = .ok (.invokestatic 96, 3) := by decide +kernel
theorem d_MD_formed_96 : decode b_MD_formed 96 = .ok (.ifCond .ne 7, 3) := by decide +kernel
theorem d_MD_formed_99 : decode b_MD_formed 99 = .ok (.iconst 1, 1) := by decide +kernel
theorem d_MD_formed_100 : decode b_MD_formed 100 = .ok (.goto 4, 3) := by decide +kernel
theorem d_MD_formed_103 : decode b_MD_formed 103 = .ok (.iconst 0, 1) := by decide +kernel
theorem d_MD_formed_104 : decode b_MD_formed 104 = .ok (.istore_n 2, 1) := by decide +kernel
theorem d_MD_formed_105 : decode b_MD_formed 105 = .ok (.iload_n 2, 1) := by decide +kernel
theorem d_MD_formed_106 : decode b_MD_formed 106 = .ok (.ifCond .eq 65, 3) := by decide +kernel
theorem d_MD_formed_109 : decode b_MD_formed 109 = .ok (.iload 4, 2) := by decide +kernel
theorem d_MD_formed_111 : decode b_MD_formed 111 = .ok (.iconst 2, 1) := by decide +kernel
theorem d_MD_formed_112 : decode b_MD_formed 112 = .ok (.if_icmp .eq 16, 3) := by decide +kernel
theorem d_MD_formed_115 : decode b_MD_formed 115 = .ok (.iload 4, 2) := by decide +kernel
theorem d_MD_formed_117 : decode b_MD_formed 117 = .ok (.iconst 3, 1) := by decide +kernel
theorem d_MD_formed_118 : decode b_MD_formed 118 = .ok (.if_icmp .eq 10, 3) := by decide +kernel
theorem d_MD_formed_121 : decode b_MD_formed 121 = .ok (.iload 4, 2) := by decide +kernel
theorem d_MD_formed_123 : decode b_MD_formed 123 = .ok (.bipush 16, 2) := by decide +kernel
theorem d_MD_formed_125 : decode b_MD_formed 125 = .ok (.if_icmp .ne 20, 3) := by decide +kernel
theorem d_MD_formed_128 : decode b_MD_formed 128 = .ok (.aload_n 0, 1) := by decide +kernel
theorem d_MD_formed_129 : decode b_MD_formed 129 = .ok (.iload_n 1, 1) := by decide +kernel
theorem d_MD_formed_130 : decode b_MD_formed 130 = .ok (.iload_n 3, 1) := by decide +kernel
theorem d_MD_formed_131 : decode b_MD_formed 131 = .ok (.iconst 1, 1) := by decide +kernel
theorem d_MD_formed_132 : decode b_MD_formed 132 = .ok (.iadd, 1) := by decide +kernel
theorem d_MD_formed_133 : decode b_MD_formed 133 = .ok (.invokevirtual 104, 3) := by decide +kernel
theorem d_MD_formed_136 : decode b_MD_formed 136 = .ok (.aload_n 0, 1) := by decide +kernel
theorem d_MD_formed_137 : decode b_MD_formed 137 = .ok (.getfield 19, 3) := by decide +kernel
theorem d_MD_formed_140 : decode b_MD_formed 140 = .ok (.iload_n 1, 1) := by decide +kernel
theorem d_MD_formed_141 : decode b_MD_formed 141 = .ok (.iaload, 1) := by decide +kernel
theorem d_MD_formed_142 : decode b_MD_formed 142 = .ok (.if_icmp .ge 29, 3) := by decide +kernel
theorem d_MD_formed_145 : decode b_MD_formed 145 = .ok (.iload 4, 2) := by decide +kernel
theorem d_MD_formed_147 : decode b_MD_formed 147 = .ok (.bipush 13, 2) := by decide +kernel
theorem d_MD_formed_149 : decode b_MD_formed 149 = .ok (.if_icmp .ne 18, 3) := by decide +kernel
theorem d_MD_formed_152 : decode b_MD_formed 152 = .ok (.aload_n 0, 1) := by decide +kernel
theorem d_MD_formed_153 : decode b_MD_formed 153 = .ok (.iload_n 1, 1) := by decide +kernel
theorem d_MD_formed_154 : decode b_MD_formed 154 = .ok (.iload_n 3, 1) := by decide +kernel
theorem d_MD_formed_155 : decode b_MD_formed 155 = .ok (.iconst 1, 1) := by decide +kernel
theorem d_MD_formed_156 : decode b_MD_formed 156 = .ok (.iadd, 1) := by decide +kernel
theorem d_MD_formed_157 : decode b_MD_formed 157 = .ok (.invokevirtual 104, 3) := by decide +kernel
theorem d_MD_formed_160 : decode b_MD_formed 160 = .ok (.aload_n 0, 1) := by decide +kernel
theorem d_MD_formed_161 : decode b_MD_formed 161 = .ok (.getfield 129, 3) := by decide +kernel
theorem d_MD_formed_164 : decode b_MD_formed 164 = .ok (.if_icmp .ge 7, 3) := by decide +kernel
theorem d_MD_formed_167 : decode b_MD_formed 167 = .ok (.iconst 1, 1) := by decide +kernel
theorem d_MD_formed_168 : decode b_MD_formed 168 = .ok (.goto 4, 3) := by decide +kernel
theorem d_MD_formed_171 : decode b_MD_formed 171 = .ok (.iconst 0, 1) := by decide +kernel
theorem d_MD_formed_172 : decode b_MD_formed 172 = .ok (.istore_n 2, 1) := by decide +kernel
theorem d_MD_formed_173 : decode b_MD_formed 173 = .ok (.iinc 3 1, 3) := by decide +kernel
theorem d_MD_formed_176 : decode b_MD_formed 176 = .ok (.goto (-162), 3) := by decide +kernel
theorem d_MD_formed_179 : decode b_MD_formed 179 = .ok (.bipush 20, 2) := by decide +kernel
theorem d_MD_formed_181 : decode b_MD_formed 181 = .ok (.iload_n 1, 1) := by decide +kernel
theorem d_MD_formed_182 : decode b_MD_formed 182 = .ok (.imul, 1) := by decide +kernel
theorem d_MD_formed_183 : decode b_MD_formed 183 = .ok (.istore_n 3, 1) := by decide +kernel
theorem d_MD_formed_184 : decode b_MD_formed 184 = .ok (.iload_n 3, 1) := by decide +kernel
theorem d_MD_formed_185 : decode b_MD_formed 185 = .ok (.bipush 20, 2) := by decide +kernel
theorem d_MD_formed_187 : decode b_MD_formed 187 = .ok (.iload_n 1, 1) := by decide +kernel
theorem d_MD_formed_188 : decode b_MD_formed 188 = .ok (.imul, 1) := by decide +kernel
theorem d_MD_formed_189 : decode b_MD_formed 189 = .ok (.iconst 4, 1) := by decide +kernel
theorem d_MD_formed_190 : decode b_MD_formed 190 = .ok (.aload_n 0, 1) := by decide +kernel
theorem d_MD_formed_191 : decode b_MD_formed 191 = .ok (.getfield 31, 3) := by decide +kernel
theorem d_MD_formed_194 : decode b_MD_formed 194 = .ok (.iload_n 1, 1) := by decide +kernel
theorem d_MD_formed_195 : decode b_MD_formed 195 = .ok (.iaload, 1) := by decide +kernel
theorem d_MD_formed_196 : decode b_MD_formed 196 = .ok (.imul, 1) := by decide +kernel
theorem d_MD_formed_197 : decode b_MD_formed 197 = .ok (.iadd, 1) := by decide +kernel
theorem d_MD_formed_198 : decode b_MD_formed 198 = .ok (.if_icmp .ge 111, 3) := by decide +kernel
theorem d_MD_formed_201 : decode b_MD_formed 201 = .ok (.aload_n 0, 1) := by decide +kernel
theorem d_MD_formed_202 : decode b_MD_formed 202 = .ok (.getfield 34, 3) := by decide +kernel
theorem d_MD_formed_205 : decode b_MD_formed 205 = .ok (.iload_n 3, 1) := by decide +kernel
theorem d_MD_formed_206 : decode b_MD_formed 206 = .ok (.iconst 1, 1) := by decide +kernel
theorem d_MD_formed_207 : decode b_MD_formed 207 = .ok (.iadd, 1) := by decide +kernel
theorem d_MD_formed_208 : decode b_MD_formed 208 = .ok (.iaload, 1) := by decide +kernel
theorem d_MD_formed_209 : decode b_MD_formed 209 = .ok (.aload_n 0, 1) := by decide +kernel
theorem d_MD_formed_210 : decode b_MD_formed 210 = .ok (.getfield 25, 3) := by decide +kernel
theorem d_MD_formed_213 : decode b_MD_formed 213 = .ok (.iload_n 1, 1) := by decide +kernel
theorem d_MD_formed_214 : decode b_MD_formed 214 = .ok (.iaload, 1) := by decide +kernel
theorem d_MD_formed_215 : decode b_MD_formed 215 = .ok (.if_icmp .eq 19, 3) := by decide +kernel
theorem d_MD_formed_218 : decode b_MD_formed 218 = .ok (.aload_n 0, 1) := by decide +kernel
theorem d_MD_formed_219 : decode b_MD_formed 219 = .ok (.iload_n 1, 1) := by decide +kernel
theorem d_MD_formed_220 : decode b_MD_formed 220 = .ok (.aload_n 0, 1) := by decide +kernel
theorem d_MD_formed_221 : decode b_MD_formed 221 = .ok (.getfield 34, 3) := by decide +kernel
theorem d_MD_formed_224 : decode b_MD_formed 224 = .ok (.iload_n 3, 1) := by decide +kernel
theorem d_MD_formed_225 : decode b_MD_formed 225 = .ok (.iconst 1, 1) := by decide +kernel
theorem d_MD_formed_226 : decode b_MD_formed 226 = .ok (.iadd, 1) := by decide +kernel
theorem d_MD_formed_227 : decode b_MD_formed 227 = .ok (.iaload, 1) := by decide +kernel
theorem d_MD_formed_228 : decode b_MD_formed 228 = .ok (.invokevirtual 125, 3) := by decide +kernel
theorem d_MD_formed_231 : decode b_MD_formed 231 = .ok (.ifCond .eq 7, 3) := by decide +kernel
theorem d_MD_formed_234 : decode b_MD_formed 234 = .ok (.iconst 1, 1) := by decide +kernel
theorem d_MD_formed_235 : decode b_MD_formed 235 = .ok (.goto 4, 3) := by decide +kernel
theorem d_MD_formed_238 : decode b_MD_formed 238 = .ok (.iconst 0, 1) := by decide +kernel
theorem d_MD_formed_239 : decode b_MD_formed 239 = .ok (.istore 4, 2) := by decide +kernel
theorem d_MD_formed_241 : decode b_MD_formed 241 = .ok (.iload_n 2, 1) := by decide +kernel
theorem d_MD_formed_242 : decode b_MD_formed 242 = .ok (.ifCond .eq 59, 3) := by decide +kernel
theorem d_MD_formed_245 : decode b_MD_formed 245 = .ok (.aload_n 0, 1) := by decide +kernel
theorem d_MD_formed_246 : decode b_MD_formed 246 = .ok (.iload_n 1, 1) := by decide +kernel
theorem d_MD_formed_247 : decode b_MD_formed 247 = .ok (.aload_n 0, 1) := by decide +kernel
theorem d_MD_formed_248 : decode b_MD_formed 248 = .ok (.getfield 34, 3) := by decide +kernel
theorem d_MD_formed_251 : decode b_MD_formed 251 = .ok (.iload_n 3, 1) := by decide +kernel
theorem d_MD_formed_252 : decode b_MD_formed 252 = .ok (.iaload, 1) := by decide +kernel
theorem d_MD_formed_253 : decode b_MD_formed 253 = .ok (.invokevirtual 125, 3) := by decide +kernel
theorem d_MD_formed_256 : decode b_MD_formed 256 = .ok (.ifCond .eq 45, 3) := by decide +kernel
theorem d_MD_formed_259 : decode b_MD_formed 259 = .ok (.aload_n 0, 1) := by decide +kernel
theorem d_MD_formed_260 : decode b_MD_formed 260 = .ok (.iload_n 1, 1) := by decide +kernel
theorem d_MD_formed_261 : decode b_MD_formed 261 = .ok (.aload_n 0, 1) := by decide +kernel
theorem d_MD_formed_262 : decode b_MD_formed 262 = .ok (.getfield 34, 3) := by decide +kernel
theorem d_MD_formed_265 : decode b_MD_formed 265 = .ok (.iload_n 3, 1) := by decide +kernel
theorem d_MD_formed_266 : decode b_MD_formed 266 = .ok (.iconst 2, 1) := by decide +kernel
theorem d_MD_formed_267 : decode b_MD_formed 267 = .ok (.iadd, 1) := by decide +kernel
theorem d_MD_formed_268 : decode b_MD_formed 268 = .ok (.iaload, 1) := by decide +kernel
theorem d_MD_formed_269 : decode b_MD_formed 269 = .ok (.invokevirtual 125, 3) := by decide +kernel
theorem d_MD_formed_272 : decode b_MD_formed 272 = .ok (.ifCond .eq 29, 3) := by decide +kernel
theorem d_MD_formed_275 : decode b_MD_formed 275 = .ok (.iload 4, 2) := by decide +kernel
theorem d_MD_formed_277 : decode b_MD_formed 277 = .ok (.ifCond .eq 24, 3) := by decide +kernel
theorem d_MD_formed_280 : decode b_MD_formed 280 = .ok (.aload_n 0, 1) := by decide +kernel
theorem d_MD_formed_281 : decode b_MD_formed 281 = .ok (.getfield 34, 3) := by decide +kernel
theorem d_MD_formed_284 : decode b_MD_formed 284 = .ok (.iload_n 3, 1) := by decide +kernel
theorem d_MD_formed_285 : decode b_MD_formed 285 = .ok (.iconst 1, 1) := by decide +kernel
theorem d_MD_formed_286 : decode b_MD_formed 286 = .ok (.iadd, 1) := by decide +kernel
theorem d_MD_formed_287 : decode b_MD_formed 287 = .ok (.iaload, 1) := by decide +kernel
theorem d_MD_formed_288 : decode b_MD_formed 288 = .ok (.aload_n 0, 1) := by decide +kernel
theorem d_MD_formed_289 : decode b_MD_formed 289 = .ok (.getfield 34, 3) := by decide +kernel
theorem d_MD_formed_292 : decode b_MD_formed 292 = .ok (.iload_n 3, 1) := by decide +kernel
theorem d_MD_formed_293 : decode b_MD_formed 293 = .ok (.iaload, 1) := by decide +kernel
theorem d_MD_formed_294 : decode b_MD_formed 294 = .ok (.if_icmp .le 7, 3) := by decide +kernel
theorem d_MD_formed_297 : decode b_MD_formed 297 = .ok (.iconst 1, 1) := by decide +kernel
theorem d_MD_formed_298 : decode b_MD_formed 298 = .ok (.goto 4, 3) := by decide +kernel
theorem d_MD_formed_301 : decode b_MD_formed 301 = .ok (.iconst 0, 1) := by decide +kernel
theorem d_MD_formed_302 : decode b_MD_formed 302 = .ok (.istore_n 2, 1) := by decide +kernel
theorem d_MD_formed_303 : decode b_MD_formed 303 = .ok (.iinc 3 4, 3) := by decide +kernel
theorem d_MD_formed_306 : decode b_MD_formed 306 = .ok (.goto (-122), 3) := by decide +kernel
theorem d_MD_formed_309 : decode b_MD_formed 309 = .ok (.iload_n 2, 1) := by decide +kernel
theorem d_MD_formed_310 : decode b_MD_formed 310 = .ok (.ireturn, 1) := by decide +kernel
def f_MD_outside (fu : Nat) (s0 : xw_S) (p0 : Int) (p1 : Int) (p2 : Int) : Option (xw_S × Int) :=
 xw_jn (fun (s5 : xw_S) => some (s5, 1))
 (fun (j10 : xw_S → Option (xw_S × Int)) => xw_grd (xw_r p0 ∧ xw_r p1) (xw_if (p0 < p1) (j10 s0)
 (xw_grd (xw_r p2) (xw_if (p0 ≤ p2) (some (s0, 0))
 (j10 s0)))))
set_option maxRecDepth 100000 in
set_option maxHeartbeats 4000000 in
theorem c_MD_outside (l : Launch) (D : va_G) (A : Nat → Prop) (ad : Nat → Nat) (cs : Nat → ClassId) (Z : va_W) (tt : Nat → Nat) (fu : Nat) (s0 sZ : xw_S) (p0 : Int) (p1 : Int) (p2 : Int) (r0 : Int) (h : f_MD_outside fu s0 p0 p1 p2 = some (sZ, r0)) : Met l y_MD_outside w_MD_outside ({ frames := 0, cells := 0, slots := 0, locals := 0 }) (va_Pc [.int (xw_i p0), .int (xw_i p1), .int (xw_i p2)] (xw_H D vwCl A kdR 29 ad cs Z tt s0)) (va_Qi (fun r u => r = xw_i r0 ∧ u = sZ) (xw_H D vwCl A kdR 29 ad cs Z tt) A) 0 0 A := by
  refine Met.ofW (cc := b_MD_outside) (maxL := 3) (ret := (some .boolean)) (by decide) rfl ?_
  intro p e s m args below meth c s₁ B hml hv
  obtain ⟨rfl, hP, hK, hD, hX⟩ := hv
  have hx := B.exec
  have hb := B.bytes
  have hr := B.returns
  have hts0 := atoms_spec (ws := w_MD_outside) B.pre
  have hts := fun w (hw : w ∈ wAll) => hts0 w (List.mem_cons_of_mem _ hw)
  have hown : s.vm.findClass "AdviceWeaverModel" = some m.cls := findClass_of_methodNamed B.named
  have hlk := B.notSynchronized
  clear hts0 B
  have hS : va_S A s.heap s.heap [] := va_S.rf
  have hl := lv_entry [.int (xw_i p0), .int (xw_i p1), .int (xw_i p2)] (n := 3) (Nat.le_of_ble_eq_true rfl)
  rw [lg_entry_eq]
  generalize (lg_sl [.int (xw_i p0), .int (xw_i p1), .int (xw_i p2)] ++ List.replicate (3 - (lg_sl [.int (xw_i p0), .int (xw_i p1), .int (xw_i p2)]).length) Slot.unset).toArray = ls at hl ⊢
  have hl : lv_has ls 3 [(0, .int (xw_i p0)), (1, .int (xw_i p1)), (2, .int (xw_i p2))] := hl
  unfold f_MD_outside at h
  refine lv_iload_n hx hb d_MD_outside_0 rfl (lv_at hl 0 rfl) ?_
  refine lv_iload_n hx hb d_MD_outside_1 rfl (lv_at hl 1 rfl) ?_
  refine xw_jnI (fun j => ∀ (sq : xw_S), j sq = some (sZ, r0) → ∀ (H : Heap) (locs : List Loc) (ls : Array Slot), va_P D vwCl (xw_ws kdR 29 ad cs Z sq) H → va_S A s.heap H locs → lv_has ls 3 [] → W p l e (headSpec w_MD_outside ({ frames := 0, cells := 0, slots := 0, locals := 0 })).room s m [.int (xw_i p0), .int (xw_i p1), .int (xw_i p2)].toArray below meth c H locs 0 0 (MQ below (va_Qi (fun r u => r = xw_i r0 ∧ u = sZ) (xw_H D vwCl A kdR 29 ad cs Z tt) A) [.int (xw_i p0), .int (xw_i p1), .int (xw_i p2)].toArray s 0 0 A) (F0 m 10 ls [])) h ?_ ?_
  · intro s5 h H locs ls hP hS hl
    refine lv_iconst (v := xw_i 1) hx hb d_MD_outside_10 rfl ?_
    refine lv_goto (tgt := 15) hx hb d_MD_outside_11 (by decide) ?_
    exact xw_zretE hx hb hr hlk hP hK hD hX hS h (by decide) d_MD_outside_15
  · intro j10 hj10 h
    obtain ⟨hg1, h⟩ := xw_grdI h
    refine xw_icmp_lt (tgt := 10) hx hb hg1.1 hg1.2 d_MD_outside_2 (by decide) (fun hc2 => ?_) (fun hc2 => ?_)
    · replace h := xw_ifT hc2 h
      exact hj10 s0 h _ _ _ hP hS (lv_sub hl [] rfl)
    · replace h := xw_ifF hc2 h
      refine lv_iload_n hx hb d_MD_outside_5 rfl (lv_at hl 0 rfl) ?_
      refine lv_iload_n hx hb d_MD_outside_6 rfl (lv_at hl 2 rfl) ?_
      obtain ⟨hg3, h⟩ := xw_grdI h
      refine xw_icmp_le (tgt := 14) hx hb hg1.1 hg3 d_MD_outside_7 (by decide) (fun hc4 => ?_) (fun hc4 => ?_)
      · replace h := xw_ifT hc4 h
        refine lv_iconst (v := xw_i 0) hx hb d_MD_outside_14 rfl ?_
        exact xw_zretE hx hb hr hlk hP hK hD hX hS h (by decide) d_MD_outside_15
      · replace h := xw_ifF hc4 h
        exact hj10 s0 h _ _ _ hP hS (lv_sub hl [] rfl)
def lp_MD_put_27 (fu : Nat) (c1_27 : Int) (k66 : xw_S → Option (xw_S × Int)) : Nat → xw_S → Int → Option (xw_S × Int)
  | 0, _, _ => none
  | n + 1, s10, i3_27 =>
    xw_grd (xw_r i3_27) (xw_if (i3_27 < 0) (k66 s10)
     (xw_grd ((0 ≤ s10.1 0 1 ∧ s10.1 0 1 < ((240 : Nat) : Int))) (xw_let (xw_st s10 1 (s10.1 0 1).toNat (xw_an (xw_hr c1_27 (8 * i3_27)) 255)) (fun s14 => xw_let (xw_st s14 0 1 ((s14.1 0 1) + 1)) (fun s16 => xw_let (i3_27 + (-1)) (fun v18 => lp_MD_put_27 fu c1_27 k66 n s16 v18))))))
def f_MD_put (fu : Nat) (s0 : xw_S) (p1 : Int) (p2 : Int) : Option (xw_S × Int) :=
 xw_bn2 (f_MD_outside fu s0 p2 1 4) (fun s1 r3 => xw_grd (xw_r r3) (xw_if (r3 = 0) (xw_grd (xw_r ((s1.1 0 1) + p2)) (xw_if ((s1.1 0 1) + p2 ≤ 240) (xw_let (p2 - 1) (fun v8 => xw_jn (fun (s20 : xw_S) => some (s20, 1))
 (fun (k66 : xw_S → Option (xw_S × Int)) => lp_MD_put_27 fu p1 k66 fu s1 v8)))
 (some (s1, 0))))
 (some (s1, 0))))
set_option maxRecDepth 100000 in
set_option maxHeartbeats 4000000 in
theorem c_MD_put (l : Launch) (D : va_G) (A : Nat → Prop) (ad : Nat → Nat) (cs : Nat → ClassId) (Z : va_W) (tt : Nat → Nat) (fu : Nat) (s0 sZ : xw_S) (p1 : Int) (p2 : Int) (r0 : Int) (h : f_MD_put fu s0 p1 p2 = some (sZ, r0)) : Met l y_MD_put w_MD_put ({ frames := 1, cells := 0, slots := 0, locals := 22 }) (va_Pc [.ref (ad 0), .int (xw_i p1), .int (xw_i p2)] (xw_H D vwCl A kdR 29 ad cs Z tt s0)) (va_Qi (fun r u => r = xw_i r0 ∧ u = sZ) (xw_H D vwCl A kdR 29 ad cs Z tt) A) 0 0 A := by
  refine Met.ofW (cc := b_MD_put) (maxL := 4) (ret := (some .boolean)) (by decide) rfl ?_
  intro p e s m args below meth c s₁ B hml hv
  obtain ⟨rfl, hP, hK, hD, hX⟩ := hv
  have hx := B.exec
  have hb := B.bytes
  have hr := B.returns
  have hts0 := atoms_spec (ws := w_MD_put) B.pre
  have hts := fun w (hw : w ∈ wAll) => hts0 w (List.mem_cons_of_mem _ hw)
  have hown : s.vm.findClass "AdviceWeaverModel" = some m.cls := findClass_of_methodNamed B.named
  have hlk := B.notSynchronized
  clear hts0 B
  have hS : va_S A s.heap s.heap [] := va_S.rf
  have hl := lv_entry [.ref (ad 0), .int (xw_i p1), .int (xw_i p2)] (n := 4) (Nat.le_of_ble_eq_true rfl)
  rw [lg_entry_eq]
  generalize (lg_sl [.ref (ad 0), .int (xw_i p1), .int (xw_i p2)] ++ List.replicate (4 - (lg_sl [.ref (ad 0), .int (xw_i p1), .int (xw_i p2)]).length) Slot.unset).toArray = ls at hl ⊢
  have hl : lv_has ls 4 [(0, .ref (ad 0)), (1, .int (xw_i p1)), (2, .int (xw_i p2))] := hl
  have hlp27 : ∀ (c1_27 : Int) (k66 : xw_S → Option (xw_S × Int)) (hk66 : ∀ (sq : xw_S), k66 sq = some (sZ, r0) → ∀ (H : Heap) (locs : List Loc) (ls : Array Slot), va_P D vwCl (xw_ws kdR 29 ad cs Z sq) H → va_S A s.heap H locs → lv_has ls 4 [] → W p l e (headSpec w_MD_put ({ frames := 1, cells := 0, slots := 0, locals := 22 })).room s m [.ref (ad 0), .int (xw_i p1), .int (xw_i p2)].toArray below meth c H locs 0 0 (MQ below (va_Qi (fun r u => r = xw_i r0 ∧ u = sZ) (xw_H D vwCl A kdR 29 ad cs Z tt) A) [.ref (ad 0), .int (xw_i p1), .int (xw_i p2)].toArray s 0 0 A) (F0 m 66 ls [])) (n : Nat), ∀ (sq : xw_S) (i3_27 : Int), lp_MD_put_27 fu c1_27 k66 n sq i3_27 = some (sZ, r0) → ∀ (H : Heap) (locs : List Loc) (ls : Array Slot), va_P D vwCl (xw_ws kdR 29 ad cs Z sq) H → va_S A s.heap H locs → lv_has ls 4 [(0, .ref (ad 0)), (1, .int (xw_i c1_27)), (3, .int (xw_i i3_27))] → W p l e (headSpec w_MD_put ({ frames := 1, cells := 0, slots := 0, locals := 22 })).room s m [.ref (ad 0), .int (xw_i p1), .int (xw_i p2)].toArray below meth c H locs 0 0 (MQ below (va_Qi (fun r u => r = xw_i r0 ∧ u = sZ) (xw_H D vwCl A kdR 29 ad cs Z tt) A) [.ref (ad 0), .int (xw_i p1), .int (xw_i p2)].toArray s 0 0 A) (F0 m 27 ls []) := by
    intro c1_27 k66 hk66 n
    induction n with
    | zero =>
      intro sq i3_27 h
      cases (show (none : Option (xw_S × Int)) = some (sZ, r0) from h)
    | succ n ih27 =>
      intro s10 i3_27 h H locs ls hP hS hl
      unfold lp_MD_put_27 at h
      refine lv_iload_n hx hb d_MD_put_27 rfl (lv_at hl 2 rfl) ?_
      obtain ⟨hg11, h⟩ := xw_grdI h
      refine xw_if_lt (tgt := 66) hx hb hg11 d_MD_put_28 (by decide) (fun hc12 => ?_) (fun hc12 => ?_)
      · replace h := xw_ifT hc12 h
        exact hk66 s10 h _ _ _ hP hS (lv_sub hl [] rfl)
      · replace h := xw_ifF hc12 h
        refine lv_aload_n hx hb d_MD_put_31 rfl (lv_at hl 0 rfl) ?_
        refine xw_getR (C := "AdviceWeaverModel") (T := T_MD) hx hb hts hin_MD hown hK hP (by decide) kr_MD (by decide) rfl 0 (by decide) (hts _ hw_436) (fun _ h9 => h9) rfl d_MD_put_32 ?_
        refine lv_aload_n hx hb d_MD_put_35 rfl (lv_at hl 0 rfl) ?_
        refine xw_getI (C := "AdviceWeaverModel") (T := T_MD) hx hb hts hin_MD hown hK hP (by decide) kr_MD (by decide) rfl 1 (by decide) (hts _ hw_435) (fun _ h9 => h9) rfl d_MD_put_36 ?_
        refine lv_iload_n hx hb d_MD_put_39 rfl (lv_at hl 1 rfl) ?_
        refine lv_bipush (v := xw_i 8) hx hb d_MD_put_40 (by decide) ?_
        refine lv_iload_n hx hb d_MD_put_42 rfl (lv_at hl 2 rfl) ?_
        refine xw_imul hx hb d_MD_put_43 ?_
        refine xw_ishr hx hb d_MD_put_44 ?_
        refine lv_sipush (v := xw_i 255) hx hb d_MD_put_45 (by decide) ?_
        refine xw_iand hx hb d_MD_put_48 ?_
        obtain ⟨hg13, h⟩ := xw_grdI h
        refine xw_iast hx hb hK hP hD hS (by decide) kr_m_bytes (by decide) hg13 d_MD_put_49 (fun s14 e15 H locs hP hS => ?_)
        replace h := xw_letI e15 h
        refine lv_aload_n hx hb d_MD_put_50 rfl (lv_at hl 0 rfl) ?_
        refine lv_dup hx hb d_MD_put_51 rfl ?_
        refine xw_getI (C := "AdviceWeaverModel") (T := T_MD) hx hb hts hin_MD hown hK hP (by decide) kr_MD (by decide) rfl 1 (by decide) (hts _ hw_435) (fun _ h9 => h9) rfl d_MD_put_52 ?_
        refine lv_iconst (v := xw_i 1) hx hb d_MD_put_55 rfl ?_
        refine xw_iadd hx hb d_MD_put_56 ?_
        refine xw_putI (C := "AdviceWeaverModel") (T := T_MD) hx hb hts hin_MD ty_MD ty_MD_ok nm_MD hown hK hP hD hS (by decide) kr_MD (by decide) rfl 1 (by decide) (hts _ hw_435) (fun _ h9 => h9) rfl (by decide +kernel) rfl d_MD_put_57 (fun s16 e17 H locs hP hS => ?_)
        replace h := xw_letI e17 h
        obtain ⟨v18, e19⟩ : ∃ z, z = i3_27 + (-1) := ⟨_, rfl⟩
        replace h := xw_letI e19 h
        refine xw_iinc (lv' := [(3, .int (xw_i v18)), (0, .ref (ad 0)), (1, .int (xw_i c1_27))]) hx hb d_MD_put_60 hl (k := 2) rfl (by decide) (by rw [e19]; rfl) (fun ls hl => ?_)
        refine lv_goto (tgt := 27) hx hb d_MD_put_63 (by decide) ?_
        exact ih27 s16 v18 h _ _ _ hP hS (lv_sub hl [1, 2, 0] rfl)
  unfold f_MD_put at h
  refine lv_iload_n hx hb d_MD_put_0 rfl (lv_at hl 2 rfl) ?_
  refine lv_iconst (v := xw_i 1) hx hb d_MD_put_1 rfl ?_
  refine lv_iconst (v := xw_i 4) hx hb d_MD_put_2 rfl ?_
  obtain ⟨s1, r3, hc2, h⟩ := xw_bn2I h
  refine xw_callSi ⟨hx, hb, hml, hown, hts⟩ (c_MD_outside l D A ad cs Z tt fu s0 s1 p2 1 4 r3 hc2) (va_cwS 3 hts (gd_S hw_431 hw_432 hw_433 hw_434) rfl rfl rfl (by decide +kernel) ⟨Nat.le_of_ble_eq_true rfl, Nat.le_of_ble_eq_true rfl⟩) hP hK hD hX hS rfl hl.1 rfl (Nat.le_of_ble_eq_true rfl) d_MD_put_3 (fun H locs hP hS => ?_)
  obtain ⟨hg4, h⟩ := xw_grdI h
  refine xw_if_ne (tgt := 21) hx hb hg4 d_MD_put_6 (by decide) (fun hc5 => ?_) (fun hc5 => ?_)
  · replace h := xw_ifF hc5 h
    refine lv_iconst (v := xw_i 0) hx hb d_MD_put_21 rfl ?_
    exact xw_zretE hx hb hr hlk hP hK hD hX hS h (by decide) d_MD_put_22
  · replace h := xw_ifT hc5 h
    refine lv_aload_n hx hb d_MD_put_9 rfl (lv_at hl 0 rfl) ?_
    refine xw_getI (C := "AdviceWeaverModel") (T := T_MD) hx hb hts hin_MD hown hK hP (by decide) kr_MD (by decide) rfl 1 (by decide) (hts _ hw_435) (fun _ h9 => h9) rfl d_MD_put_10 ?_
    refine lv_iload_n hx hb d_MD_put_13 rfl (lv_at hl 2 rfl) ?_
    refine xw_iadd hx hb d_MD_put_14 ?_
    refine lv_sipush (v := xw_i 240) hx hb d_MD_put_15 (by decide) ?_
    obtain ⟨hg6, h⟩ := xw_grdI h
    refine xw_icmp_le (tgt := 23) hx hb hg6 (by decide) d_MD_put_18 (by decide) (fun hc7 => ?_) (fun hc7 => ?_)
    · replace h := xw_ifT hc7 h
      refine lv_iload_n hx hb d_MD_put_23 rfl (lv_at hl 2 rfl) ?_
      refine lv_iconst (v := xw_i 1) hx hb d_MD_put_24 rfl ?_
      refine xw_isub hx hb d_MD_put_25 ?_
      refine xw_topi (fun v8 e9 => ?_)
      replace h := xw_letI e9 h
      refine lv_istore_n hx hb d_MD_put_26 rfl hl (by decide) rfl (fun ls hl => ?_)
      refine xw_jnI (fun j => ∀ (sq : xw_S), j sq = some (sZ, r0) → ∀ (H : Heap) (locs : List Loc) (ls : Array Slot), va_P D vwCl (xw_ws kdR 29 ad cs Z sq) H → va_S A s.heap H locs → lv_has ls 4 [] → W p l e (headSpec w_MD_put ({ frames := 1, cells := 0, slots := 0, locals := 22 })).room s m [.ref (ad 0), .int (xw_i p1), .int (xw_i p2)].toArray below meth c H locs 0 0 (MQ below (va_Qi (fun r u => r = xw_i r0 ∧ u = sZ) (xw_H D vwCl A kdR 29 ad cs Z tt) A) [.ref (ad 0), .int (xw_i p1), .int (xw_i p2)].toArray s 0 0 A) (F0 m 66 ls [])) h ?_ ?_
      · intro s20 h H locs ls hP hS hl
        refine lv_iconst (v := xw_i 1) hx hb d_MD_put_66 rfl ?_
        exact xw_zretE hx hb hr hlk hP hK hD hX hS h (by decide) d_MD_put_67
      · intro k66 hk66 h
        exact hlp27 p1 k66 hk66 fu s1 v8 h _ _ _ hP hS (lv_sub hl [1, 2, 0] rfl)
    · replace h := xw_ifF hc7 h
      refine lv_iconst (v := xw_i 0) hx hb d_MD_put_21 rfl ?_
      exact xw_zretE hx hb hr hlk hP hK hD hX hS h (by decide) d_MD_put_22
def f_MD_clear (fu : Nat) (s0 : xw_S) : Option xw_S :=
 xw_let (xw_st s0 0 1 0) (fun s1 => some s1)
set_option maxRecDepth 100000 in
set_option maxHeartbeats 4000000 in
theorem c_MD_clear (l : Launch) (D : va_G) (A : Nat → Prop) (ad : Nat → Nat) (cs : Nat → ClassId) (Z : va_W) (tt : Nat → Nat) (fu : Nat) (s0 sZ : xw_S) (h : f_MD_clear fu s0 = some sZ) : Met l y_MD_clear w_MD_clear ({ frames := 0, cells := 0, slots := 0, locals := 0 }) (va_Pc [.ref (ad 0)] (xw_H D vwCl A kdR 29 ad cs Z tt s0)) (va_Qv (fun u => u = sZ) (xw_H D vwCl A kdR 29 ad cs Z tt) A) 0 0 A := by
  refine Met.ofW (cc := b_MD_clear) (maxL := 1) (ret := none) (by decide) rfl ?_
  intro p e s m args below meth c s₁ B hml hv
  obtain ⟨rfl, hP, hK, hD, hX⟩ := hv
  have hx := B.exec
  have hb := B.bytes
  have hr := B.returns
  have hts0 := atoms_spec (ws := w_MD_clear) B.pre
  have hts := fun w (hw : w ∈ wAll) => hts0 w (List.mem_cons_of_mem _ hw)
  have hown : s.vm.findClass "AdviceWeaverModel" = some m.cls := findClass_of_methodNamed B.named
  have hlk := B.notSynchronized
  clear hts0 B
  have hS : va_S A s.heap s.heap [] := va_S.rf
  have hl := lv_entry [.ref (ad 0)] (n := 1) (Nat.le_of_ble_eq_true rfl)
  rw [lg_entry_eq]
  generalize (lg_sl [.ref (ad 0)] ++ List.replicate (1 - (lg_sl [.ref (ad 0)]).length) Slot.unset).toArray = ls at hl ⊢
  have hl : lv_has ls 1 [(0, .ref (ad 0))] := hl
  unfold f_MD_clear at h
  refine lv_aload_n hx hb d_MD_clear_0 rfl (lv_at hl 0 rfl) ?_
  refine lv_iconst (v := xw_i 0) hx hb d_MD_clear_1 rfl ?_
  refine xw_putI (C := "AdviceWeaverModel") (T := T_MD) hx hb hts hin_MD ty_MD ty_MD_ok nm_MD hown hK hP hD hS (by decide) kr_MD (by decide) rfl 1 (by decide) (hts _ hw_435) (fun _ h9 => h9) rfl (by decide +kernel) rfl d_MD_clear_2 (fun s1 e2 H locs hP hS => ?_)
  replace h := xw_letI e2 h
  exact xw_vretE hx hb hr hlk hP hK hD hX hS h d_MD_clear_5
def f_MD_next (fu : Nat) (s0 : xw_S) (p1 : Int) (p2 : Int) : Option (xw_S × Int) :=
 xw_jn (fun (s4 : xw_S) (t0_24 : Int) => xw_jn (fun (s14 : xw_S) (i3_49 : Int) => xw_let (xw_st s14 0 13 ((s14.1 0 13) + 1)) (fun s15 => some (s15, i3_49)))
 (fun (j49 : xw_S → Int → Option (xw_S × Int)) => xw_grd (xw_r (s4.1 0 14)) (xw_if (0 ≤ s4.1 0 14) (j49 s4 t0_24)
 (xw_bn2 (f_MD_outside fu s4 t0_24 p1 p2) (fun s7 r9 => xw_grd (xw_r r9) (xw_if (r9 = 0) (j49 s7 t0_24)
 (xw_let (xw_st s7 0 14 (s7.1 0 13)) (fun s12 => j49 s12 t0_24))))))))
 (fun (j24 : xw_S → Int → Option (xw_S × Int)) => xw_grd (xw_r (s0.1 0 13) ∧ xw_r (s0.1 0 1)) (xw_if (s0.1 0 1 ≤ s0.1 0 13) (j24 s0 (-1))
 (xw_grd ((0 ≤ s0.1 0 13 ∧ s0.1 0 13 < ((240 : Nat) : Int))) (j24 s0 (s0.1 1 (s0.1 0 13).toNat)))))
set_option maxRecDepth 100000 in
set_option maxHeartbeats 4000000 in
theorem c_MD_next (l : Launch) (D : va_G) (A : Nat → Prop) (ad : Nat → Nat) (cs : Nat → ClassId) (Z : va_W) (tt : Nat → Nat) (fu : Nat) (s0 sZ : xw_S) (p1 : Int) (p2 : Int) (r0 : Int) (h : f_MD_next fu s0 p1 p2 = some (sZ, r0)) : Met l y_MD_next w_MD_next ({ frames := 1, cells := 0, slots := 0, locals := 22 }) (va_Pc [.ref (ad 0), .int (xw_i p1), .int (xw_i p2)] (xw_H D vwCl A kdR 29 ad cs Z tt s0)) (va_Qi (fun r u => r = xw_i r0 ∧ u = sZ) (xw_H D vwCl A kdR 29 ad cs Z tt) A) 0 0 A := by
  refine Met.ofW (cc := b_MD_next) (maxL := 4) (ret := (some .int)) (by decide) rfl ?_
  intro p e s m args below meth c s₁ B hml hv
  obtain ⟨rfl, hP, hK, hD, hX⟩ := hv
  have hx := B.exec
  have hb := B.bytes
  have hr := B.returns
  have hts0 := atoms_spec (ws := w_MD_next) B.pre
  have hts := fun w (hw : w ∈ wAll) => hts0 w (List.mem_cons_of_mem _ hw)
  have hown : s.vm.findClass "AdviceWeaverModel" = some m.cls := findClass_of_methodNamed B.named
  have hlk := B.notSynchronized
  clear hts0 B
  have hS : va_S A s.heap s.heap [] := va_S.rf
  have hl := lv_entry [.ref (ad 0), .int (xw_i p1), .int (xw_i p2)] (n := 4) (Nat.le_of_ble_eq_true rfl)
  rw [lg_entry_eq]
  generalize (lg_sl [.ref (ad 0), .int (xw_i p1), .int (xw_i p2)] ++ List.replicate (4 - (lg_sl [.ref (ad 0), .int (xw_i p1), .int (xw_i p2)]).length) Slot.unset).toArray = ls at hl ⊢
  have hl : lv_has ls 4 [(0, .ref (ad 0)), (1, .int (xw_i p1)), (2, .int (xw_i p2))] := hl
  unfold f_MD_next at h
  refine lv_aload_n hx hb d_MD_next_0 rfl (lv_at hl 0 rfl) ?_
  refine xw_getI (C := "AdviceWeaverModel") (T := T_MD) hx hb hts hin_MD hown hK hP (by decide) kr_MD (by decide) rfl 13 (by decide) (hts _ hw_437) (fun _ h9 => h9) rfl d_MD_next_1 ?_
  refine lv_aload_n hx hb d_MD_next_4 rfl (lv_at hl 0 rfl) ?_
  refine xw_getI (C := "AdviceWeaverModel") (T := T_MD) hx hb hts hin_MD hown hK hP (by decide) kr_MD (by decide) rfl 1 (by decide) (hts _ hw_435) (fun _ h9 => h9) rfl d_MD_next_5 ?_
  refine xw_jnI (fun j => ∀ (sq : xw_S) (t0_24 : Int), j sq t0_24 = some (sZ, r0) → ∀ (H : Heap) (locs : List Loc) (ls : Array Slot), va_P D vwCl (xw_ws kdR 29 ad cs Z sq) H → va_S A s.heap H locs → lv_has ls 4 [(0, .ref (ad 0)), (1, .int (xw_i p1)), (2, .int (xw_i p2))] → W p l e (headSpec w_MD_next ({ frames := 1, cells := 0, slots := 0, locals := 22 })).room s m [.ref (ad 0), .int (xw_i p1), .int (xw_i p2)].toArray below meth c H locs 0 0 (MQ below (va_Qi (fun r u => r = xw_i r0 ∧ u = sZ) (xw_H D vwCl A kdR 29 ad cs Z tt) A) [.ref (ad 0), .int (xw_i p1), .int (xw_i p2)].toArray s 0 0 A) (F0 m 24 ls [.int (xw_i t0_24)])) h ?_ ?_
  · intro s4 t0_24 h H locs ls hP hS hl
    refine lv_istore_n hx hb d_MD_next_24 rfl hl (by decide) rfl (fun ls hl => ?_)
    refine lv_aload_n hx hb d_MD_next_25 rfl (lv_at hl 1 rfl) ?_
    refine xw_getI (C := "AdviceWeaverModel") (T := T_MD) hx hb hts hin_MD hown hK hP (by decide) kr_MD (by decide) rfl 14 (by decide) (hts _ hw_438) (fun _ h9 => h9) rfl d_MD_next_26 ?_
    refine xw_jnI (fun j => ∀ (sq : xw_S) (i3_49 : Int), j sq i3_49 = some (sZ, r0) → ∀ (H : Heap) (locs : List Loc) (ls : Array Slot), va_P D vwCl (xw_ws kdR 29 ad cs Z sq) H → va_S A s.heap H locs → lv_has ls 4 [(0, .ref (ad 0)), (3, .int (xw_i i3_49))] → W p l e (headSpec w_MD_next ({ frames := 1, cells := 0, slots := 0, locals := 22 })).room s m [.ref (ad 0), .int (xw_i p1), .int (xw_i p2)].toArray below meth c H locs 0 0 (MQ below (va_Qi (fun r u => r = xw_i r0 ∧ u = sZ) (xw_H D vwCl A kdR 29 ad cs Z tt) A) [.ref (ad 0), .int (xw_i p1), .int (xw_i p2)].toArray s 0 0 A) (F0 m 49 ls [])) h ?_ ?_
    · intro s14 i3_49 h H locs ls hP hS hl
      refine lv_aload_n hx hb d_MD_next_49 rfl (lv_at hl 0 rfl) ?_
      refine lv_dup hx hb d_MD_next_50 rfl ?_
      refine xw_getI (C := "AdviceWeaverModel") (T := T_MD) hx hb hts hin_MD hown hK hP (by decide) kr_MD (by decide) rfl 13 (by decide) (hts _ hw_437) (fun _ h9 => h9) rfl d_MD_next_51 ?_
      refine lv_iconst (v := xw_i 1) hx hb d_MD_next_54 rfl ?_
      refine xw_iadd hx hb d_MD_next_55 ?_
      refine xw_putI (C := "AdviceWeaverModel") (T := T_MD) hx hb hts hin_MD ty_MD ty_MD_ok nm_MD hown hK hP hD hS (by decide) kr_MD (by decide) rfl 13 (by decide) (hts _ hw_437) (fun _ h9 => h9) rfl (by decide +kernel) rfl d_MD_next_56 (fun s15 e16 H locs hP hS => ?_)
      replace h := xw_letI e16 h
      refine lv_iload_n hx hb d_MD_next_59 rfl (lv_at hl 1 rfl) ?_
      exact xw_iretE hx hb hr hlk hP hK hD hX hS h d_MD_next_60
    · intro j49 hj49 h
      obtain ⟨hg5, h⟩ := xw_grdI h
      refine xw_if_ge (tgt := 49) hx hb hg5 d_MD_next_29 (by decide) (fun hc6 => ?_) (fun hc6 => ?_)
      · replace h := xw_ifT hc6 h
        exact hj49 s4 t0_24 h _ _ _ hP hS (lv_sub hl [1, 0] rfl)
      · replace h := xw_ifF hc6 h
        refine lv_iload_n hx hb d_MD_next_32 rfl (lv_at hl 0 rfl) ?_
        refine lv_iload_n hx hb d_MD_next_33 rfl (lv_at hl 2 rfl) ?_
        refine lv_iload_n hx hb d_MD_next_34 rfl (lv_at hl 3 rfl) ?_
        obtain ⟨s7, r9, hc8, h⟩ := xw_bn2I h
        refine xw_callSi ⟨hx, hb, hml, hown, hts⟩ (c_MD_outside l D A ad cs Z tt fu s4 s7 t0_24 p1 p2 r9 hc8) (va_cwS 3 hts (gd_S hw_431 hw_432 hw_433 hw_434) rfl rfl rfl (by decide +kernel) ⟨Nat.le_of_ble_eq_true rfl, Nat.le_of_ble_eq_true rfl⟩) hP hK hD hX hS rfl hl.1 rfl (Nat.le_of_ble_eq_true rfl) d_MD_next_35 (fun H locs hP hS => ?_)
        obtain ⟨hg10, h⟩ := xw_grdI h
        refine xw_if_eq (tgt := 49) hx hb hg10 d_MD_next_38 (by decide) (fun hc11 => ?_) (fun hc11 => ?_)
        · replace h := xw_ifT hc11 h
          exact hj49 s7 t0_24 h _ _ _ hP hS (lv_sub hl [1, 0] rfl)
        · replace h := xw_ifF hc11 h
          refine lv_aload_n hx hb d_MD_next_41 rfl (lv_at hl 1 rfl) ?_
          refine lv_aload_n hx hb d_MD_next_42 rfl (lv_at hl 1 rfl) ?_
          refine xw_getI (C := "AdviceWeaverModel") (T := T_MD) hx hb hts hin_MD hown hK hP (by decide) kr_MD (by decide) rfl 13 (by decide) (hts _ hw_437) (fun _ h9 => h9) rfl d_MD_next_43 ?_
          refine xw_putI (C := "AdviceWeaverModel") (T := T_MD) hx hb hts hin_MD ty_MD ty_MD_ok nm_MD hown hK hP hD hS (by decide) kr_MD (by decide) rfl 14 (by decide) (hts _ hw_438) (fun _ h9 => h9) rfl (by decide +kernel) rfl d_MD_next_46 (fun s12 e13 H locs hP hS => ?_)
          replace h := xw_letI e13 h
          exact hj49 s12 t0_24 h _ _ _ hP hS (lv_sub hl [1, 0] rfl)
  · intro j24 hj24 h
    obtain ⟨hg1, h⟩ := xw_grdI h
    refine xw_icmp_ge (tgt := 23) hx hb hg1.1 hg1.2 d_MD_next_8 (by decide) (fun hc2 => ?_) (fun hc2 => ?_)
    · replace h := xw_ifT hc2 h
      refine lv_iconst (v := xw_i (-1)) hx hb d_MD_next_23 rfl ?_
      exact hj24 s0 (-1) h _ _ _ hP hS (lv_sub hl [0, 1, 2] rfl)
    · replace h := xw_ifF hc2 h
      refine lv_aload_n hx hb d_MD_next_11 rfl (lv_at hl 0 rfl) ?_
      refine xw_getR (C := "AdviceWeaverModel") (T := T_MD) hx hb hts hin_MD hown hK hP (by decide) kr_MD (by decide) rfl 0 (by decide) (hts _ hw_436) (fun _ h9 => h9) rfl d_MD_next_12 ?_
      refine lv_aload_n hx hb d_MD_next_15 rfl (lv_at hl 0 rfl) ?_
      refine xw_getI (C := "AdviceWeaverModel") (T := T_MD) hx hb hts hin_MD hown hK hP (by decide) kr_MD (by decide) rfl 13 (by decide) (hts _ hw_437) (fun _ h9 => h9) rfl d_MD_next_16 ?_
      obtain ⟨hg3, h⟩ := xw_grdI h
      refine xw_iald hx hb hK hP (by decide) kr_m_bytes (by decide) hg3 d_MD_next_19 ?_
      refine lv_goto (tgt := 24) hx hb d_MD_next_20 (by decide) ?_
      exact hj24 s0 (s0.1 1 (s0.1 0 13).toNat) h _ _ _ hP hS (lv_sub hl [0, 1, 2] rfl)
def lp_MD_readMethod_17 (fu : Nat) (c1_17 : Int) (k60 : xw_S → Option xw_S) : Nat → xw_S → Int → Option xw_S
  | 0, _, _ => none
  | n + 1, s7, i2_17 =>
    xw_grd (xw_r i2_17 ∧ xw_r c1_17) (xw_if (c1_17 ≤ i2_17) (k60 s7)
     (xw_jn (fun (s18 : xw_S) (i2_54 : Int) => xw_let (i2_54 + 1) (fun v19 => lp_MD_readMethod_17 fu c1_17 k60 n s18 v19))
     (fun (j54 : xw_S → Int → Option xw_S) => xw_grd (xw_r (s7.1 0 14)) (xw_if (0 ≤ s7.1 0 14) (j54 s7 i2_17)
     (xw_grd ((0 ≤ i2_17 ∧ i2_17 < ((12 : Nat) : Int))) (xw_grd ((0 ≤ c1_17 ∧ c1_17 < ((12 : Nat) : Int))) (xw_grd (xw_r (s7.1 2 (i2_17).toNat) ∧ xw_r (s7.1 2 (c1_17).toNat)) (xw_if (s7.1 2 (i2_17).toNat = s7.1 2 (c1_17).toNat) (xw_let (xw_st s7 0 14 ((s7.1 0 13) - 1)) (fun s16 => j54 s16 i2_17))
     (j54 s7 i2_17)))))))))
def lp_MD_readMethod_129 (fu : Nat) (c1_129 : Int) (k171 : xw_S → Option xw_S) : Nat → xw_S → Int → Option xw_S
  | 0, _, _ => none
  | n + 1, s48, i2_129 =>
    xw_grd (xw_r (s48.1 0 14)) (xw_if (0 ≤ s48.1 0 14) (k171 s48)
     (xw_grd ((0 ≤ c1_129 ∧ c1_129 < ((12 : Nat) : Int))) (xw_grd (xw_r i2_129 ∧ xw_r (s48.1 6 (c1_129).toNat)) (xw_if (s48.1 6 (c1_129).toNat ≤ i2_129) (k171 s48)
     (xw_bn2 (f_MD_next fu s48 0 255) (fun s54 r56 => xw_grd ((0 ≤ (120 * c1_129) + i2_129 ∧ (120 * c1_129) + i2_129 < ((1440 : Nat) : Int))) (xw_let (xw_st s54 7 ((120 * c1_129) + i2_129).toNat r56) (fun s58 => xw_let (i2_129 + 1) (fun v60 => lp_MD_readMethod_129 fu c1_129 k171 n s58 v60)))))))))
def lp_MD_readMethod_185 (fu : Nat) (c1_185 : Int) (k241 : xw_S → Option xw_S) : Nat → xw_S → Int → Option xw_S
  | 0, _, _ => none
  | n + 1, s69, i2_185 =>
    xw_grd (xw_r (s69.1 0 14)) (xw_if (0 ≤ s69.1 0 14) (k241 s69)
     (xw_grd ((0 ≤ c1_185 ∧ c1_185 < ((12 : Nat) : Int))) (xw_grd (xw_r i2_185 ∧ xw_r (4 * (s69.1 8 (c1_185).toNat))) (xw_if (4 * (s69.1 8 (c1_185).toNat) ≤ i2_185) (k241 s69)
     (xw_jn (fun (s77 : xw_S) (i2_231 : Int) (t0_231 : Int) (t1_231 : Int) (t3_231 : Int) => xw_bn2 (f_MD_next fu s77 t1_231 t0_231) (fun s78 r80 => xw_grd ((0 ≤ t3_231 ∧ t3_231 < ((240 : Nat) : Int))) (xw_let (xw_st s78 9 (t3_231).toNat r80) (fun s82 => xw_let (i2_231 + 1) (fun v84 => lp_MD_readMethod_185 fu c1_185 k241 n s82 v84)))))
     (fun (j231 : xw_S → Int → Int → Int → Int → Option xw_S) => xw_grd (xw_r (xw_rm i2_185 4)) (xw_if (xw_rm i2_185 4 = 3) (j231 s69 i2_185 9 0 ((20 * c1_185) + i2_185))
     (j231 s69 i2_185 255 0 ((20 * c1_185) + i2_185)))))))))
def f_MD_readMethod (fu : Nat) (s0 : xw_S) (p1 : Int) : Option xw_S :=
 xw_bn2 (f_MD_next fu s0 97 122) (fun s1 r3 => xw_grd ((0 ≤ p1 ∧ p1 < ((12 : Nat) : Int))) (xw_let (xw_st s1 2 (p1).toNat r3) (fun s5 => xw_jn (fun (s21 : xw_S) => xw_bn2 (f_MD_next fu s21 0 2) (fun s22 r24 => xw_grd ((0 ≤ p1 ∧ p1 < ((12 : Nat) : Int))) (xw_let (xw_st s22 3 (p1).toNat r24) (fun s26 => xw_jn (fun (s30 : xw_S) (t0_95 : Int) (t2_95 : Int) => xw_bn2 (f_MD_next fu s30 t0_95 6) (fun s31 r33 => xw_grd ((0 ≤ t2_95 ∧ t2_95 < ((12 : Nat) : Int))) (xw_let (xw_st s31 4 (t2_95).toNat r33) (fun s35 => xw_bn2 (f_MD_next fu s35 1 8) (fun s37 r39 => xw_grd ((0 ≤ p1 ∧ p1 < ((12 : Nat) : Int))) (xw_let (xw_st s37 5 (p1).toNat r39) (fun s41 => xw_bn2 (f_MD_next fu s41 1 40) (fun s43 r45 => xw_let (xw_st s43 6 (p1).toNat r45) (fun s46 => xw_jn (fun (s62 : xw_S) => xw_bn2 (f_MD_next fu s62 0 3) (fun s63 r65 => xw_grd ((0 ≤ p1 ∧ p1 < ((12 : Nat) : Int))) (xw_let (xw_st s63 8 (p1).toNat r65) (fun s67 => xw_jn (fun (s86 : xw_S) => some s86)
 (fun (k241 : xw_S → Option xw_S) => lp_MD_readMethod_185 fu p1 k241 fu s67 0)))))
 (fun (k171 : xw_S → Option xw_S) => lp_MD_readMethod_129 fu p1 k171 fu s46 0))))))))))
 (fun (j95 : xw_S → Int → Int → Option xw_S) => xw_grd (xw_r (s26.1 0 14)) (xw_if (0 ≤ s26.1 0 14) (j95 s26 0 p1)
 (j95 s26 (s26.1 3 (p1).toNat) p1)))))))
 (fun (k60 : xw_S → Option xw_S) => lp_MD_readMethod_17 fu p1 k60 fu s5 8))))
set_option maxRecDepth 100000 in
set_option maxHeartbeats 4000000 in
theorem c_MD_readMethod (l : Launch) (D : va_G) (A : Nat → Prop) (ad : Nat → Nat) (cs : Nat → ClassId) (Z : va_W) (tt : Nat → Nat) (fu : Nat) (s0 sZ : xw_S) (p1 : Int) (h : f_MD_readMethod fu s0 p1 = some sZ) : Met l y_MD_readMethod w_MD_readMethod ({ frames := 2, cells := 0, slots := 0, locals := 45 }) (va_Pc [.ref (ad 0), .int (xw_i p1)] (xw_H D vwCl A kdR 29 ad cs Z tt s0)) (va_Qv (fun u => u = sZ) (xw_H D vwCl A kdR 29 ad cs Z tt) A) 0 0 A := by
  refine Met.ofW (cc := b_MD_readMethod) (maxL := 3) (ret := none) (by decide) rfl ?_
  intro p e s m args below meth c s₁ B hml hv
  obtain ⟨rfl, hP, hK, hD, hX⟩ := hv
  have hx := B.exec
  have hb := B.bytes
  have hr := B.returns
  have hts0 := atoms_spec (ws := w_MD_readMethod) B.pre
  have hts := fun w (hw : w ∈ wAll) => hts0 w (List.mem_cons_of_mem _ hw)
  have hown : s.vm.findClass "AdviceWeaverModel" = some m.cls := findClass_of_methodNamed B.named
  have hlk := B.notSynchronized
  clear hts0 B
  have hS : va_S A s.heap s.heap [] := va_S.rf
  have hl := lv_entry [.ref (ad 0), .int (xw_i p1)] (n := 3) (Nat.le_of_ble_eq_true rfl)
  rw [lg_entry_eq]
  generalize (lg_sl [.ref (ad 0), .int (xw_i p1)] ++ List.replicate (3 - (lg_sl [.ref (ad 0), .int (xw_i p1)]).length) Slot.unset).toArray = ls at hl ⊢
  have hl : lv_has ls 3 [(0, .ref (ad 0)), (1, .int (xw_i p1))] := hl
  have hlp17 : ∀ (c1_17 : Int) (k60 : xw_S → Option xw_S) (hk60 : ∀ (sq : xw_S), k60 sq = some sZ → ∀ (H : Heap) (locs : List Loc) (ls : Array Slot), va_P D vwCl (xw_ws kdR 29 ad cs Z sq) H → va_S A s.heap H locs → lv_has ls 3 [(0, .ref (ad 0)), (1, .int (xw_i c1_17))] → W p l e (headSpec w_MD_readMethod ({ frames := 2, cells := 0, slots := 0, locals := 45 })).room s m [.ref (ad 0), .int (xw_i p1)].toArray below meth c H locs 0 0 (MQ below (va_Qv (fun u => u = sZ) (xw_H D vwCl A kdR 29 ad cs Z tt) A) [.ref (ad 0), .int (xw_i p1)].toArray s 0 0 A) (F0 m 60 ls [])) (n : Nat), ∀ (sq : xw_S) (i2_17 : Int), lp_MD_readMethod_17 fu c1_17 k60 n sq i2_17 = some sZ → ∀ (H : Heap) (locs : List Loc) (ls : Array Slot), va_P D vwCl (xw_ws kdR 29 ad cs Z sq) H → va_S A s.heap H locs → lv_has ls 3 [(0, .ref (ad 0)), (1, .int (xw_i c1_17)), (2, .int (xw_i i2_17))] → W p l e (headSpec w_MD_readMethod ({ frames := 2, cells := 0, slots := 0, locals := 45 })).room s m [.ref (ad 0), .int (xw_i p1)].toArray below meth c H locs 0 0 (MQ below (va_Qv (fun u => u = sZ) (xw_H D vwCl A kdR 29 ad cs Z tt) A) [.ref (ad 0), .int (xw_i p1)].toArray s 0 0 A) (F0 m 17 ls []) := by
    intro c1_17 k60 hk60 n
    induction n with
    | zero =>
      intro sq i2_17 h
      cases (show (none : Option xw_S) = some sZ from h)
    | succ n ih17 =>
      intro s7 i2_17 h H locs ls hP hS hl
      unfold lp_MD_readMethod_17 at h
      refine lv_iload_n hx hb d_MD_readMethod_17 rfl (lv_at hl 2 rfl) ?_
      refine lv_iload_n hx hb d_MD_readMethod_18 rfl (lv_at hl 1 rfl) ?_
      obtain ⟨hg8, h⟩ := xw_grdI h
      refine xw_icmp_ge (tgt := 60) hx hb hg8.1 hg8.2 d_MD_readMethod_19 (by decide) (fun hc9 => ?_) (fun hc9 => ?_)
      · replace h := xw_ifT hc9 h
        exact hk60 s7 h _ _ _ hP hS (lv_sub hl [0, 1] rfl)
      · replace h := xw_ifF hc9 h
        refine lv_aload_n hx hb d_MD_readMethod_22 rfl (lv_at hl 0 rfl) ?_
        refine xw_getI (C := "AdviceWeaverModel") (T := T_MD) hx hb hts hin_MD hown hK hP (by decide) kr_MD (by decide) rfl 14 (by decide) (hts _ hw_438) (fun _ h9 => h9) rfl d_MD_readMethod_23 ?_
        refine xw_jnI (fun j => ∀ (sq : xw_S) (i2_54 : Int), j sq i2_54 = some sZ → ∀ (H : Heap) (locs : List Loc) (ls : Array Slot), va_P D vwCl (xw_ws kdR 29 ad cs Z sq) H → va_S A s.heap H locs → lv_has ls 3 [(0, .ref (ad 0)), (1, .int (xw_i c1_17)), (2, .int (xw_i i2_54))] → W p l e (headSpec w_MD_readMethod ({ frames := 2, cells := 0, slots := 0, locals := 45 })).room s m [.ref (ad 0), .int (xw_i p1)].toArray below meth c H locs 0 0 (MQ below (va_Qv (fun u => u = sZ) (xw_H D vwCl A kdR 29 ad cs Z tt) A) [.ref (ad 0), .int (xw_i p1)].toArray s 0 0 A) (F0 m 54 ls [])) h ?_ ?_
        · intro s18 i2_54 h H locs ls hP hS hl
          obtain ⟨v19, e20⟩ : ∃ z, z = i2_54 + 1 := ⟨_, rfl⟩
          replace h := xw_letI e20 h
          refine xw_iinc (lv' := [(2, .int (xw_i v19)), (0, .ref (ad 0)), (1, .int (xw_i c1_17))]) hx hb d_MD_readMethod_54 hl (k := 2) rfl (by decide) (by rw [e20]; rfl) (fun ls hl => ?_)
          refine lv_goto (tgt := 17) hx hb d_MD_readMethod_57 (by decide) ?_
          exact ih17 s18 v19 h _ _ _ hP hS (lv_sub hl [1, 2, 0] rfl)
        · intro j54 hj54 h
          obtain ⟨hg10, h⟩ := xw_grdI h
          refine xw_if_ge (tgt := 54) hx hb hg10 d_MD_readMethod_26 (by decide) (fun hc11 => ?_) (fun hc11 => ?_)
          · replace h := xw_ifT hc11 h
            exact hj54 s7 i2_17 h _ _ _ hP hS (lv_sub hl [0, 1, 2] rfl)
          · replace h := xw_ifF hc11 h
            refine lv_aload_n hx hb d_MD_readMethod_29 rfl (lv_at hl 0 rfl) ?_
            refine xw_getR (C := "AdviceWeaverModel") (T := T_MD) hx hb hts hin_MD hown hK hP (by decide) kr_MD (by decide) rfl 2 (by decide) (hts _ hw_439) (fun _ h9 => h9) rfl d_MD_readMethod_30 ?_
            refine lv_iload_n hx hb d_MD_readMethod_33 rfl (lv_at hl 2 rfl) ?_
            obtain ⟨hg12, h⟩ := xw_grdI h
            refine xw_iald hx hb hK hP (by decide) kr_m_name (by decide) hg12 d_MD_readMethod_34 ?_
            refine lv_aload_n hx hb d_MD_readMethod_35 rfl (lv_at hl 0 rfl) ?_
            refine xw_getR (C := "AdviceWeaverModel") (T := T_MD) hx hb hts hin_MD hown hK hP (by decide) kr_MD (by decide) rfl 2 (by decide) (hts _ hw_439) (fun _ h9 => h9) rfl d_MD_readMethod_36 ?_
            refine lv_iload_n hx hb d_MD_readMethod_39 rfl (lv_at hl 1 rfl) ?_
            obtain ⟨hg13, h⟩ := xw_grdI h
            refine xw_iald hx hb hK hP (by decide) kr_m_name (by decide) hg13 d_MD_readMethod_40 ?_
            obtain ⟨hg14, h⟩ := xw_grdI h
            refine xw_icmp_ne (tgt := 54) hx hb hg14.1 hg14.2 d_MD_readMethod_41 (by decide) (fun hc15 => ?_) (fun hc15 => ?_)
            · replace h := xw_ifF hc15 h
              exact hj54 s7 i2_17 h _ _ _ hP hS (lv_sub hl [0, 1, 2] rfl)
            · replace h := xw_ifT hc15 h
              refine lv_aload_n hx hb d_MD_readMethod_44 rfl (lv_at hl 0 rfl) ?_
              refine lv_aload_n hx hb d_MD_readMethod_45 rfl (lv_at hl 0 rfl) ?_
              refine xw_getI (C := "AdviceWeaverModel") (T := T_MD) hx hb hts hin_MD hown hK hP (by decide) kr_MD (by decide) rfl 13 (by decide) (hts _ hw_437) (fun _ h9 => h9) rfl d_MD_readMethod_46 ?_
              refine lv_iconst (v := xw_i 1) hx hb d_MD_readMethod_49 rfl ?_
              refine xw_isub hx hb d_MD_readMethod_50 ?_
              refine xw_putI (C := "AdviceWeaverModel") (T := T_MD) hx hb hts hin_MD ty_MD ty_MD_ok nm_MD hown hK hP hD hS (by decide) kr_MD (by decide) rfl 14 (by decide) (hts _ hw_438) (fun _ h9 => h9) rfl (by decide +kernel) rfl d_MD_readMethod_51 (fun s16 e17 H locs hP hS => ?_)
              replace h := xw_letI e17 h
              exact hj54 s16 i2_17 h _ _ _ hP hS (lv_sub hl [0, 1, 2] rfl)
  have hlp129 : ∀ (c1_129 : Int) (k171 : xw_S → Option xw_S) (hk171 : ∀ (sq : xw_S), k171 sq = some sZ → ∀ (H : Heap) (locs : List Loc) (ls : Array Slot), va_P D vwCl (xw_ws kdR 29 ad cs Z sq) H → va_S A s.heap H locs → lv_has ls 3 [(0, .ref (ad 0)), (1, .int (xw_i c1_129))] → W p l e (headSpec w_MD_readMethod ({ frames := 2, cells := 0, slots := 0, locals := 45 })).room s m [.ref (ad 0), .int (xw_i p1)].toArray below meth c H locs 0 0 (MQ below (va_Qv (fun u => u = sZ) (xw_H D vwCl A kdR 29 ad cs Z tt) A) [.ref (ad 0), .int (xw_i p1)].toArray s 0 0 A) (F0 m 171 ls [])) (n : Nat), ∀ (sq : xw_S) (i2_129 : Int), lp_MD_readMethod_129 fu c1_129 k171 n sq i2_129 = some sZ → ∀ (H : Heap) (locs : List Loc) (ls : Array Slot), va_P D vwCl (xw_ws kdR 29 ad cs Z sq) H → va_S A s.heap H locs → lv_has ls 3 [(0, .ref (ad 0)), (1, .int (xw_i c1_129)), (2, .int (xw_i i2_129))] → W p l e (headSpec w_MD_readMethod ({ frames := 2, cells := 0, slots := 0, locals := 45 })).room s m [.ref (ad 0), .int (xw_i p1)].toArray below meth c H locs 0 0 (MQ below (va_Qv (fun u => u = sZ) (xw_H D vwCl A kdR 29 ad cs Z tt) A) [.ref (ad 0), .int (xw_i p1)].toArray s 0 0 A) (F0 m 129 ls []) := by
    intro c1_129 k171 hk171 n
    induction n with
    | zero =>
      intro sq i2_129 h
      cases (show (none : Option xw_S) = some sZ from h)
    | succ n ih129 =>
      intro s48 i2_129 h H locs ls hP hS hl
      unfold lp_MD_readMethod_129 at h
      refine lv_aload_n hx hb d_MD_readMethod_129 rfl (lv_at hl 0 rfl) ?_
      refine xw_getI (C := "AdviceWeaverModel") (T := T_MD) hx hb hts hin_MD hown hK hP (by decide) kr_MD (by decide) rfl 14 (by decide) (hts _ hw_438) (fun _ h9 => h9) rfl d_MD_readMethod_130 ?_
      obtain ⟨hg49, h⟩ := xw_grdI h
      refine xw_if_ge (tgt := 171) hx hb hg49 d_MD_readMethod_133 (by decide) (fun hc50 => ?_) (fun hc50 => ?_)
      · replace h := xw_ifT hc50 h
        exact hk171 s48 h _ _ _ hP hS (lv_sub hl [0, 1] rfl)
      · replace h := xw_ifF hc50 h
        refine lv_iload_n hx hb d_MD_readMethod_136 rfl (lv_at hl 2 rfl) ?_
        refine lv_aload_n hx hb d_MD_readMethod_137 rfl (lv_at hl 0 rfl) ?_
        refine xw_getR (C := "AdviceWeaverModel") (T := T_MD) hx hb hts hin_MD hown hK hP (by decide) kr_MD (by decide) rfl 6 (by decide) (hts _ hw_447) (fun _ h9 => h9) rfl d_MD_readMethod_138 ?_
        refine lv_iload_n hx hb d_MD_readMethod_141 rfl (lv_at hl 1 rfl) ?_
        obtain ⟨hg51, h⟩ := xw_grdI h
        refine xw_iald hx hb hK hP (by decide) kr_m_length (by decide) hg51 d_MD_readMethod_142 ?_
        obtain ⟨hg52, h⟩ := xw_grdI h
        refine xw_icmp_ge (tgt := 171) hx hb hg52.1 hg52.2 d_MD_readMethod_143 (by decide) (fun hc53 => ?_) (fun hc53 => ?_)
        · replace h := xw_ifT hc53 h
          exact hk171 s48 h _ _ _ hP hS (lv_sub hl [0, 1] rfl)
        · replace h := xw_ifF hc53 h
          refine lv_aload_n hx hb d_MD_readMethod_146 rfl (lv_at hl 0 rfl) ?_
          refine xw_getR (C := "AdviceWeaverModel") (T := T_MD) hx hb hts hin_MD hown hK hP (by decide) kr_MD (by decide) rfl 7 (by decide) (hts _ hw_448) (fun _ h9 => h9) rfl d_MD_readMethod_147 ?_
          refine lv_bipush (v := xw_i 120) hx hb d_MD_readMethod_150 (by decide) ?_
          refine lv_iload_n hx hb d_MD_readMethod_152 rfl (lv_at hl 1 rfl) ?_
          refine xw_imul hx hb d_MD_readMethod_153 ?_
          refine lv_iload_n hx hb d_MD_readMethod_154 rfl (lv_at hl 2 rfl) ?_
          refine xw_iadd hx hb d_MD_readMethod_155 ?_
          refine lv_aload_n hx hb d_MD_readMethod_156 rfl (lv_at hl 0 rfl) ?_
          refine lv_iconst (v := xw_i 0) hx hb d_MD_readMethod_157 rfl ?_
          refine lv_sipush (v := xw_i 255) hx hb d_MD_readMethod_158 (by decide) ?_
          obtain ⟨s54, r56, hc55, h⟩ := xw_bn2I h
          refine xw_callVi (C := "AdviceWeaverModel") (T := T_MD) ⟨hx, hb, hml, hown, hts⟩ (c_MD_next l D A ad cs Z tt fu s48 s54 0 255 r56 hc55) (cwV 2 hts (gd_V hw_440 hw_441 hw_442 hw_433 hw_443) rfl rfl rfl (by decide +kernel) ⟨Nat.le_of_ble_eq_true rfl, Nat.le_of_ble_eq_true rfl⟩) hP hK hD hX hS (by decide) kr_MD (by decide) rfl rfl hl.1 rfl (Nat.le_of_ble_eq_true rfl) d_MD_readMethod_161 (fun H locs hP hS => ?_)
          obtain ⟨hg57, h⟩ := xw_grdI h
          refine xw_iast hx hb hK hP hD hS (by decide) kr_m_code (by decide) hg57 d_MD_readMethod_164 (fun s58 e59 H locs hP hS => ?_)
          replace h := xw_letI e59 h
          obtain ⟨v60, e61⟩ : ∃ z, z = i2_129 + 1 := ⟨_, rfl⟩
          replace h := xw_letI e61 h
          refine xw_iinc (lv' := [(2, .int (xw_i v60)), (0, .ref (ad 0)), (1, .int (xw_i c1_129))]) hx hb d_MD_readMethod_165 hl (k := 2) rfl (by decide) (by rw [e61]; rfl) (fun ls hl => ?_)
          refine lv_goto (tgt := 129) hx hb d_MD_readMethod_168 (by decide) ?_
          exact ih129 s58 v60 h _ _ _ hP hS (lv_sub hl [1, 2, 0] rfl)
  have hlp185 : ∀ (c1_185 : Int) (k241 : xw_S → Option xw_S) (hk241 : ∀ (sq : xw_S), k241 sq = some sZ → ∀ (H : Heap) (locs : List Loc) (ls : Array Slot), va_P D vwCl (xw_ws kdR 29 ad cs Z sq) H → va_S A s.heap H locs → lv_has ls 3 [] → W p l e (headSpec w_MD_readMethod ({ frames := 2, cells := 0, slots := 0, locals := 45 })).room s m [.ref (ad 0), .int (xw_i p1)].toArray below meth c H locs 0 0 (MQ below (va_Qv (fun u => u = sZ) (xw_H D vwCl A kdR 29 ad cs Z tt) A) [.ref (ad 0), .int (xw_i p1)].toArray s 0 0 A) (F0 m 241 ls [])) (n : Nat), ∀ (sq : xw_S) (i2_185 : Int), lp_MD_readMethod_185 fu c1_185 k241 n sq i2_185 = some sZ → ∀ (H : Heap) (locs : List Loc) (ls : Array Slot), va_P D vwCl (xw_ws kdR 29 ad cs Z sq) H → va_S A s.heap H locs → lv_has ls 3 [(0, .ref (ad 0)), (1, .int (xw_i c1_185)), (2, .int (xw_i i2_185))] → W p l e (headSpec w_MD_readMethod ({ frames := 2, cells := 0, slots := 0, locals := 45 })).room s m [.ref (ad 0), .int (xw_i p1)].toArray below meth c H locs 0 0 (MQ below (va_Qv (fun u => u = sZ) (xw_H D vwCl A kdR 29 ad cs Z tt) A) [.ref (ad 0), .int (xw_i p1)].toArray s 0 0 A) (F0 m 185 ls []) := by
    intro c1_185 k241 hk241 n
    induction n with
    | zero =>
      intro sq i2_185 h
      cases (show (none : Option xw_S) = some sZ from h)
    | succ n ih185 =>
      intro s69 i2_185 h H locs ls hP hS hl
      unfold lp_MD_readMethod_185 at h
      refine lv_aload_n hx hb d_MD_readMethod_185 rfl (lv_at hl 0 rfl) ?_
      refine xw_getI (C := "AdviceWeaverModel") (T := T_MD) hx hb hts hin_MD hown hK hP (by decide) kr_MD (by decide) rfl 14 (by decide) (hts _ hw_438) (fun _ h9 => h9) rfl d_MD_readMethod_186 ?_
      obtain ⟨hg70, h⟩ := xw_grdI h
      refine xw_if_ge (tgt := 241) hx hb hg70 d_MD_readMethod_189 (by decide) (fun hc71 => ?_) (fun hc71 => ?_)
      · replace h := xw_ifT hc71 h
        exact hk241 s69 h _ _ _ hP hS (lv_sub hl [] rfl)
      · replace h := xw_ifF hc71 h
        refine lv_iload_n hx hb d_MD_readMethod_192 rfl (lv_at hl 2 rfl) ?_
        refine lv_iconst (v := xw_i 4) hx hb d_MD_readMethod_193 rfl ?_
        refine lv_aload_n hx hb d_MD_readMethod_194 rfl (lv_at hl 0 rfl) ?_
        refine xw_getR (C := "AdviceWeaverModel") (T := T_MD) hx hb hts hin_MD hown hK hP (by decide) kr_MD (by decide) rfl 8 (by decide) (hts _ hw_449) (fun _ h9 => h9) rfl d_MD_readMethod_195 ?_
        refine lv_iload_n hx hb d_MD_readMethod_198 rfl (lv_at hl 1 rfl) ?_
        obtain ⟨hg72, h⟩ := xw_grdI h
        refine xw_iald hx hb hK hP (by decide) kr_m_handlers (by decide) hg72 d_MD_readMethod_199 ?_
        refine xw_imul hx hb d_MD_readMethod_200 ?_
        obtain ⟨hg73, h⟩ := xw_grdI h
        refine xw_icmp_ge (tgt := 241) hx hb hg73.1 hg73.2 d_MD_readMethod_201 (by decide) (fun hc74 => ?_) (fun hc74 => ?_)
        · replace h := xw_ifT hc74 h
          exact hk241 s69 h _ _ _ hP hS (lv_sub hl [] rfl)
        · replace h := xw_ifF hc74 h
          refine lv_aload_n hx hb d_MD_readMethod_204 rfl (lv_at hl 0 rfl) ?_
          refine xw_getR (C := "AdviceWeaverModel") (T := T_MD) hx hb hts hin_MD hown hK hP (by decide) kr_MD (by decide) rfl 9 (by decide) (hts _ hw_450) (fun _ h9 => h9) rfl d_MD_readMethod_205 ?_
          refine lv_bipush (v := xw_i 20) hx hb d_MD_readMethod_208 (by decide) ?_
          refine lv_iload_n hx hb d_MD_readMethod_210 rfl (lv_at hl 1 rfl) ?_
          refine xw_imul hx hb d_MD_readMethod_211 ?_
          refine lv_iload_n hx hb d_MD_readMethod_212 rfl (lv_at hl 2 rfl) ?_
          refine xw_iadd hx hb d_MD_readMethod_213 ?_
          refine lv_aload_n hx hb d_MD_readMethod_214 rfl (lv_at hl 0 rfl) ?_
          refine lv_iconst (v := xw_i 0) hx hb d_MD_readMethod_215 rfl ?_
          refine lv_iload_n hx hb d_MD_readMethod_216 rfl (lv_at hl 2 rfl) ?_
          refine lv_iconst (v := xw_i 4) hx hb d_MD_readMethod_217 rfl ?_
          refine xw_irem hx hb (by decide) (by decide) d_MD_readMethod_218 ?_
          refine lv_iconst (v := xw_i 3) hx hb d_MD_readMethod_219 rfl ?_
          refine xw_jnI (fun j => ∀ (sq : xw_S) (i2_231 : Int) (t0_231 : Int) (t1_231 : Int) (t3_231 : Int), j sq i2_231 t0_231 t1_231 t3_231 = some sZ → ∀ (H : Heap) (locs : List Loc) (ls : Array Slot), va_P D vwCl (xw_ws kdR 29 ad cs Z sq) H → va_S A s.heap H locs → lv_has ls 3 [(0, .ref (ad 0)), (1, .int (xw_i c1_185)), (2, .int (xw_i i2_231))] → W p l e (headSpec w_MD_readMethod ({ frames := 2, cells := 0, slots := 0, locals := 45 })).room s m [.ref (ad 0), .int (xw_i p1)].toArray below meth c H locs 0 0 (MQ below (va_Qv (fun u => u = sZ) (xw_H D vwCl A kdR 29 ad cs Z tt) A) [.ref (ad 0), .int (xw_i p1)].toArray s 0 0 A) (F0 m 231 ls [.int (xw_i t0_231), .int (xw_i t1_231), .ref (ad 0), .int (xw_i t3_231), .ref (ad 9)])) h ?_ ?_
          · intro s77 i2_231 t0_231 t1_231 t3_231 h H locs ls hP hS hl
            obtain ⟨s78, r80, hc79, h⟩ := xw_bn2I h
            refine xw_callVi (C := "AdviceWeaverModel") (T := T_MD) ⟨hx, hb, hml, hown, hts⟩ (c_MD_next l D A ad cs Z tt fu s77 s78 t1_231 t0_231 r80 hc79) (cwV 2 hts (gd_V hw_440 hw_441 hw_442 hw_433 hw_443) rfl rfl rfl (by decide +kernel) ⟨Nat.le_of_ble_eq_true rfl, Nat.le_of_ble_eq_true rfl⟩) hP hK hD hX hS (by decide) kr_MD (by decide) rfl rfl hl.1 rfl (Nat.le_of_ble_eq_true rfl) d_MD_readMethod_231 (fun H locs hP hS => ?_)
            obtain ⟨hg81, h⟩ := xw_grdI h
            refine xw_iast hx hb hK hP hD hS (by decide) kr_m_handler (by decide) hg81 d_MD_readMethod_234 (fun s82 e83 H locs hP hS => ?_)
            replace h := xw_letI e83 h
            obtain ⟨v84, e85⟩ : ∃ z, z = i2_231 + 1 := ⟨_, rfl⟩
            replace h := xw_letI e85 h
            refine xw_iinc (lv' := [(2, .int (xw_i v84)), (0, .ref (ad 0)), (1, .int (xw_i c1_185))]) hx hb d_MD_readMethod_235 hl (k := 2) rfl (by decide) (by rw [e85]; rfl) (fun ls hl => ?_)
            refine lv_goto (tgt := 185) hx hb d_MD_readMethod_238 (by decide) ?_
            exact ih185 s82 v84 h _ _ _ hP hS (lv_sub hl [1, 2, 0] rfl)
          · intro j231 hj231 h
            obtain ⟨hg75, h⟩ := xw_grdI h
            refine xw_icmp_ne (tgt := 228) hx hb hg75 (by decide) d_MD_readMethod_220 (by decide) (fun hc76 => ?_) (fun hc76 => ?_)
            · replace h := xw_ifF hc76 h
              refine lv_sipush (v := xw_i 255) hx hb d_MD_readMethod_228 (by decide) ?_
              exact hj231 s69 i2_185 255 0 ((20 * c1_185) + i2_185) h _ _ _ hP hS (lv_sub hl [0, 1, 2] rfl)
            · replace h := xw_ifT hc76 h
              refine lv_bipush (v := xw_i 9) hx hb d_MD_readMethod_223 (by decide) ?_
              refine lv_goto (tgt := 231) hx hb d_MD_readMethod_225 (by decide) ?_
              exact hj231 s69 i2_185 9 0 ((20 * c1_185) + i2_185) h _ _ _ hP hS (lv_sub hl [0, 1, 2] rfl)
  unfold f_MD_readMethod at h
  refine lv_aload_n hx hb d_MD_readMethod_0 rfl (lv_at hl 0 rfl) ?_
  refine xw_getR (C := "AdviceWeaverModel") (T := T_MD) hx hb hts hin_MD hown hK hP (by decide) kr_MD (by decide) rfl 2 (by decide) (hts _ hw_439) (fun _ h9 => h9) rfl d_MD_readMethod_1 ?_
  refine lv_iload_n hx hb d_MD_readMethod_4 rfl (lv_at hl 1 rfl) ?_
  refine lv_aload_n hx hb d_MD_readMethod_5 rfl (lv_at hl 0 rfl) ?_
  refine lv_bipush (v := xw_i 97) hx hb d_MD_readMethod_6 (by decide) ?_
  refine lv_bipush (v := xw_i 122) hx hb d_MD_readMethod_8 (by decide) ?_
  obtain ⟨s1, r3, hc2, h⟩ := xw_bn2I h
  refine xw_callVi (C := "AdviceWeaverModel") (T := T_MD) ⟨hx, hb, hml, hown, hts⟩ (c_MD_next l D A ad cs Z tt fu s0 s1 97 122 r3 hc2) (cwV 2 hts (gd_V hw_440 hw_441 hw_442 hw_433 hw_443) rfl rfl rfl (by decide +kernel) ⟨Nat.le_of_ble_eq_true rfl, Nat.le_of_ble_eq_true rfl⟩) hP hK hD hX hS (by decide) kr_MD (by decide) rfl rfl hl.1 rfl (Nat.le_of_ble_eq_true rfl) d_MD_readMethod_10 (fun H locs hP hS => ?_)
  obtain ⟨hg4, h⟩ := xw_grdI h
  refine xw_iast hx hb hK hP hD hS (by decide) kr_m_name (by decide) hg4 d_MD_readMethod_13 (fun s5 e6 H locs hP hS => ?_)
  replace h := xw_letI e6 h
  refine lv_bipush (v := xw_i 8) hx hb d_MD_readMethod_14 (by decide) ?_
  refine lv_istore_n hx hb d_MD_readMethod_16 rfl hl (by decide) rfl (fun ls hl => ?_)
  refine xw_jnI (fun j => ∀ (sq : xw_S), j sq = some sZ → ∀ (H : Heap) (locs : List Loc) (ls : Array Slot), va_P D vwCl (xw_ws kdR 29 ad cs Z sq) H → va_S A s.heap H locs → lv_has ls 3 [(0, .ref (ad 0)), (1, .int (xw_i p1))] → W p l e (headSpec w_MD_readMethod ({ frames := 2, cells := 0, slots := 0, locals := 45 })).room s m [.ref (ad 0), .int (xw_i p1)].toArray below meth c H locs 0 0 (MQ below (va_Qv (fun u => u = sZ) (xw_H D vwCl A kdR 29 ad cs Z tt) A) [.ref (ad 0), .int (xw_i p1)].toArray s 0 0 A) (F0 m 60 ls [])) h ?_ ?_
  · intro s21 h H locs ls hP hS hl
    refine lv_aload_n hx hb d_MD_readMethod_60 rfl (lv_at hl 0 rfl) ?_
    refine xw_getR (C := "AdviceWeaverModel") (T := T_MD) hx hb hts hin_MD hown hK hP (by decide) kr_MD (by decide) rfl 3 (by decide) (hts _ hw_444) (fun _ h9 => h9) rfl d_MD_readMethod_61 ?_
    refine lv_iload_n hx hb d_MD_readMethod_64 rfl (lv_at hl 1 rfl) ?_
    refine lv_aload_n hx hb d_MD_readMethod_65 rfl (lv_at hl 0 rfl) ?_
    refine lv_iconst (v := xw_i 0) hx hb d_MD_readMethod_66 rfl ?_
    refine lv_iconst (v := xw_i 2) hx hb d_MD_readMethod_67 rfl ?_
    obtain ⟨s22, r24, hc23, h⟩ := xw_bn2I h
    refine xw_callVi (C := "AdviceWeaverModel") (T := T_MD) ⟨hx, hb, hml, hown, hts⟩ (c_MD_next l D A ad cs Z tt fu s21 s22 0 2 r24 hc23) (cwV 2 hts (gd_V hw_440 hw_441 hw_442 hw_433 hw_443) rfl rfl rfl (by decide +kernel) ⟨Nat.le_of_ble_eq_true rfl, Nat.le_of_ble_eq_true rfl⟩) hP hK hD hX hS (by decide) kr_MD (by decide) rfl rfl hl.1 rfl (Nat.le_of_ble_eq_true rfl) d_MD_readMethod_68 (fun H locs hP hS => ?_)
    obtain ⟨hg25, h⟩ := xw_grdI h
    refine xw_iast hx hb hK hP hD hS (by decide) kr_m_args (by decide) hg25 d_MD_readMethod_71 (fun s26 e27 H locs hP hS => ?_)
    replace h := xw_letI e27 h
    refine lv_aload_n hx hb d_MD_readMethod_72 rfl (lv_at hl 0 rfl) ?_
    refine xw_getR (C := "AdviceWeaverModel") (T := T_MD) hx hb hts hin_MD hown hK hP (by decide) kr_MD (by decide) rfl 4 (by decide) (hts _ hw_445) (fun _ h9 => h9) rfl d_MD_readMethod_73 ?_
    refine lv_iload_n hx hb d_MD_readMethod_76 rfl (lv_at hl 1 rfl) ?_
    refine lv_aload_n hx hb d_MD_readMethod_77 rfl (lv_at hl 0 rfl) ?_
    refine lv_aload_n hx hb d_MD_readMethod_78 rfl (lv_at hl 0 rfl) ?_
    refine xw_getI (C := "AdviceWeaverModel") (T := T_MD) hx hb hts hin_MD hown hK hP (by decide) kr_MD (by decide) rfl 14 (by decide) (hts _ hw_438) (fun _ h9 => h9) rfl d_MD_readMethod_79 ?_
    refine xw_jnI (fun j => ∀ (sq : xw_S) (t0_95 : Int) (t2_95 : Int), j sq t0_95 t2_95 = some sZ → ∀ (H : Heap) (locs : List Loc) (ls : Array Slot), va_P D vwCl (xw_ws kdR 29 ad cs Z sq) H → va_S A s.heap H locs → lv_has ls 3 [(0, .ref (ad 0)), (1, .int (xw_i p1))] → W p l e (headSpec w_MD_readMethod ({ frames := 2, cells := 0, slots := 0, locals := 45 })).room s m [.ref (ad 0), .int (xw_i p1)].toArray below meth c H locs 0 0 (MQ below (va_Qv (fun u => u = sZ) (xw_H D vwCl A kdR 29 ad cs Z tt) A) [.ref (ad 0), .int (xw_i p1)].toArray s 0 0 A) (F0 m 95 ls [.int (xw_i t0_95), .ref (ad 0), .int (xw_i t2_95), .ref (ad 4)])) h ?_ ?_
    · intro s30 t0_95 t2_95 h H locs ls hP hS hl
      refine lv_bipush (v := xw_i 6) hx hb d_MD_readMethod_95 (by decide) ?_
      obtain ⟨s31, r33, hc32, h⟩ := xw_bn2I h
      refine xw_callVi (C := "AdviceWeaverModel") (T := T_MD) ⟨hx, hb, hml, hown, hts⟩ (c_MD_next l D A ad cs Z tt fu s30 s31 t0_95 6 r33 hc32) (cwV 2 hts (gd_V hw_440 hw_441 hw_442 hw_433 hw_443) rfl rfl rfl (by decide +kernel) ⟨Nat.le_of_ble_eq_true rfl, Nat.le_of_ble_eq_true rfl⟩) hP hK hD hX hS (by decide) kr_MD (by decide) rfl rfl hl.1 rfl (Nat.le_of_ble_eq_true rfl) d_MD_readMethod_97 (fun H locs hP hS => ?_)
      obtain ⟨hg34, h⟩ := xw_grdI h
      refine xw_iast hx hb hK hP hD hS (by decide) kr_m_locals (by decide) hg34 d_MD_readMethod_100 (fun s35 e36 H locs hP hS => ?_)
      replace h := xw_letI e36 h
      refine lv_aload_n hx hb d_MD_readMethod_101 rfl (lv_at hl 0 rfl) ?_
      refine xw_getR (C := "AdviceWeaverModel") (T := T_MD) hx hb hts hin_MD hown hK hP (by decide) kr_MD (by decide) rfl 5 (by decide) (hts _ hw_446) (fun _ h9 => h9) rfl d_MD_readMethod_102 ?_
      refine lv_iload_n hx hb d_MD_readMethod_105 rfl (lv_at hl 1 rfl) ?_
      refine lv_aload_n hx hb d_MD_readMethod_106 rfl (lv_at hl 0 rfl) ?_
      refine lv_iconst (v := xw_i 1) hx hb d_MD_readMethod_107 rfl ?_
      refine lv_bipush (v := xw_i 8) hx hb d_MD_readMethod_108 (by decide) ?_
      obtain ⟨s37, r39, hc38, h⟩ := xw_bn2I h
      refine xw_callVi (C := "AdviceWeaverModel") (T := T_MD) ⟨hx, hb, hml, hown, hts⟩ (c_MD_next l D A ad cs Z tt fu s35 s37 1 8 r39 hc38) (cwV 2 hts (gd_V hw_440 hw_441 hw_442 hw_433 hw_443) rfl rfl rfl (by decide +kernel) ⟨Nat.le_of_ble_eq_true rfl, Nat.le_of_ble_eq_true rfl⟩) hP hK hD hX hS (by decide) kr_MD (by decide) rfl rfl hl.1 rfl (Nat.le_of_ble_eq_true rfl) d_MD_readMethod_110 (fun H locs hP hS => ?_)
      obtain ⟨hg40, h⟩ := xw_grdI h
      refine xw_iast hx hb hK hP hD hS (by decide) kr_m_room (by decide) hg40 d_MD_readMethod_113 (fun s41 e42 H locs hP hS => ?_)
      replace h := xw_letI e42 h
      refine lv_aload_n hx hb d_MD_readMethod_114 rfl (lv_at hl 0 rfl) ?_
      refine xw_getR (C := "AdviceWeaverModel") (T := T_MD) hx hb hts hin_MD hown hK hP (by decide) kr_MD (by decide) rfl 6 (by decide) (hts _ hw_447) (fun _ h9 => h9) rfl d_MD_readMethod_115 ?_
      refine lv_iload_n hx hb d_MD_readMethod_118 rfl (lv_at hl 1 rfl) ?_
      refine lv_aload_n hx hb d_MD_readMethod_119 rfl (lv_at hl 0 rfl) ?_
      refine lv_iconst (v := xw_i 1) hx hb d_MD_readMethod_120 rfl ?_
      refine lv_bipush (v := xw_i 40) hx hb d_MD_readMethod_121 (by decide) ?_
      obtain ⟨s43, r45, hc44, h⟩ := xw_bn2I h
      refine xw_callVi (C := "AdviceWeaverModel") (T := T_MD) ⟨hx, hb, hml, hown, hts⟩ (c_MD_next l D A ad cs Z tt fu s41 s43 1 40 r45 hc44) (cwV 2 hts (gd_V hw_440 hw_441 hw_442 hw_433 hw_443) rfl rfl rfl (by decide +kernel) ⟨Nat.le_of_ble_eq_true rfl, Nat.le_of_ble_eq_true rfl⟩) hP hK hD hX hS (by decide) kr_MD (by decide) rfl rfl hl.1 rfl (Nat.le_of_ble_eq_true rfl) d_MD_readMethod_123 (fun H locs hP hS => ?_)
      refine xw_iast hx hb hK hP hD hS (by decide) kr_m_length (by decide) hg40 d_MD_readMethod_126 (fun s46 e47 H locs hP hS => ?_)
      replace h := xw_letI e47 h
      refine lv_iconst (v := xw_i 0) hx hb d_MD_readMethod_127 rfl ?_
      refine lv_istore_n hx hb d_MD_readMethod_128 rfl hl (by decide) rfl (fun ls hl => ?_)
      refine xw_jnI (fun j => ∀ (sq : xw_S), j sq = some sZ → ∀ (H : Heap) (locs : List Loc) (ls : Array Slot), va_P D vwCl (xw_ws kdR 29 ad cs Z sq) H → va_S A s.heap H locs → lv_has ls 3 [(0, .ref (ad 0)), (1, .int (xw_i p1))] → W p l e (headSpec w_MD_readMethod ({ frames := 2, cells := 0, slots := 0, locals := 45 })).room s m [.ref (ad 0), .int (xw_i p1)].toArray below meth c H locs 0 0 (MQ below (va_Qv (fun u => u = sZ) (xw_H D vwCl A kdR 29 ad cs Z tt) A) [.ref (ad 0), .int (xw_i p1)].toArray s 0 0 A) (F0 m 171 ls [])) h ?_ ?_
      · intro s62 h H locs ls hP hS hl
        refine lv_aload_n hx hb d_MD_readMethod_171 rfl (lv_at hl 0 rfl) ?_
        refine xw_getR (C := "AdviceWeaverModel") (T := T_MD) hx hb hts hin_MD hown hK hP (by decide) kr_MD (by decide) rfl 8 (by decide) (hts _ hw_449) (fun _ h9 => h9) rfl d_MD_readMethod_172 ?_
        refine lv_iload_n hx hb d_MD_readMethod_175 rfl (lv_at hl 1 rfl) ?_
        refine lv_aload_n hx hb d_MD_readMethod_176 rfl (lv_at hl 0 rfl) ?_
        refine lv_iconst (v := xw_i 0) hx hb d_MD_readMethod_177 rfl ?_
        refine lv_iconst (v := xw_i 3) hx hb d_MD_readMethod_178 rfl ?_
        obtain ⟨s63, r65, hc64, h⟩ := xw_bn2I h
        refine xw_callVi (C := "AdviceWeaverModel") (T := T_MD) ⟨hx, hb, hml, hown, hts⟩ (c_MD_next l D A ad cs Z tt fu s62 s63 0 3 r65 hc64) (cwV 2 hts (gd_V hw_440 hw_441 hw_442 hw_433 hw_443) rfl rfl rfl (by decide +kernel) ⟨Nat.le_of_ble_eq_true rfl, Nat.le_of_ble_eq_true rfl⟩) hP hK hD hX hS (by decide) kr_MD (by decide) rfl rfl hl.1 rfl (Nat.le_of_ble_eq_true rfl) d_MD_readMethod_179 (fun H locs hP hS => ?_)
        obtain ⟨hg66, h⟩ := xw_grdI h
        refine xw_iast hx hb hK hP hD hS (by decide) kr_m_handlers (by decide) hg66 d_MD_readMethod_182 (fun s67 e68 H locs hP hS => ?_)
        replace h := xw_letI e68 h
        refine lv_iconst (v := xw_i 0) hx hb d_MD_readMethod_183 rfl ?_
        refine lv_istore_n hx hb d_MD_readMethod_184 rfl hl (by decide) rfl (fun ls hl => ?_)
        refine xw_jnI (fun j => ∀ (sq : xw_S), j sq = some sZ → ∀ (H : Heap) (locs : List Loc) (ls : Array Slot), va_P D vwCl (xw_ws kdR 29 ad cs Z sq) H → va_S A s.heap H locs → lv_has ls 3 [] → W p l e (headSpec w_MD_readMethod ({ frames := 2, cells := 0, slots := 0, locals := 45 })).room s m [.ref (ad 0), .int (xw_i p1)].toArray below meth c H locs 0 0 (MQ below (va_Qv (fun u => u = sZ) (xw_H D vwCl A kdR 29 ad cs Z tt) A) [.ref (ad 0), .int (xw_i p1)].toArray s 0 0 A) (F0 m 241 ls [])) h ?_ ?_
        · intro s86 h H locs ls hP hS hl
          exact xw_vretE hx hb hr hlk hP hK hD hX hS h d_MD_readMethod_241
        · intro k241 hk241 h
          exact hlp185 p1 k241 hk241 fu s67 0 h _ _ _ hP hS (lv_sub hl [1, 2, 0] rfl)
      · intro k171 hk171 h
        exact hlp129 p1 k171 hk171 fu s46 0 h _ _ _ hP hS (lv_sub hl [1, 2, 0] rfl)
    · intro j95 hj95 h
      obtain ⟨hg28, h⟩ := xw_grdI h
      refine xw_if_ge (tgt := 94) hx hb hg28 d_MD_readMethod_82 (by decide) (fun hc29 => ?_) (fun hc29 => ?_)
      · replace h := xw_ifT hc29 h
        refine lv_iconst (v := xw_i 0) hx hb d_MD_readMethod_94 rfl ?_
        exact hj95 s26 0 p1 h _ _ _ hP hS (lv_sub hl [0, 1] rfl)
      · replace h := xw_ifF hc29 h
        refine lv_aload_n hx hb d_MD_readMethod_85 rfl (lv_at hl 0 rfl) ?_
        refine xw_getR (C := "AdviceWeaverModel") (T := T_MD) hx hb hts hin_MD hown hK hP (by decide) kr_MD (by decide) rfl 3 (by decide) (hts _ hw_444) (fun _ h9 => h9) rfl d_MD_readMethod_86 ?_
        refine lv_iload_n hx hb d_MD_readMethod_89 rfl (lv_at hl 1 rfl) ?_
        refine xw_iald hx hb hK hP (by decide) kr_m_args (by decide) hg25 d_MD_readMethod_90 ?_
        refine lv_goto (tgt := 95) hx hb d_MD_readMethod_91 (by decide) ?_
        exact hj95 s26 (s26.1 3 (p1).toNat) p1 h _ _ _ hP hS (lv_sub hl [0, 1] rfl)
  · intro k60 hk60 h
    exact hlp17 p1 k60 hk60 fu s5 8 h _ _ _ hP hS (lv_sub hl [1, 2, 0] rfl)
def f_MD_op (fu : Nat) (s0 : xw_S) (p1 : Int) (p2 : Int) : Option (xw_S × Int) :=
 xw_grd ((0 ≤ (120 * p1) + p2 ∧ (120 * p1) + p2 < ((1440 : Nat) : Int))) (some (s0, s0.1 7 ((120 * p1) + p2).toNat))
set_option maxRecDepth 100000 in
set_option maxHeartbeats 4000000 in
theorem c_MD_op (l : Launch) (D : va_G) (A : Nat → Prop) (ad : Nat → Nat) (cs : Nat → ClassId) (Z : va_W) (tt : Nat → Nat) (fu : Nat) (s0 sZ : xw_S) (p1 : Int) (p2 : Int) (r0 : Int) (h : f_MD_op fu s0 p1 p2 = some (sZ, r0)) : Met l y_MD_op w_MD_op ({ frames := 0, cells := 0, slots := 0, locals := 0 }) (va_Pc [.ref (ad 0), .int (xw_i p1), .int (xw_i p2)] (xw_H D vwCl A kdR 29 ad cs Z tt s0)) (va_Qi (fun r u => r = xw_i r0 ∧ u = sZ) (xw_H D vwCl A kdR 29 ad cs Z tt) A) 0 0 A := by
  refine Met.ofW (cc := b_MD_op) (maxL := 3) (ret := (some .int)) (by decide) rfl ?_
  intro p e s m args below meth c s₁ B hml hv
  obtain ⟨rfl, hP, hK, hD, hX⟩ := hv
  have hx := B.exec
  have hb := B.bytes
  have hr := B.returns
  have hts0 := atoms_spec (ws := w_MD_op) B.pre
  have hts := fun w (hw : w ∈ wAll) => hts0 w (List.mem_cons_of_mem _ hw)
  have hown : s.vm.findClass "AdviceWeaverModel" = some m.cls := findClass_of_methodNamed B.named
  have hlk := B.notSynchronized
  clear hts0 B
  have hS : va_S A s.heap s.heap [] := va_S.rf
  have hl := lv_entry [.ref (ad 0), .int (xw_i p1), .int (xw_i p2)] (n := 3) (Nat.le_of_ble_eq_true rfl)
  rw [lg_entry_eq]
  generalize (lg_sl [.ref (ad 0), .int (xw_i p1), .int (xw_i p2)] ++ List.replicate (3 - (lg_sl [.ref (ad 0), .int (xw_i p1), .int (xw_i p2)]).length) Slot.unset).toArray = ls at hl ⊢
  have hl : lv_has ls 3 [(0, .ref (ad 0)), (1, .int (xw_i p1)), (2, .int (xw_i p2))] := hl
  unfold f_MD_op at h
  refine lv_aload_n hx hb d_MD_op_0 rfl (lv_at hl 0 rfl) ?_
  refine xw_getR (C := "AdviceWeaverModel") (T := T_MD) hx hb hts hin_MD hown hK hP (by decide) kr_MD (by decide) rfl 7 (by decide) (hts _ hw_448) (fun _ h9 => h9) rfl d_MD_op_1 ?_
  refine lv_bipush (v := xw_i 120) hx hb d_MD_op_4 (by decide) ?_
  refine lv_iload_n hx hb d_MD_op_6 rfl (lv_at hl 1 rfl) ?_
  refine xw_imul hx hb d_MD_op_7 ?_
  refine lv_iload_n hx hb d_MD_op_8 rfl (lv_at hl 2 rfl) ?_
  refine xw_iadd hx hb d_MD_op_9 ?_
  obtain ⟨hg1, h⟩ := xw_grdI h
  refine xw_iald hx hb hK hP (by decide) kr_m_code (by decide) hg1 d_MD_op_10 ?_
  exact xw_iretE hx hb hr hlk hP hK hD hX hS h d_MD_op_11
def f_MD_sizeOf (fu : Nat) (s0 : xw_S) (p0 : Int) : Option (xw_S × Int) :=
 xw_grd (xw_r p0) (xw_if (p0 = 16) (some (s0, 3))
 (xw_jn (fun (s5 : xw_S) => xw_jn (fun (s9 : xw_S) => xw_jn (fun (s13 : xw_S) => xw_grd (xw_r p0) (xw_if (p0 = 30) (some (s13, 2))
 (xw_if (p0 = 31) (some (s13, 2))
 (xw_jn (fun (s22 : xw_S) => some (s22, 1))
 (fun (j72 : xw_S → Option (xw_S × Int)) => xw_jn (fun (s19 : xw_S) => xw_grd (xw_r p0) (xw_if (p0 = 32) (j72 s19)
 (some (s19, 0))))
 (fun (j66 : xw_S → Option (xw_S × Int)) => xw_if (p0 < 0) (j66 s13)
 (xw_if (p0 ≤ 15) (j72 s13)
 (j66 s13))))))))
 (fun (j42 : xw_S → Option (xw_S × Int)) => xw_grd (xw_r p0) (xw_if (p0 < 10) (j42 s9)
 (xw_if (p0 ≤ 13) (some (s9, 2))
 (j42 s9)))))
 (fun (j30 : xw_S → Option (xw_S × Int)) => xw_grd (xw_r p0) (xw_if (p0 < 1) (j30 s5)
 (xw_if (p0 ≤ 3) (some (s5, 2))
 (j30 s5)))))
 (fun (j20 : xw_S → Option (xw_S × Int)) => xw_if (p0 < 20) (j20 s0)
 (xw_if (22 < p0) (j20 s0)
 (some (s0, 3))))))
set_option maxRecDepth 100000 in
set_option maxHeartbeats 4000000 in
theorem c_MD_sizeOf (l : Launch) (D : va_G) (A : Nat → Prop) (ad : Nat → Nat) (cs : Nat → ClassId) (Z : va_W) (tt : Nat → Nat) (fu : Nat) (s0 sZ : xw_S) (p0 : Int) (r0 : Int) (h : f_MD_sizeOf fu s0 p0 = some (sZ, r0)) : Met l y_MD_sizeOf w_MD_sizeOf ({ frames := 0, cells := 0, slots := 0, locals := 0 }) (va_Pc [.int (xw_i p0)] (xw_H D vwCl A kdR 29 ad cs Z tt s0)) (va_Qi (fun r u => r = xw_i r0 ∧ u = sZ) (xw_H D vwCl A kdR 29 ad cs Z tt) A) 0 0 A := by
  refine Met.ofW (cc := b_MD_sizeOf) (maxL := 1) (ret := (some .int)) (by decide) rfl ?_
  intro p e s m args below meth c s₁ B hml hv
  obtain ⟨rfl, hP, hK, hD, hX⟩ := hv
  have hx := B.exec
  have hb := B.bytes
  have hr := B.returns
  have hts0 := atoms_spec (ws := w_MD_sizeOf) B.pre
  have hts := fun w (hw : w ∈ wAll) => hts0 w (List.mem_cons_of_mem _ hw)
  have hown : s.vm.findClass "AdviceWeaverModel" = some m.cls := findClass_of_methodNamed B.named
  have hlk := B.notSynchronized
  clear hts0 B
  have hS : va_S A s.heap s.heap [] := va_S.rf
  have hl := lv_entry [.int (xw_i p0)] (n := 1) (Nat.le_of_ble_eq_true rfl)
  rw [lg_entry_eq]
  generalize (lg_sl [.int (xw_i p0)] ++ List.replicate (1 - (lg_sl [.int (xw_i p0)]).length) Slot.unset).toArray = ls at hl ⊢
  have hl : lv_has ls 1 [(0, .int (xw_i p0))] := hl
  unfold f_MD_sizeOf at h
  refine lv_iload_n hx hb d_MD_sizeOf_0 rfl (lv_at hl 0 rfl) ?_
  refine lv_bipush (v := xw_i 16) hx hb d_MD_sizeOf_1 (by decide) ?_
  obtain ⟨hg1, h⟩ := xw_grdI h
  refine xw_icmp_eq (tgt := 18) hx hb hg1 (by decide) d_MD_sizeOf_3 (by decide) (fun hc2 => ?_) (fun hc2 => ?_)
  · replace h := xw_ifT hc2 h
    refine lv_iconst (v := xw_i 3) hx hb d_MD_sizeOf_18 rfl ?_
    exact xw_iretE hx hb hr hlk hP hK hD hX hS h d_MD_sizeOf_19
  · replace h := xw_ifF hc2 h
    refine lv_iload_n hx hb d_MD_sizeOf_6 rfl (lv_at hl 0 rfl) ?_
    refine lv_bipush (v := xw_i 20) hx hb d_MD_sizeOf_7 (by decide) ?_
    refine xw_jnI (fun j => ∀ (sq : xw_S), j sq = some (sZ, r0) → ∀ (H : Heap) (locs : List Loc) (ls : Array Slot), va_P D vwCl (xw_ws kdR 29 ad cs Z sq) H → va_S A s.heap H locs → lv_has ls 1 [(0, .int (xw_i p0))] → W p l e (headSpec w_MD_sizeOf ({ frames := 0, cells := 0, slots := 0, locals := 0 })).room s m [.int (xw_i p0)].toArray below meth c H locs 0 0 (MQ below (va_Qi (fun r u => r = xw_i r0 ∧ u = sZ) (xw_H D vwCl A kdR 29 ad cs Z tt) A) [.int (xw_i p0)].toArray s 0 0 A) (F0 m 20 ls [])) h ?_ ?_
    · intro s5 h H locs ls hP hS hl
      refine lv_iload_n hx hb d_MD_sizeOf_20 rfl (lv_at hl 0 rfl) ?_
      refine lv_iconst (v := xw_i 1) hx hb d_MD_sizeOf_21 rfl ?_
      refine xw_jnI (fun j => ∀ (sq : xw_S), j sq = some (sZ, r0) → ∀ (H : Heap) (locs : List Loc) (ls : Array Slot), va_P D vwCl (xw_ws kdR 29 ad cs Z sq) H → va_S A s.heap H locs → lv_has ls 1 [(0, .int (xw_i p0))] → W p l e (headSpec w_MD_sizeOf ({ frames := 0, cells := 0, slots := 0, locals := 0 })).room s m [.int (xw_i p0)].toArray below meth c H locs 0 0 (MQ below (va_Qi (fun r u => r = xw_i r0 ∧ u = sZ) (xw_H D vwCl A kdR 29 ad cs Z tt) A) [.int (xw_i p0)].toArray s 0 0 A) (F0 m 30 ls [])) h ?_ ?_
      · intro s9 h H locs ls hP hS hl
        refine lv_iload_n hx hb d_MD_sizeOf_30 rfl (lv_at hl 0 rfl) ?_
        refine lv_bipush (v := xw_i 10) hx hb d_MD_sizeOf_31 (by decide) ?_
        refine xw_jnI (fun j => ∀ (sq : xw_S), j sq = some (sZ, r0) → ∀ (H : Heap) (locs : List Loc) (ls : Array Slot), va_P D vwCl (xw_ws kdR 29 ad cs Z sq) H → va_S A s.heap H locs → lv_has ls 1 [(0, .int (xw_i p0))] → W p l e (headSpec w_MD_sizeOf ({ frames := 0, cells := 0, slots := 0, locals := 0 })).room s m [.int (xw_i p0)].toArray below meth c H locs 0 0 (MQ below (va_Qi (fun r u => r = xw_i r0 ∧ u = sZ) (xw_H D vwCl A kdR 29 ad cs Z tt) A) [.int (xw_i p0)].toArray s 0 0 A) (F0 m 42 ls [])) h ?_ ?_
        · intro s13 h H locs ls hP hS hl
          refine lv_iload_n hx hb d_MD_sizeOf_42 rfl (lv_at hl 0 rfl) ?_
          refine lv_bipush (v := xw_i 30) hx hb d_MD_sizeOf_43 (by decide) ?_
          obtain ⟨hg14, h⟩ := xw_grdI h
          refine xw_icmp_eq (tgt := 54) hx hb hg14 (by decide) d_MD_sizeOf_45 (by decide) (fun hc15 => ?_) (fun hc15 => ?_)
          · replace h := xw_ifT hc15 h
            refine lv_iconst (v := xw_i 2) hx hb d_MD_sizeOf_54 rfl ?_
            exact xw_iretE hx hb hr hlk hP hK hD hX hS h d_MD_sizeOf_55
          · replace h := xw_ifF hc15 h
            refine lv_iload_n hx hb d_MD_sizeOf_48 rfl (lv_at hl 0 rfl) ?_
            refine lv_bipush (v := xw_i 31) hx hb d_MD_sizeOf_49 (by decide) ?_
            refine xw_icmp_ne (tgt := 56) hx hb hg14 (by decide) d_MD_sizeOf_51 (by decide) (fun hc16 => ?_) (fun hc16 => ?_)
            · replace h := xw_ifF hc16 h
              refine lv_iload_n hx hb d_MD_sizeOf_56 rfl (lv_at hl 0 rfl) ?_
              refine xw_jnI (fun j => ∀ (sq : xw_S), j sq = some (sZ, r0) → ∀ (H : Heap) (locs : List Loc) (ls : Array Slot), va_P D vwCl (xw_ws kdR 29 ad cs Z sq) H → va_S A s.heap H locs → lv_has ls 1 [] → W p l e (headSpec w_MD_sizeOf ({ frames := 0, cells := 0, slots := 0, locals := 0 })).room s m [.int (xw_i p0)].toArray below meth c H locs 0 0 (MQ below (va_Qi (fun r u => r = xw_i r0 ∧ u = sZ) (xw_H D vwCl A kdR 29 ad cs Z tt) A) [.int (xw_i p0)].toArray s 0 0 A) (F0 m 72 ls [])) h ?_ ?_
              · intro s22 h H locs ls hP hS hl
                refine lv_iconst (v := xw_i 1) hx hb d_MD_sizeOf_72 rfl ?_
                refine lv_goto (tgt := 77) hx hb d_MD_sizeOf_73 (by decide) ?_
                exact xw_iretE hx hb hr hlk hP hK hD hX hS h d_MD_sizeOf_77
              · intro j72 hj72 h
                refine xw_jnI (fun j => ∀ (sq : xw_S), j sq = some (sZ, r0) → ∀ (H : Heap) (locs : List Loc) (ls : Array Slot), va_P D vwCl (xw_ws kdR 29 ad cs Z sq) H → va_S A s.heap H locs → lv_has ls 1 [(0, .int (xw_i p0))] → W p l e (headSpec w_MD_sizeOf ({ frames := 0, cells := 0, slots := 0, locals := 0 })).room s m [.int (xw_i p0)].toArray below meth c H locs 0 0 (MQ below (va_Qi (fun r u => r = xw_i r0 ∧ u = sZ) (xw_H D vwCl A kdR 29 ad cs Z tt) A) [.int (xw_i p0)].toArray s 0 0 A) (F0 m 66 ls [])) h ?_ ?_
                · intro s19 h H locs ls hP hS hl
                  refine lv_iload_n hx hb d_MD_sizeOf_66 rfl (lv_at hl 0 rfl) ?_
                  refine lv_bipush (v := xw_i 32) hx hb d_MD_sizeOf_67 (by decide) ?_
                  obtain ⟨hg20, h⟩ := xw_grdI h
                  refine xw_icmp_ne (tgt := 76) hx hb hg20 (by decide) d_MD_sizeOf_69 (by decide) (fun hc21 => ?_) (fun hc21 => ?_)
                  · replace h := xw_ifF hc21 h
                    refine lv_iconst (v := xw_i 0) hx hb d_MD_sizeOf_76 rfl ?_
                    exact xw_iretE hx hb hr hlk hP hK hD hX hS h d_MD_sizeOf_77
                  · replace h := xw_ifT hc21 h
                    exact hj72 s19 h _ _ _ hP hS (lv_sub hl [] rfl)
                · intro j66 hj66 h
                  refine xw_if_lt (tgt := 66) hx hb hg14 d_MD_sizeOf_57 (by decide) (fun hc17 => ?_) (fun hc17 => ?_)
                  · replace h := xw_ifT hc17 h
                    exact hj66 s13 h _ _ _ hP hS (lv_sub hl [0] rfl)
                  · replace h := xw_ifF hc17 h
                    refine lv_iload_n hx hb d_MD_sizeOf_60 rfl (lv_at hl 0 rfl) ?_
                    refine lv_bipush (v := xw_i 15) hx hb d_MD_sizeOf_61 (by decide) ?_
                    refine xw_icmp_le (tgt := 72) hx hb hg14 (by decide) d_MD_sizeOf_63 (by decide) (fun hc18 => ?_) (fun hc18 => ?_)
                    · replace h := xw_ifT hc18 h
                      exact hj72 s13 h _ _ _ hP hS (lv_sub hl [] rfl)
                    · replace h := xw_ifF hc18 h
                      exact hj66 s13 h _ _ _ hP hS (lv_sub hl [0] rfl)
            · replace h := xw_ifT hc16 h
              refine lv_iconst (v := xw_i 2) hx hb d_MD_sizeOf_54 rfl ?_
              exact xw_iretE hx hb hr hlk hP hK hD hX hS h d_MD_sizeOf_55
        · intro j42 hj42 h
          obtain ⟨hg10, h⟩ := xw_grdI h
          refine xw_icmp_lt (tgt := 42) hx hb hg10 (by decide) d_MD_sizeOf_33 (by decide) (fun hc11 => ?_) (fun hc11 => ?_)
          · replace h := xw_ifT hc11 h
            exact hj42 s9 h _ _ _ hP hS (lv_sub hl [0] rfl)
          · replace h := xw_ifF hc11 h
            refine lv_iload_n hx hb d_MD_sizeOf_36 rfl (lv_at hl 0 rfl) ?_
            refine lv_bipush (v := xw_i 13) hx hb d_MD_sizeOf_37 (by decide) ?_
            refine xw_icmp_le (tgt := 54) hx hb hg10 (by decide) d_MD_sizeOf_39 (by decide) (fun hc12 => ?_) (fun hc12 => ?_)
            · replace h := xw_ifT hc12 h
              refine lv_iconst (v := xw_i 2) hx hb d_MD_sizeOf_54 rfl ?_
              exact xw_iretE hx hb hr hlk hP hK hD hX hS h d_MD_sizeOf_55
            · replace h := xw_ifF hc12 h
              exact hj42 s9 h _ _ _ hP hS (lv_sub hl [0] rfl)
      · intro j30 hj30 h
        obtain ⟨hg6, h⟩ := xw_grdI h
        refine xw_icmp_lt (tgt := 30) hx hb hg6 (by decide) d_MD_sizeOf_22 (by decide) (fun hc7 => ?_) (fun hc7 => ?_)
        · replace h := xw_ifT hc7 h
          exact hj30 s5 h _ _ _ hP hS (lv_sub hl [0] rfl)
        · replace h := xw_ifF hc7 h
          refine lv_iload_n hx hb d_MD_sizeOf_25 rfl (lv_at hl 0 rfl) ?_
          refine lv_iconst (v := xw_i 3) hx hb d_MD_sizeOf_26 rfl ?_
          refine xw_icmp_le (tgt := 54) hx hb hg6 (by decide) d_MD_sizeOf_27 (by decide) (fun hc8 => ?_) (fun hc8 => ?_)
          · replace h := xw_ifT hc8 h
            refine lv_iconst (v := xw_i 2) hx hb d_MD_sizeOf_54 rfl ?_
            exact xw_iretE hx hb hr hlk hP hK hD hX hS h d_MD_sizeOf_55
          · replace h := xw_ifF hc8 h
            exact hj30 s5 h _ _ _ hP hS (lv_sub hl [0] rfl)
    · intro j20 hj20 h
      refine xw_icmp_lt (tgt := 20) hx hb hg1 (by decide) d_MD_sizeOf_9 (by decide) (fun hc3 => ?_) (fun hc3 => ?_)
      · replace h := xw_ifT hc3 h
        exact hj20 s0 h _ _ _ hP hS (lv_sub hl [0] rfl)
      · replace h := xw_ifF hc3 h
        refine lv_iload_n hx hb d_MD_sizeOf_12 rfl (lv_at hl 0 rfl) ?_
        refine lv_bipush (v := xw_i 22) hx hb d_MD_sizeOf_13 (by decide) ?_
        refine xw_icmp_gt (tgt := 20) hx hb hg1 (by decide) d_MD_sizeOf_15 (by decide) (fun hc4 => ?_) (fun hc4 => ?_)
        · replace h := xw_ifT hc4 h
          exact hj20 s0 h _ _ _ hP hS (lv_sub hl [0] rfl)
        · replace h := xw_ifF hc4 h
          refine lv_iconst (v := xw_i 3) hx hb d_MD_sizeOf_18 rfl ?_
          exact xw_iretE hx hb hr hlk hP hK hD hX hS h d_MD_sizeOf_19
def lp_MD_divide_2 (fu : Nat) (c1_2 : Int) (k21 : xw_S → Option (xw_S × Int)) : Nat → xw_S → Int → Option (xw_S × Int)
  | 0, _, _ => none
  | n + 1, s1, i2_2 =>
    xw_grd (xw_r i2_2) (xw_if (120 < i2_2) (k21 s1)
     (xw_grd ((0 ≤ i2_2 ∧ i2_2 < ((121 : Nat) : Int))) (xw_let (xw_st s1 14 (i2_2).toNat 0) (fun s5 => xw_let (i2_2 + 1) (fun v7 => lp_MD_divide_2 fu c1_2 k21 n s5 v7)))))
def lp_MD_divide_23 (fu : Nat) (c1_23 : Int) (k59 : xw_S → Option (xw_S × Int)) (k75 : xw_S → Option (xw_S × Int)) : Nat → xw_S → Int → Option (xw_S × Int)
  | 0, _, _ => none
  | n + 1, s10, i2_23 =>
    xw_grd ((0 ≤ c1_23 ∧ c1_23 < ((12 : Nat) : Int))) (xw_grd (xw_r i2_23 ∧ xw_r (s10.1 6 (c1_23).toNat)) (xw_if (s10.1 6 (c1_23).toNat ≤ i2_23) (k75 s10)
     (xw_bn2 (f_MD_op fu s10 c1_23 i2_23) (fun s14 r16 => xw_bn2 (f_MD_sizeOf fu s14 r16) (fun s17 r19 => xw_grd (xw_r r19) (xw_if (r19 = 0) (k59 s17)
     (xw_grd (xw_r (i2_23 + r19) ∧ xw_r (s17.1 6 (c1_23).toNat)) (xw_if (i2_23 + r19 ≤ s17.1 6 (c1_23).toNat) (xw_grd ((0 ≤ i2_23 ∧ i2_23 < ((121 : Nat) : Int))) (xw_let (xw_st s17 14 (i2_23).toNat 1) (fun s25 => xw_let (i2_23 + r19) (fun v27 => lp_MD_divide_23 fu c1_23 k59 k75 n s25 v27))))
     (k59 s17)))))))))
def f_MD_divide (fu : Nat) (s0 : xw_S) (p1 : Int) : Option (xw_S × Int) :=
 xw_jn (fun (s9 : xw_S) => xw_jn (fun (s30 : xw_S) => some (s30, 1))
 (fun (k75 : xw_S → Option (xw_S × Int)) => xw_jn (fun (s29 : xw_S) => some (s29, 0))
 (fun (k59 : xw_S → Option (xw_S × Int)) => lp_MD_divide_23 fu p1 k59 k75 fu s9 0)))
 (fun (k21 : xw_S → Option (xw_S × Int)) => lp_MD_divide_2 fu p1 k21 fu s0 0)
set_option maxRecDepth 100000 in
set_option maxHeartbeats 4000000 in
theorem c_MD_divide (l : Launch) (D : va_G) (A : Nat → Prop) (ad : Nat → Nat) (cs : Nat → ClassId) (Z : va_W) (tt : Nat → Nat) (fu : Nat) (s0 sZ : xw_S) (p1 : Int) (r0 : Int) (h : f_MD_divide fu s0 p1 = some (sZ, r0)) : Met l y_MD_divide w_MD_divide ({ frames := 1, cells := 0, slots := 0, locals := 22 }) (va_Pc [.ref (ad 0), .int (xw_i p1)] (xw_H D vwCl A kdR 29 ad cs Z tt s0)) (va_Qi (fun r u => r = xw_i r0 ∧ u = sZ) (xw_H D vwCl A kdR 29 ad cs Z tt) A) 0 0 A := by
  refine Met.ofW (cc := b_MD_divide) (maxL := 4) (ret := (some .boolean)) (by decide) rfl ?_
  intro p e s m args below meth c s₁ B hml hv
  obtain ⟨rfl, hP, hK, hD, hX⟩ := hv
  have hx := B.exec
  have hb := B.bytes
  have hr := B.returns
  have hts0 := atoms_spec (ws := w_MD_divide) B.pre
  have hts := fun w (hw : w ∈ wAll) => hts0 w (List.mem_cons_of_mem _ hw)
  have hown : s.vm.findClass "AdviceWeaverModel" = some m.cls := findClass_of_methodNamed B.named
  have hlk := B.notSynchronized
  clear hts0 B
  have hS : va_S A s.heap s.heap [] := va_S.rf
  have hl := lv_entry [.ref (ad 0), .int (xw_i p1)] (n := 4) (Nat.le_of_ble_eq_true rfl)
  rw [lg_entry_eq]
  generalize (lg_sl [.ref (ad 0), .int (xw_i p1)] ++ List.replicate (4 - (lg_sl [.ref (ad 0), .int (xw_i p1)]).length) Slot.unset).toArray = ls at hl ⊢
  have hl : lv_has ls 4 [(0, .ref (ad 0)), (1, .int (xw_i p1))] := hl
  have hlp2 : ∀ (c1_2 : Int) (k21 : xw_S → Option (xw_S × Int)) (hk21 : ∀ (sq : xw_S), k21 sq = some (sZ, r0) → ∀ (H : Heap) (locs : List Loc) (ls : Array Slot), va_P D vwCl (xw_ws kdR 29 ad cs Z sq) H → va_S A s.heap H locs → lv_has ls 4 [(0, .ref (ad 0)), (1, .int (xw_i c1_2))] → W p l e (headSpec w_MD_divide ({ frames := 1, cells := 0, slots := 0, locals := 22 })).room s m [.ref (ad 0), .int (xw_i p1)].toArray below meth c H locs 0 0 (MQ below (va_Qi (fun r u => r = xw_i r0 ∧ u = sZ) (xw_H D vwCl A kdR 29 ad cs Z tt) A) [.ref (ad 0), .int (xw_i p1)].toArray s 0 0 A) (F0 m 21 ls [])) (n : Nat), ∀ (sq : xw_S) (i2_2 : Int), lp_MD_divide_2 fu c1_2 k21 n sq i2_2 = some (sZ, r0) → ∀ (H : Heap) (locs : List Loc) (ls : Array Slot), va_P D vwCl (xw_ws kdR 29 ad cs Z sq) H → va_S A s.heap H locs → lv_has ls 4 [(0, .ref (ad 0)), (1, .int (xw_i c1_2)), (2, .int (xw_i i2_2))] → W p l e (headSpec w_MD_divide ({ frames := 1, cells := 0, slots := 0, locals := 22 })).room s m [.ref (ad 0), .int (xw_i p1)].toArray below meth c H locs 0 0 (MQ below (va_Qi (fun r u => r = xw_i r0 ∧ u = sZ) (xw_H D vwCl A kdR 29 ad cs Z tt) A) [.ref (ad 0), .int (xw_i p1)].toArray s 0 0 A) (F0 m 2 ls []) := by
    intro c1_2 k21 hk21 n
    induction n with
    | zero =>
      intro sq i2_2 h
      cases (show (none : Option (xw_S × Int)) = some (sZ, r0) from h)
    | succ n ih2 =>
      intro s1 i2_2 h H locs ls hP hS hl
      unfold lp_MD_divide_2 at h
      refine lv_iload_n hx hb d_MD_divide_2 rfl (lv_at hl 2 rfl) ?_
      refine lv_bipush (v := xw_i 120) hx hb d_MD_divide_3 (by decide) ?_
      obtain ⟨hg2, h⟩ := xw_grdI h
      refine xw_icmp_gt (tgt := 21) hx hb hg2 (by decide) d_MD_divide_5 (by decide) (fun hc3 => ?_) (fun hc3 => ?_)
      · replace h := xw_ifT hc3 h
        exact hk21 s1 h _ _ _ hP hS (lv_sub hl [0, 1] rfl)
      · replace h := xw_ifF hc3 h
        refine lv_aload_n hx hb d_MD_divide_8 rfl (lv_at hl 0 rfl) ?_
        refine xw_getR (C := "AdviceWeaverModel") (T := T_MD) hx hb hts hin_MD hown hK hP (by decide) kr_MD (by decide) rfl 20 (by decide) (hts _ hw_451) (fun _ h9 => h9) rfl d_MD_divide_9 ?_
        refine lv_iload_n hx hb d_MD_divide_12 rfl (lv_at hl 2 rfl) ?_
        refine lv_iconst (v := xw_i 0) hx hb d_MD_divide_13 rfl ?_
        obtain ⟨hg4, h⟩ := xw_grdI h
        refine xw_zast hx hb hK hP hD hS (by decide) kr_m_begins (by decide) hg4 (by decide) d_MD_divide_14 (fun s5 e6 H locs hP hS => ?_)
        replace h := xw_letI e6 h
        obtain ⟨v7, e8⟩ : ∃ z, z = i2_2 + 1 := ⟨_, rfl⟩
        replace h := xw_letI e8 h
        refine xw_iinc (lv' := [(2, .int (xw_i v7)), (0, .ref (ad 0)), (1, .int (xw_i c1_2))]) hx hb d_MD_divide_15 hl (k := 2) rfl (by decide) (by rw [e8]; rfl) (fun ls hl => ?_)
        refine lv_goto (tgt := 2) hx hb d_MD_divide_18 (by decide) ?_
        exact ih2 s5 v7 h _ _ _ hP hS (lv_sub hl [1, 2, 0] rfl)
  have hlp23 : ∀ (c1_23 : Int) (k59 : xw_S → Option (xw_S × Int)) (hk59 : ∀ (sq : xw_S), k59 sq = some (sZ, r0) → ∀ (H : Heap) (locs : List Loc) (ls : Array Slot), va_P D vwCl (xw_ws kdR 29 ad cs Z sq) H → va_S A s.heap H locs → lv_has ls 4 [] → W p l e (headSpec w_MD_divide ({ frames := 1, cells := 0, slots := 0, locals := 22 })).room s m [.ref (ad 0), .int (xw_i p1)].toArray below meth c H locs 0 0 (MQ below (va_Qi (fun r u => r = xw_i r0 ∧ u = sZ) (xw_H D vwCl A kdR 29 ad cs Z tt) A) [.ref (ad 0), .int (xw_i p1)].toArray s 0 0 A) (F0 m 59 ls [])) (k75 : xw_S → Option (xw_S × Int)) (hk75 : ∀ (sq : xw_S), k75 sq = some (sZ, r0) → ∀ (H : Heap) (locs : List Loc) (ls : Array Slot), va_P D vwCl (xw_ws kdR 29 ad cs Z sq) H → va_S A s.heap H locs → lv_has ls 4 [] → W p l e (headSpec w_MD_divide ({ frames := 1, cells := 0, slots := 0, locals := 22 })).room s m [.ref (ad 0), .int (xw_i p1)].toArray below meth c H locs 0 0 (MQ below (va_Qi (fun r u => r = xw_i r0 ∧ u = sZ) (xw_H D vwCl A kdR 29 ad cs Z tt) A) [.ref (ad 0), .int (xw_i p1)].toArray s 0 0 A) (F0 m 75 ls [])) (n : Nat), ∀ (sq : xw_S) (i2_23 : Int), lp_MD_divide_23 fu c1_23 k59 k75 n sq i2_23 = some (sZ, r0) → ∀ (H : Heap) (locs : List Loc) (ls : Array Slot), va_P D vwCl (xw_ws kdR 29 ad cs Z sq) H → va_S A s.heap H locs → lv_has ls 4 [(0, .ref (ad 0)), (1, .int (xw_i c1_23)), (2, .int (xw_i i2_23))] → W p l e (headSpec w_MD_divide ({ frames := 1, cells := 0, slots := 0, locals := 22 })).room s m [.ref (ad 0), .int (xw_i p1)].toArray below meth c H locs 0 0 (MQ below (va_Qi (fun r u => r = xw_i r0 ∧ u = sZ) (xw_H D vwCl A kdR 29 ad cs Z tt) A) [.ref (ad 0), .int (xw_i p1)].toArray s 0 0 A) (F0 m 23 ls []) := by
    intro c1_23 k59 hk59 k75 hk75 n
    induction n with
    | zero =>
      intro sq i2_23 h
      cases (show (none : Option (xw_S × Int)) = some (sZ, r0) from h)
    | succ n ih23 =>
      intro s10 i2_23 h H locs ls hP hS hl
      unfold lp_MD_divide_23 at h
      refine lv_iload_n hx hb d_MD_divide_23 rfl (lv_at hl 2 rfl) ?_
      refine lv_aload_n hx hb d_MD_divide_24 rfl (lv_at hl 0 rfl) ?_
      refine xw_getR (C := "AdviceWeaverModel") (T := T_MD) hx hb hts hin_MD hown hK hP (by decide) kr_MD (by decide) rfl 6 (by decide) (hts _ hw_447) (fun _ h9 => h9) rfl d_MD_divide_25 ?_
      refine lv_iload_n hx hb d_MD_divide_28 rfl (lv_at hl 1 rfl) ?_
      obtain ⟨hg11, h⟩ := xw_grdI h
      refine xw_iald hx hb hK hP (by decide) kr_m_length (by decide) hg11 d_MD_divide_29 ?_
      obtain ⟨hg12, h⟩ := xw_grdI h
      refine xw_icmp_ge (tgt := 75) hx hb hg12.1 hg12.2 d_MD_divide_30 (by decide) (fun hc13 => ?_) (fun hc13 => ?_)
      · replace h := xw_ifT hc13 h
        exact hk75 s10 h _ _ _ hP hS (lv_sub hl [] rfl)
      · replace h := xw_ifF hc13 h
        refine lv_aload_n hx hb d_MD_divide_33 rfl (lv_at hl 0 rfl) ?_
        refine lv_iload_n hx hb d_MD_divide_34 rfl (lv_at hl 1 rfl) ?_
        refine lv_iload_n hx hb d_MD_divide_35 rfl (lv_at hl 2 rfl) ?_
        obtain ⟨s14, r16, hc15, h⟩ := xw_bn2I h
        refine xw_callVi (C := "AdviceWeaverModel") (T := T_MD) ⟨hx, hb, hml, hown, hts⟩ (c_MD_op l D A ad cs Z tt fu s10 s14 c1_23 i2_23 r16 hc15) (cwV 2 hts (gd_V hw_452 hw_453 hw_454 hw_433 hw_455) rfl rfl rfl (by decide +kernel) ⟨Nat.le_of_ble_eq_true rfl, Nat.le_of_ble_eq_true rfl⟩) hP hK hD hX hS (by decide) kr_MD (by decide) rfl rfl hl.1 rfl (Nat.le_of_ble_eq_true rfl) d_MD_divide_36 (fun H locs hP hS => ?_)
        obtain ⟨s17, r19, hc18, h⟩ := xw_bn2I h
        refine xw_callSi ⟨hx, hb, hml, hown, hts⟩ (c_MD_sizeOf l D A ad cs Z tt fu s14 s17 r16 r19 hc18) (va_cwS 1 hts (gd_S hw_456 hw_457 hw_433 hw_458) rfl rfl rfl (by decide +kernel) ⟨Nat.le_of_ble_eq_true rfl, Nat.le_of_ble_eq_true rfl⟩) hP hK hD hX hS rfl hl.1 rfl (Nat.le_of_ble_eq_true rfl) d_MD_divide_39 (fun H locs hP hS => ?_)
        refine lv_istore_n hx hb d_MD_divide_42 rfl hl (by decide) rfl (fun ls hl => ?_)
        refine lv_iload_n hx hb d_MD_divide_43 rfl (lv_at hl 0 rfl) ?_
        obtain ⟨hg20, h⟩ := xw_grdI h
        refine xw_if_eq (tgt := 59) hx hb hg20 d_MD_divide_44 (by decide) (fun hc21 => ?_) (fun hc21 => ?_)
        · replace h := xw_ifT hc21 h
          exact hk59 s17 h _ _ _ hP hS (lv_sub hl [] rfl)
        · replace h := xw_ifF hc21 h
          refine lv_iload_n hx hb d_MD_divide_47 rfl (lv_at hl 3 rfl) ?_
          refine lv_iload_n hx hb d_MD_divide_48 rfl (lv_at hl 0 rfl) ?_
          refine xw_iadd hx hb d_MD_divide_49 ?_
          refine lv_aload_n hx hb d_MD_divide_50 rfl (lv_at hl 1 rfl) ?_
          refine xw_getR (C := "AdviceWeaverModel") (T := T_MD) hx hb hts hin_MD hown hK hP (by decide) kr_MD (by decide) rfl 6 (by decide) (hts _ hw_447) (fun _ h9 => h9) rfl d_MD_divide_51 ?_
          refine lv_iload_n hx hb d_MD_divide_54 rfl (lv_at hl 2 rfl) ?_
          refine xw_iald hx hb hK hP (by decide) kr_m_length (by decide) hg11 d_MD_divide_55 ?_
          obtain ⟨hg22, h⟩ := xw_grdI h
          refine xw_icmp_le (tgt := 61) hx hb hg22.1 hg22.2 d_MD_divide_56 (by decide) (fun hc23 => ?_) (fun hc23 => ?_)
          · replace h := xw_ifT hc23 h
            refine lv_aload_n hx hb d_MD_divide_61 rfl (lv_at hl 1 rfl) ?_
            refine xw_getR (C := "AdviceWeaverModel") (T := T_MD) hx hb hts hin_MD hown hK hP (by decide) kr_MD (by decide) rfl 20 (by decide) (hts _ hw_451) (fun _ h9 => h9) rfl d_MD_divide_62 ?_
            refine lv_iload_n hx hb d_MD_divide_65 rfl (lv_at hl 3 rfl) ?_
            refine lv_iconst (v := xw_i 1) hx hb d_MD_divide_66 rfl ?_
            obtain ⟨hg24, h⟩ := xw_grdI h
            refine xw_zast hx hb hK hP hD hS (by decide) kr_m_begins (by decide) hg24 (by decide) d_MD_divide_67 (fun s25 e26 H locs hP hS => ?_)
            replace h := xw_letI e26 h
            refine lv_iload_n hx hb d_MD_divide_68 rfl (lv_at hl 3 rfl) ?_
            refine lv_iload_n hx hb d_MD_divide_69 rfl (lv_at hl 0 rfl) ?_
            refine xw_iadd hx hb d_MD_divide_70 ?_
            refine xw_topi (fun v27 e28 => ?_)
            replace h := xw_letI e28 h
            refine lv_istore_n hx hb d_MD_divide_71 rfl hl (by decide) rfl (fun ls hl => ?_)
            refine lv_goto (tgt := 23) hx hb d_MD_divide_72 (by decide) ?_
            exact ih23 s25 v27 h _ _ _ hP hS (lv_sub hl [2, 3, 0] rfl)
          · replace h := xw_ifF hc23 h
            exact hk59 s17 h _ _ _ hP hS (lv_sub hl [] rfl)
  unfold f_MD_divide at h
  refine lv_iconst (v := xw_i 0) hx hb d_MD_divide_0 rfl ?_
  refine lv_istore_n hx hb d_MD_divide_1 rfl hl (by decide) rfl (fun ls hl => ?_)
  refine xw_jnI (fun j => ∀ (sq : xw_S), j sq = some (sZ, r0) → ∀ (H : Heap) (locs : List Loc) (ls : Array Slot), va_P D vwCl (xw_ws kdR 29 ad cs Z sq) H → va_S A s.heap H locs → lv_has ls 4 [(0, .ref (ad 0)), (1, .int (xw_i p1))] → W p l e (headSpec w_MD_divide ({ frames := 1, cells := 0, slots := 0, locals := 22 })).room s m [.ref (ad 0), .int (xw_i p1)].toArray below meth c H locs 0 0 (MQ below (va_Qi (fun r u => r = xw_i r0 ∧ u = sZ) (xw_H D vwCl A kdR 29 ad cs Z tt) A) [.ref (ad 0), .int (xw_i p1)].toArray s 0 0 A) (F0 m 21 ls [])) h ?_ ?_
  · intro s9 h H locs ls hP hS hl
    refine lv_iconst (v := xw_i 0) hx hb d_MD_divide_21 rfl ?_
    refine lv_istore_n hx hb d_MD_divide_22 rfl hl (by decide) rfl (fun ls hl => ?_)
    refine xw_jnI (fun j => ∀ (sq : xw_S), j sq = some (sZ, r0) → ∀ (H : Heap) (locs : List Loc) (ls : Array Slot), va_P D vwCl (xw_ws kdR 29 ad cs Z sq) H → va_S A s.heap H locs → lv_has ls 4 [] → W p l e (headSpec w_MD_divide ({ frames := 1, cells := 0, slots := 0, locals := 22 })).room s m [.ref (ad 0), .int (xw_i p1)].toArray below meth c H locs 0 0 (MQ below (va_Qi (fun r u => r = xw_i r0 ∧ u = sZ) (xw_H D vwCl A kdR 29 ad cs Z tt) A) [.ref (ad 0), .int (xw_i p1)].toArray s 0 0 A) (F0 m 75 ls [])) h ?_ ?_
    · intro s30 h H locs ls hP hS hl
      refine lv_iconst (v := xw_i 1) hx hb d_MD_divide_75 rfl ?_
      exact xw_zretE hx hb hr hlk hP hK hD hX hS h (by decide) d_MD_divide_76
    · intro k75 hk75 h
      refine xw_jnI (fun j => ∀ (sq : xw_S), j sq = some (sZ, r0) → ∀ (H : Heap) (locs : List Loc) (ls : Array Slot), va_P D vwCl (xw_ws kdR 29 ad cs Z sq) H → va_S A s.heap H locs → lv_has ls 4 [] → W p l e (headSpec w_MD_divide ({ frames := 1, cells := 0, slots := 0, locals := 22 })).room s m [.ref (ad 0), .int (xw_i p1)].toArray below meth c H locs 0 0 (MQ below (va_Qi (fun r u => r = xw_i r0 ∧ u = sZ) (xw_H D vwCl A kdR 29 ad cs Z tt) A) [.ref (ad 0), .int (xw_i p1)].toArray s 0 0 A) (F0 m 59 ls [])) h ?_ ?_
      · intro s29 h H locs ls hP hS hl
        refine lv_iconst (v := xw_i 0) hx hb d_MD_divide_59 rfl ?_
        exact xw_zretE hx hb hr hlk hP hK hD hX hS h (by decide) d_MD_divide_60
      · intro k59 hk59 h
        exact hlp23 p1 k59 hk59 k75 hk75 fu s9 0 h _ _ _ hP hS (lv_sub hl [1, 2, 0] rfl)
  · intro k21 hk21 h
    exact hlp2 p1 k21 hk21 fu s0 0 h _ _ _ hP hS (lv_sub hl [1, 2, 0] rfl)
def f_MD_branches (fu : Nat) (s0 : xw_S) (p0 : Int) : Option (xw_S × Int) :=
 xw_jn (fun (s8 : xw_S) => some (s8, 1))
 (fun (j24 : xw_S → Option (xw_S × Int)) => xw_jn (fun (s4 : xw_S) => xw_grd (xw_r p0) (xw_if (p0 < 20) (some (s4, 0))
 (xw_if (22 < p0) (some (s4, 0))
 (j24 s4))))
 (fun (j12 : xw_S → Option (xw_S × Int)) => xw_grd (xw_r p0) (xw_if (p0 < 10) (j12 s0)
 (xw_if (p0 ≤ 12) (j24 s0)
 (j12 s0)))))
set_option maxRecDepth 100000 in
set_option maxHeartbeats 4000000 in
theorem c_MD_branches (l : Launch) (D : va_G) (A : Nat → Prop) (ad : Nat → Nat) (cs : Nat → ClassId) (Z : va_W) (tt : Nat → Nat) (fu : Nat) (s0 sZ : xw_S) (p0 : Int) (r0 : Int) (h : f_MD_branches fu s0 p0 = some (sZ, r0)) : Met l y_MD_branches w_MD_branches ({ frames := 0, cells := 0, slots := 0, locals := 0 }) (va_Pc [.int (xw_i p0)] (xw_H D vwCl A kdR 29 ad cs Z tt s0)) (va_Qi (fun r u => r = xw_i r0 ∧ u = sZ) (xw_H D vwCl A kdR 29 ad cs Z tt) A) 0 0 A := by
  refine Met.ofW (cc := b_MD_branches) (maxL := 1) (ret := (some .boolean)) (by decide) rfl ?_
  intro p e s m args below meth c s₁ B hml hv
  obtain ⟨rfl, hP, hK, hD, hX⟩ := hv
  have hx := B.exec
  have hb := B.bytes
  have hr := B.returns
  have hts0 := atoms_spec (ws := w_MD_branches) B.pre
  have hts := fun w (hw : w ∈ wAll) => hts0 w (List.mem_cons_of_mem _ hw)
  have hown : s.vm.findClass "AdviceWeaverModel" = some m.cls := findClass_of_methodNamed B.named
  have hlk := B.notSynchronized
  clear hts0 B
  have hS : va_S A s.heap s.heap [] := va_S.rf
  have hl := lv_entry [.int (xw_i p0)] (n := 1) (Nat.le_of_ble_eq_true rfl)
  rw [lg_entry_eq]
  generalize (lg_sl [.int (xw_i p0)] ++ List.replicate (1 - (lg_sl [.int (xw_i p0)]).length) Slot.unset).toArray = ls at hl ⊢
  have hl : lv_has ls 1 [(0, .int (xw_i p0))] := hl
  unfold f_MD_branches at h
  refine lv_iload_n hx hb d_MD_branches_0 rfl (lv_at hl 0 rfl) ?_
  refine lv_bipush (v := xw_i 10) hx hb d_MD_branches_1 (by decide) ?_
  refine xw_jnI (fun j => ∀ (sq : xw_S), j sq = some (sZ, r0) → ∀ (H : Heap) (locs : List Loc) (ls : Array Slot), va_P D vwCl (xw_ws kdR 29 ad cs Z sq) H → va_S A s.heap H locs → lv_has ls 1 [] → W p l e (headSpec w_MD_branches ({ frames := 0, cells := 0, slots := 0, locals := 0 })).room s m [.int (xw_i p0)].toArray below meth c H locs 0 0 (MQ below (va_Qi (fun r u => r = xw_i r0 ∧ u = sZ) (xw_H D vwCl A kdR 29 ad cs Z tt) A) [.int (xw_i p0)].toArray s 0 0 A) (F0 m 24 ls [])) h ?_ ?_
  · intro s8 h H locs ls hP hS hl
    refine lv_iconst (v := xw_i 1) hx hb d_MD_branches_24 rfl ?_
    refine lv_goto (tgt := 29) hx hb d_MD_branches_25 (by decide) ?_
    exact xw_zretE hx hb hr hlk hP hK hD hX hS h (by decide) d_MD_branches_29
  · intro j24 hj24 h
    refine xw_jnI (fun j => ∀ (sq : xw_S), j sq = some (sZ, r0) → ∀ (H : Heap) (locs : List Loc) (ls : Array Slot), va_P D vwCl (xw_ws kdR 29 ad cs Z sq) H → va_S A s.heap H locs → lv_has ls 1 [(0, .int (xw_i p0))] → W p l e (headSpec w_MD_branches ({ frames := 0, cells := 0, slots := 0, locals := 0 })).room s m [.int (xw_i p0)].toArray below meth c H locs 0 0 (MQ below (va_Qi (fun r u => r = xw_i r0 ∧ u = sZ) (xw_H D vwCl A kdR 29 ad cs Z tt) A) [.int (xw_i p0)].toArray s 0 0 A) (F0 m 12 ls [])) h ?_ ?_
    · intro s4 h H locs ls hP hS hl
      refine lv_iload_n hx hb d_MD_branches_12 rfl (lv_at hl 0 rfl) ?_
      refine lv_bipush (v := xw_i 20) hx hb d_MD_branches_13 (by decide) ?_
      obtain ⟨hg5, h⟩ := xw_grdI h
      refine xw_icmp_lt (tgt := 28) hx hb hg5 (by decide) d_MD_branches_15 (by decide) (fun hc6 => ?_) (fun hc6 => ?_)
      · replace h := xw_ifT hc6 h
        refine lv_iconst (v := xw_i 0) hx hb d_MD_branches_28 rfl ?_
        exact xw_zretE hx hb hr hlk hP hK hD hX hS h (by decide) d_MD_branches_29
      · replace h := xw_ifF hc6 h
        refine lv_iload_n hx hb d_MD_branches_18 rfl (lv_at hl 0 rfl) ?_
        refine lv_bipush (v := xw_i 22) hx hb d_MD_branches_19 (by decide) ?_
        refine xw_icmp_gt (tgt := 28) hx hb hg5 (by decide) d_MD_branches_21 (by decide) (fun hc7 => ?_) (fun hc7 => ?_)
        · replace h := xw_ifT hc7 h
          refine lv_iconst (v := xw_i 0) hx hb d_MD_branches_28 rfl ?_
          exact xw_zretE hx hb hr hlk hP hK hD hX hS h (by decide) d_MD_branches_29
        · replace h := xw_ifF hc7 h
          exact hj24 s4 h _ _ _ hP hS (lv_sub hl [] rfl)
    · intro j12 hj12 h
      obtain ⟨hg1, h⟩ := xw_grdI h
      refine xw_icmp_lt (tgt := 12) hx hb hg1 (by decide) d_MD_branches_3 (by decide) (fun hc2 => ?_) (fun hc2 => ?_)
      · replace h := xw_ifT hc2 h
        exact hj12 s0 h _ _ _ hP hS (lv_sub hl [0] rfl)
      · replace h := xw_ifF hc2 h
        refine lv_iload_n hx hb d_MD_branches_6 rfl (lv_at hl 0 rfl) ?_
        refine lv_bipush (v := xw_i 12) hx hb d_MD_branches_7 (by decide) ?_
        refine xw_icmp_le (tgt := 24) hx hb hg1 (by decide) d_MD_branches_9 (by decide) (fun hc3 => ?_) (fun hc3 => ?_)
        · replace h := xw_ifT hc3 h
          exact hj24 s0 h _ _ _ hP hS (lv_sub hl [] rfl)
        · replace h := xw_ifF hc3 h
          exact hj12 s0 h _ _ _ hP hS (lv_sub hl [0] rfl)
def f_MD_signed (fu : Nat) (s0 : xw_S) (p1 : Int) (p2 : Int) : Option (xw_S × Int) :=
 xw_grd ((0 ≤ (120 * p1) + p2 ∧ (120 * p1) + p2 < ((1440 : Nat) : Int))) (some (s0, xw_b8 (s0.1 7 ((120 * p1) + p2).toNat)))
set_option maxRecDepth 100000 in
set_option maxHeartbeats 4000000 in
theorem c_MD_signed (l : Launch) (D : va_G) (A : Nat → Prop) (ad : Nat → Nat) (cs : Nat → ClassId) (Z : va_W) (tt : Nat → Nat) (fu : Nat) (s0 sZ : xw_S) (p1 : Int) (p2 : Int) (r0 : Int) (h : f_MD_signed fu s0 p1 p2 = some (sZ, r0)) : Met l y_MD_signed w_MD_signed ({ frames := 0, cells := 0, slots := 0, locals := 0 }) (va_Pc [.ref (ad 0), .int (xw_i p1), .int (xw_i p2)] (xw_H D vwCl A kdR 29 ad cs Z tt s0)) (va_Qi (fun r u => r = xw_i r0 ∧ u = sZ) (xw_H D vwCl A kdR 29 ad cs Z tt) A) 0 0 A := by
  refine Met.ofW (cc := b_MD_signed) (maxL := 3) (ret := (some .int)) (by decide) rfl ?_
  intro p e s m args below meth c s₁ B hml hv
  obtain ⟨rfl, hP, hK, hD, hX⟩ := hv
  have hx := B.exec
  have hb := B.bytes
  have hr := B.returns
  have hts0 := atoms_spec (ws := w_MD_signed) B.pre
  have hts := fun w (hw : w ∈ wAll) => hts0 w (List.mem_cons_of_mem _ hw)
  have hown : s.vm.findClass "AdviceWeaverModel" = some m.cls := findClass_of_methodNamed B.named
  have hlk := B.notSynchronized
  clear hts0 B
  have hS : va_S A s.heap s.heap [] := va_S.rf
  have hl := lv_entry [.ref (ad 0), .int (xw_i p1), .int (xw_i p2)] (n := 3) (Nat.le_of_ble_eq_true rfl)
  rw [lg_entry_eq]
  generalize (lg_sl [.ref (ad 0), .int (xw_i p1), .int (xw_i p2)] ++ List.replicate (3 - (lg_sl [.ref (ad 0), .int (xw_i p1), .int (xw_i p2)]).length) Slot.unset).toArray = ls at hl ⊢
  have hl : lv_has ls 3 [(0, .ref (ad 0)), (1, .int (xw_i p1)), (2, .int (xw_i p2))] := hl
  unfold f_MD_signed at h
  refine lv_aload_n hx hb d_MD_signed_0 rfl (lv_at hl 0 rfl) ?_
  refine xw_getR (C := "AdviceWeaverModel") (T := T_MD) hx hb hts hin_MD hown hK hP (by decide) kr_MD (by decide) rfl 7 (by decide) (hts _ hw_448) (fun _ h9 => h9) rfl d_MD_signed_1 ?_
  refine lv_bipush (v := xw_i 120) hx hb d_MD_signed_4 (by decide) ?_
  refine lv_iload_n hx hb d_MD_signed_6 rfl (lv_at hl 1 rfl) ?_
  refine xw_imul hx hb d_MD_signed_7 ?_
  refine lv_iload_n hx hb d_MD_signed_8 rfl (lv_at hl 2 rfl) ?_
  refine xw_iadd hx hb d_MD_signed_9 ?_
  obtain ⟨hg1, h⟩ := xw_grdI h
  refine xw_iald hx hb hK hP (by decide) kr_m_code (by decide) hg1 d_MD_signed_10 ?_
  refine xw_i2b hx hb d_MD_signed_11 ?_
  exact xw_iretE hx hb hr hlk hP hK hD hX hS h d_MD_signed_12
def f_MD_target (fu : Nat) (s0 : xw_S) (p1 : Int) (p2 : Int) : Option (xw_S × Int) :=
 xw_bn2 (f_MD_op fu s0 p1 p2) (fun s1 r3 => xw_grd (xw_r r3) (xw_if (20 ≤ r3) (xw_bn2 (f_MD_signed fu s1 p1 (p2 + 1)) (fun s6 r8 => xw_bn2 (f_MD_op fu s6 p1 (p2 + 2)) (fun s9 r11 => some (s9, (p2 + (r8 * 256)) + r11))))
 (xw_bn2 (f_MD_signed fu s1 p1 (p2 + 1)) (fun s12 r14 => some (s12, p2 + r14)))))
set_option maxRecDepth 100000 in
set_option maxHeartbeats 4000000 in
theorem c_MD_target (l : Launch) (D : va_G) (A : Nat → Prop) (ad : Nat → Nat) (cs : Nat → ClassId) (Z : va_W) (tt : Nat → Nat) (fu : Nat) (s0 sZ : xw_S) (p1 : Int) (p2 : Int) (r0 : Int) (h : f_MD_target fu s0 p1 p2 = some (sZ, r0)) : Met l y_MD_target w_MD_target ({ frames := 1, cells := 0, slots := 0, locals := 22 }) (va_Pc [.ref (ad 0), .int (xw_i p1), .int (xw_i p2)] (xw_H D vwCl A kdR 29 ad cs Z tt s0)) (va_Qi (fun r u => r = xw_i r0 ∧ u = sZ) (xw_H D vwCl A kdR 29 ad cs Z tt) A) 0 0 A := by
  refine Met.ofW (cc := b_MD_target) (maxL := 3) (ret := (some .int)) (by decide) rfl ?_
  intro p e s m args below meth c s₁ B hml hv
  obtain ⟨rfl, hP, hK, hD, hX⟩ := hv
  have hx := B.exec
  have hb := B.bytes
  have hr := B.returns
  have hts0 := atoms_spec (ws := w_MD_target) B.pre
  have hts := fun w (hw : w ∈ wAll) => hts0 w (List.mem_cons_of_mem _ hw)
  have hown : s.vm.findClass "AdviceWeaverModel" = some m.cls := findClass_of_methodNamed B.named
  have hlk := B.notSynchronized
  clear hts0 B
  have hS : va_S A s.heap s.heap [] := va_S.rf
  have hl := lv_entry [.ref (ad 0), .int (xw_i p1), .int (xw_i p2)] (n := 3) (Nat.le_of_ble_eq_true rfl)
  rw [lg_entry_eq]
  generalize (lg_sl [.ref (ad 0), .int (xw_i p1), .int (xw_i p2)] ++ List.replicate (3 - (lg_sl [.ref (ad 0), .int (xw_i p1), .int (xw_i p2)]).length) Slot.unset).toArray = ls at hl ⊢
  have hl : lv_has ls 3 [(0, .ref (ad 0)), (1, .int (xw_i p1)), (2, .int (xw_i p2))] := hl
  unfold f_MD_target at h
  refine lv_aload_n hx hb d_MD_target_0 rfl (lv_at hl 0 rfl) ?_
  refine lv_iload_n hx hb d_MD_target_1 rfl (lv_at hl 1 rfl) ?_
  refine lv_iload_n hx hb d_MD_target_2 rfl (lv_at hl 2 rfl) ?_
  obtain ⟨s1, r3, hc2, h⟩ := xw_bn2I h
  refine xw_callVi (C := "AdviceWeaverModel") (T := T_MD) ⟨hx, hb, hml, hown, hts⟩ (c_MD_op l D A ad cs Z tt fu s0 s1 p1 p2 r3 hc2) (cwV 2 hts (gd_V hw_452 hw_453 hw_454 hw_433 hw_455) rfl rfl rfl (by decide +kernel) ⟨Nat.le_of_ble_eq_true rfl, Nat.le_of_ble_eq_true rfl⟩) hP hK hD hX hS (by decide) kr_MD (by decide) rfl rfl hl.1 rfl (Nat.le_of_ble_eq_true rfl) d_MD_target_3 (fun H locs hP hS => ?_)
  refine lv_bipush (v := xw_i 20) hx hb d_MD_target_6 (by decide) ?_
  obtain ⟨hg4, h⟩ := xw_grdI h
  refine xw_icmp_ge (tgt := 24) hx hb hg4 (by decide) d_MD_target_8 (by decide) (fun hc5 => ?_) (fun hc5 => ?_)
  · replace h := xw_ifT hc5 h
    refine lv_iload_n hx hb d_MD_target_24 rfl (lv_at hl 2 rfl) ?_
    refine lv_aload_n hx hb d_MD_target_25 rfl (lv_at hl 0 rfl) ?_
    refine lv_iload_n hx hb d_MD_target_26 rfl (lv_at hl 1 rfl) ?_
    refine lv_iload_n hx hb d_MD_target_27 rfl (lv_at hl 2 rfl) ?_
    refine lv_iconst (v := xw_i 1) hx hb d_MD_target_28 rfl ?_
    refine xw_iadd hx hb d_MD_target_29 ?_
    obtain ⟨s6, r8, hc7, h⟩ := xw_bn2I h
    refine xw_callVi (C := "AdviceWeaverModel") (T := T_MD) ⟨hx, hb, hml, hown, hts⟩ (c_MD_signed l D A ad cs Z tt fu s1 s6 p1 (p2 + 1) r8 hc7) (cwV 2 hts (gd_V hw_459 hw_460 hw_461 hw_433 hw_462) rfl rfl rfl (by decide +kernel) ⟨Nat.le_of_ble_eq_true rfl, Nat.le_of_ble_eq_true rfl⟩) hP hK hD hX hS (by decide) kr_MD (by decide) rfl rfl hl.1 rfl (Nat.le_of_ble_eq_true rfl) d_MD_target_30 (fun H locs hP hS => ?_)
    refine lv_sipush (v := xw_i 256) hx hb d_MD_target_33 (by decide) ?_
    refine xw_imul hx hb d_MD_target_36 ?_
    refine xw_iadd hx hb d_MD_target_37 ?_
    refine lv_aload_n hx hb d_MD_target_38 rfl (lv_at hl 0 rfl) ?_
    refine lv_iload_n hx hb d_MD_target_39 rfl (lv_at hl 1 rfl) ?_
    refine lv_iload_n hx hb d_MD_target_40 rfl (lv_at hl 2 rfl) ?_
    refine lv_iconst (v := xw_i 2) hx hb d_MD_target_41 rfl ?_
    refine xw_iadd hx hb d_MD_target_42 ?_
    obtain ⟨s9, r11, hc10, h⟩ := xw_bn2I h
    refine xw_callVi (C := "AdviceWeaverModel") (T := T_MD) ⟨hx, hb, hml, hown, hts⟩ (c_MD_op l D A ad cs Z tt fu s6 s9 p1 (p2 + 2) r11 hc10) (cwV 2 hts (gd_V hw_452 hw_453 hw_454 hw_433 hw_455) rfl rfl rfl (by decide +kernel) ⟨Nat.le_of_ble_eq_true rfl, Nat.le_of_ble_eq_true rfl⟩) hP hK hD hX hS (by decide) kr_MD (by decide) rfl rfl hl.1 rfl (Nat.le_of_ble_eq_true rfl) d_MD_target_43 (fun H locs hP hS => ?_)
    refine xw_iadd hx hb d_MD_target_46 ?_
    exact xw_iretE hx hb hr hlk hP hK hD hX hS h d_MD_target_47
  · replace h := xw_ifF hc5 h
    refine lv_iload_n hx hb d_MD_target_11 rfl (lv_at hl 2 rfl) ?_
    refine lv_aload_n hx hb d_MD_target_12 rfl (lv_at hl 0 rfl) ?_
    refine lv_iload_n hx hb d_MD_target_13 rfl (lv_at hl 1 rfl) ?_
    refine lv_iload_n hx hb d_MD_target_14 rfl (lv_at hl 2 rfl) ?_
    refine lv_iconst (v := xw_i 1) hx hb d_MD_target_15 rfl ?_
    refine xw_iadd hx hb d_MD_target_16 ?_
    obtain ⟨s12, r14, hc13, h⟩ := xw_bn2I h
    refine xw_callVi (C := "AdviceWeaverModel") (T := T_MD) ⟨hx, hb, hml, hown, hts⟩ (c_MD_signed l D A ad cs Z tt fu s1 s12 p1 (p2 + 1) r14 hc13) (cwV 2 hts (gd_V hw_459 hw_460 hw_461 hw_433 hw_462) rfl rfl rfl (by decide +kernel) ⟨Nat.le_of_ble_eq_true rfl, Nat.le_of_ble_eq_true rfl⟩) hP hK hD hX hS (by decide) kr_MD (by decide) rfl rfl hl.1 rfl (Nat.le_of_ble_eq_true rfl) d_MD_target_17 (fun H locs hP hS => ?_)
    refine xw_iadd hx hb d_MD_target_20 ?_
    refine lv_goto (tgt := 47) hx hb d_MD_target_21 (by decide) ?_
    exact xw_iretE hx hb hr hlk hP hK hD hX hS h d_MD_target_47
def f_MD_isPlace (fu : Nat) (s0 : xw_S) (p1 : Int) (p2 : Int) : Option (xw_S × Int) :=
 xw_grd (xw_r p2) (xw_if (p2 < 0) (some (s0, 0))
 (xw_grd ((0 ≤ p1 ∧ p1 < ((12 : Nat) : Int))) (xw_grd (xw_r (s0.1 6 (p1).toNat)) (xw_if (s0.1 6 (p1).toNat ≤ p2) (some (s0, 0))
 (xw_grd ((0 ≤ p2 ∧ p2 < ((121 : Nat) : Int))) (xw_grd (xw_r (s0.1 14 (p2).toNat)) (xw_if (s0.1 14 (p2).toNat = 0) (some (s0, 0))
 (some (s0, 1)))))))))
set_option maxRecDepth 100000 in
set_option maxHeartbeats 4000000 in
theorem c_MD_isPlace (l : Launch) (D : va_G) (A : Nat → Prop) (ad : Nat → Nat) (cs : Nat → ClassId) (Z : va_W) (tt : Nat → Nat) (fu : Nat) (s0 sZ : xw_S) (p1 : Int) (p2 : Int) (r0 : Int) (h : f_MD_isPlace fu s0 p1 p2 = some (sZ, r0)) : Met l y_MD_isPlace w_MD_isPlace ({ frames := 0, cells := 0, slots := 0, locals := 0 }) (va_Pc [.ref (ad 0), .int (xw_i p1), .int (xw_i p2)] (xw_H D vwCl A kdR 29 ad cs Z tt s0)) (va_Qi (fun r u => r = xw_i r0 ∧ u = sZ) (xw_H D vwCl A kdR 29 ad cs Z tt) A) 0 0 A := by
  refine Met.ofW (cc := b_MD_isPlace) (maxL := 3) (ret := (some .boolean)) (by decide) rfl ?_
  intro p e s m args below meth c s₁ B hml hv
  obtain ⟨rfl, hP, hK, hD, hX⟩ := hv
  have hx := B.exec
  have hb := B.bytes
  have hr := B.returns
  have hts0 := atoms_spec (ws := w_MD_isPlace) B.pre
  have hts := fun w (hw : w ∈ wAll) => hts0 w (List.mem_cons_of_mem _ hw)
  have hown : s.vm.findClass "AdviceWeaverModel" = some m.cls := findClass_of_methodNamed B.named
  have hlk := B.notSynchronized
  clear hts0 B
  have hS : va_S A s.heap s.heap [] := va_S.rf
  have hl := lv_entry [.ref (ad 0), .int (xw_i p1), .int (xw_i p2)] (n := 3) (Nat.le_of_ble_eq_true rfl)
  rw [lg_entry_eq]
  generalize (lg_sl [.ref (ad 0), .int (xw_i p1), .int (xw_i p2)] ++ List.replicate (3 - (lg_sl [.ref (ad 0), .int (xw_i p1), .int (xw_i p2)]).length) Slot.unset).toArray = ls at hl ⊢
  have hl : lv_has ls 3 [(0, .ref (ad 0)), (1, .int (xw_i p1)), (2, .int (xw_i p2))] := hl
  unfold f_MD_isPlace at h
  refine lv_iload_n hx hb d_MD_isPlace_0 rfl (lv_at hl 2 rfl) ?_
  obtain ⟨hg1, h⟩ := xw_grdI h
  refine xw_if_lt (tgt := 27) hx hb hg1 d_MD_isPlace_1 (by decide) (fun hc2 => ?_) (fun hc2 => ?_)
  · replace h := xw_ifT hc2 h
    refine lv_iconst (v := xw_i 0) hx hb d_MD_isPlace_27 rfl ?_
    exact xw_zretE hx hb hr hlk hP hK hD hX hS h (by decide) d_MD_isPlace_28
  · replace h := xw_ifF hc2 h
    refine lv_iload_n hx hb d_MD_isPlace_4 rfl (lv_at hl 2 rfl) ?_
    refine lv_aload_n hx hb d_MD_isPlace_5 rfl (lv_at hl 0 rfl) ?_
    refine xw_getR (C := "AdviceWeaverModel") (T := T_MD) hx hb hts hin_MD hown hK hP (by decide) kr_MD (by decide) rfl 6 (by decide) (hts _ hw_447) (fun _ h9 => h9) rfl d_MD_isPlace_6 ?_
    refine lv_iload_n hx hb d_MD_isPlace_9 rfl (lv_at hl 1 rfl) ?_
    obtain ⟨hg3, h⟩ := xw_grdI h
    refine xw_iald hx hb hK hP (by decide) kr_m_length (by decide) hg3 d_MD_isPlace_10 ?_
    obtain ⟨hg4, h⟩ := xw_grdI h
    refine xw_icmp_ge (tgt := 27) hx hb hg1 hg4 d_MD_isPlace_11 (by decide) (fun hc5 => ?_) (fun hc5 => ?_)
    · replace h := xw_ifT hc5 h
      refine lv_iconst (v := xw_i 0) hx hb d_MD_isPlace_27 rfl ?_
      exact xw_zretE hx hb hr hlk hP hK hD hX hS h (by decide) d_MD_isPlace_28
    · replace h := xw_ifF hc5 h
      refine lv_aload_n hx hb d_MD_isPlace_14 rfl (lv_at hl 0 rfl) ?_
      refine xw_getR (C := "AdviceWeaverModel") (T := T_MD) hx hb hts hin_MD hown hK hP (by decide) kr_MD (by decide) rfl 20 (by decide) (hts _ hw_451) (fun _ h9 => h9) rfl d_MD_isPlace_15 ?_
      refine lv_iload_n hx hb d_MD_isPlace_18 rfl (lv_at hl 2 rfl) ?_
      obtain ⟨hg6, h⟩ := xw_grdI h
      refine xw_zald hx hb hK hP (by decide) kr_m_begins (by decide) hg6 d_MD_isPlace_19 ?_
      obtain ⟨hg7, h⟩ := xw_grdI h
      refine xw_if_eq (tgt := 27) hx hb hg7 d_MD_isPlace_20 (by decide) (fun hc8 => ?_) (fun hc8 => ?_)
      · replace h := xw_ifT hc8 h
        refine lv_iconst (v := xw_i 0) hx hb d_MD_isPlace_27 rfl ?_
        exact xw_zretE hx hb hr hlk hP hK hD hX hS h (by decide) d_MD_isPlace_28
      · replace h := xw_ifF hc8 h
        refine lv_iconst (v := xw_i 1) hx hb d_MD_isPlace_23 rfl ?_
        refine lv_goto (tgt := 28) hx hb d_MD_isPlace_24 (by decide) ?_
        exact xw_zretE hx hb hr hlk hP hK hD hX hS h (by decide) d_MD_isPlace_28
def lp_MD_formed_14 (fu : Nat) (c1_14 : Int) (k179 : xw_S → Int → Option (xw_S × Int)) : Nat → xw_S → Int → Int → Option (xw_S × Int)
  | 0, _, _, _ => none
  | n + 1, s6, i2_14, i3_14 =>
    xw_grd ((0 ≤ c1_14 ∧ c1_14 < ((12 : Nat) : Int))) (xw_grd (xw_r i3_14 ∧ xw_r (s6.1 6 (c1_14).toNat)) (xw_if (s6.1 6 (c1_14).toNat ≤ i3_14) (k179 s6 i2_14)
     (xw_bn2 (f_MD_op fu s6 c1_14 i3_14) (fun s10 r12 => xw_grd ((0 ≤ i3_14 ∧ i3_14 < ((121 : Nat) : Int))) (xw_jn (fun (s69 : xw_S) (i2_173 : Int) (i3_173 : Int) => xw_let (i3_173 + 1) (fun v70 => lp_MD_formed_14 fu c1_14 k179 n s69 i2_173 v70))
     (fun (j173 : xw_S → Int → Int → Option (xw_S × Int)) => xw_grd (xw_r (s10.1 14 (i3_14).toNat)) (xw_if (s10.1 14 (i3_14).toNat = 0) (j173 s10 i2_14 i3_14)
     (xw_jn (fun (s44 : xw_S) (i3_104 : Int) (i4_104 : Int) (t0_104 : Int) => xw_jn (fun (s68 : xw_S) (i3_172 : Int) (t0_172 : Int) => j173 s68 t0_172 i3_172)
     (fun (j172 : xw_S → Int → Int → Option (xw_S × Int)) => xw_jn (fun (s67 : xw_S) (i3_171 : Int) => j172 s67 i3_171 0)
     (fun (j171 : xw_S → Int → Option (xw_S × Int)) => xw_grd (xw_r t0_104) (xw_if (t0_104 = 0) (j171 s44 i3_104)
     (xw_jn (fun (s58 : xw_S) (i3_145 : Int) (i4_145 : Int) => xw_jn (fun (s66 : xw_S) (i3_167 : Int) => j172 s66 i3_167 1)
     (fun (j167 : xw_S → Int → Option (xw_S × Int)) => xw_grd (xw_r i4_145) (xw_if (i4_145 = 13) (xw_bn2 (f_MD_op fu s58 c1_14 (i3_145 + 1)) (fun s61 r63 => xw_grd (xw_r r63 ∧ xw_r (s61.1 0 11)) (xw_if (s61.1 0 11 ≤ r63) (j171 s61 i3_145)
     (j167 s61 i3_145))))
     (j167 s58 i3_145))))
     (fun (j145 : xw_S → Int → Int → Option (xw_S × Int)) => xw_jn (fun (s51 : xw_S) (i3_128 : Int) (i4_128 : Int) => xw_bn2 (f_MD_op fu s51 c1_14 (i3_128 + 1)) (fun s52 r54 => xw_grd ((0 ≤ c1_14 ∧ c1_14 < ((12 : Nat) : Int))) (xw_grd (xw_r r54 ∧ xw_r (s52.1 4 (c1_14).toNat)) (xw_if (s52.1 4 (c1_14).toNat ≤ r54) (j171 s52 i3_128)
     (j145 s52 i3_128 i4_128)))))
     (fun (j128 : xw_S → Int → Int → Option (xw_S × Int)) => xw_grd (xw_r i4_104) (xw_if (i4_104 = 2) (j128 s44 i3_104 i4_104)
     (xw_if (i4_104 = 3) (j128 s44 i3_104 i4_104)
     (xw_if (i4_104 = 16) (j128 s44 i3_104 i4_104)
     (j145 s44 i3_104 i4_104)))))))))))
     (fun (j104 : xw_S → Int → Int → Int → Option (xw_S × Int)) => xw_jn (fun (s43 : xw_S) (i3_103 : Int) (i4_103 : Int) => j104 s43 i3_103 i4_103 0)
     (fun (j103 : xw_S → Int → Int → Option (xw_S × Int)) => xw_grd (xw_r i2_14) (xw_if (i2_14 = 0) (j103 s10 i3_14 r12)
     (xw_grd (xw_r r12) (xw_if (30 ≤ r12) (j103 s10 i3_14 r12)
     (xw_bn2 (f_MD_branches fu s10 r12) (fun s20 r22 => xw_jn (fun (s42 : xw_S) (i3_99 : Int) (i4_99 : Int) => j104 s42 i3_99 i4_99 1)
     (fun (j99 : xw_S → Int → Int → Option (xw_S × Int)) => xw_grd (xw_r r22) (xw_if (r22 = 0) (j99 s20 i3_14 r12)
     (xw_bn2 (f_MD_target fu s20 c1_14 i3_14) (fun s25 r27 => xw_bn2 (f_MD_isPlace fu s25 c1_14 r27) (fun s28 r30 => xw_grd (xw_r r30) (xw_if (r30 = 0) (j103 s28 i3_14 r12)
     (xw_if (12 < r12) (j99 s28 i3_14 r12)
     (xw_bn2 (f_MD_signed fu s28 c1_14 (i3_14 + 1)) (fun s34 r36 => xw_bn2 (f_MD_outside fu s34 r36 (-24) 24) (fun s37 r39 => xw_grd (xw_r r39) (xw_if (r39 = 0) (j99 s37 i3_14 r12)
     (j103 s37 i3_14 r12)))))))))))))))))))))))))))
def lp_MD_formed_184 (fu : Nat) (c1_184 : Int) (k309 : xw_S → Int → Option (xw_S × Int)) : Nat → xw_S → Int → Int → Option (xw_S × Int)
  | 0, _, _, _ => none
  | n + 1, s75, i2_184, i3_184 =>
    xw_grd ((0 ≤ c1_184 ∧ c1_184 < ((12 : Nat) : Int))) (xw_grd (xw_r i3_184 ∧ xw_r ((20 * c1_184) + (4 * (s75.1 8 (c1_184).toNat)))) (xw_if ((20 * c1_184) + (4 * (s75.1 8 (c1_184).toNat)) ≤ i3_184) (k309 s75 i2_184)
     (xw_grd ((0 ≤ i3_184 + 1 ∧ i3_184 + 1 < ((240 : Nat) : Int))) (xw_jn (fun (s88 : xw_S) (i2_239 : Int) (i3_239 : Int) (t0_239 : Int) => xw_jn (fun (s109 : xw_S) (i3_302 : Int) (t0_302 : Int) => xw_let (i3_302 + 4) (fun v110 => lp_MD_formed_184 fu c1_184 k309 n s109 t0_302 v110))
     (fun (j302 : xw_S → Int → Int → Option (xw_S × Int)) => xw_jn (fun (s108 : xw_S) (i3_301 : Int) => j302 s108 i3_301 0)
     (fun (j301 : xw_S → Int → Option (xw_S × Int)) => xw_grd (xw_r i2_239) (xw_if (i2_239 = 0) (j301 s88 i3_239)
     (xw_grd ((0 ≤ i3_239 ∧ i3_239 < ((240 : Nat) : Int))) (xw_bn2 (f_MD_isPlace fu s88 c1_184 (s88.1 9 (i3_239).toNat)) (fun s92 r94 => xw_grd (xw_r r94) (xw_if (r94 = 0) (j301 s92 i3_239)
     (xw_grd ((0 ≤ i3_239 + 2 ∧ i3_239 + 2 < ((240 : Nat) : Int))) (xw_bn2 (f_MD_isPlace fu s92 c1_184 (s92.1 9 (i3_239 + 2).toNat)) (fun s98 r100 => xw_grd (xw_r r100) (xw_if (r100 = 0) (j301 s98 i3_239)
     (xw_grd (xw_r t0_239) (xw_if (t0_239 = 0) (j301 s98 i3_239)
     (xw_grd ((0 ≤ i3_239 + 1 ∧ i3_239 + 1 < ((240 : Nat) : Int))) (xw_grd (xw_r (s98.1 9 (i3_239 + 1).toNat) ∧ xw_r (s98.1 9 (i3_239).toNat)) (xw_if (s98.1 9 (i3_239 + 1).toNat ≤ s98.1 9 (i3_239).toNat) (j301 s98 i3_239)
     (j302 s98 i3_239 1))))))))))))))))))
     (fun (j239 : xw_S → Int → Int → Int → Option (xw_S × Int)) => xw_jn (fun (s87 : xw_S) (i2_234 : Int) (i3_234 : Int) => j239 s87 i2_234 i3_234 1)
     (fun (j234 : xw_S → Int → Int → Option (xw_S × Int)) => xw_grd (xw_r (s75.1 9 (i3_184 + 1).toNat) ∧ xw_r (s75.1 6 (c1_184).toNat)) (xw_if (s75.1 9 (i3_184 + 1).toNat = s75.1 6 (c1_184).toNat) (j234 s75 i2_184 i3_184)
     (xw_bn2 (f_MD_isPlace fu s75 c1_184 (s75.1 9 (i3_184 + 1).toNat)) (fun s82 r84 => xw_grd (xw_r r84) (xw_if (r84 = 0) (j239 s82 i2_184 i3_184 0)
     (j234 s82 i2_184 i3_184)))))))))))
def f_MD_formed (fu : Nat) (s0 : xw_S) (p1 : Int) : Option (xw_S × Int) :=
 xw_bn2 (f_MD_divide fu s0 p1) (fun s1 r3 => xw_grd (xw_r r3) (xw_if (r3 = 0) (some (s1, 0))
 (xw_jn (fun (s72 : xw_S) (i2_179 : Int) => xw_let (20 * p1) (fun v73 => xw_jn (fun (s112 : xw_S) (i2_309 : Int) => xw_grd ((i2_309 = 0 ∨ i2_309 = 1)) (some (s112, i2_309)))
 (fun (k309 : xw_S → Int → Option (xw_S × Int)) => lp_MD_formed_184 fu p1 k309 fu s72 i2_179 v73)))
 (fun (k179 : xw_S → Int → Option (xw_S × Int)) => lp_MD_formed_14 fu p1 k179 fu s1 1 0))))
set_option maxRecDepth 100000 in
set_option maxHeartbeats 4000000 in
theorem c_MD_formed (l : Launch) (D : va_G) (A : Nat → Prop) (ad : Nat → Nat) (cs : Nat → ClassId) (Z : va_W) (tt : Nat → Nat) (fu : Nat) (s0 sZ : xw_S) (p1 : Int) (r0 : Int) (h : f_MD_formed fu s0 p1 = some (sZ, r0)) : Met l y_MD_formed w_MD_formed ({ frames := 2, cells := 0, slots := 0, locals := 45 }) (va_Pc [.ref (ad 0), .int (xw_i p1)] (xw_H D vwCl A kdR 29 ad cs Z tt s0)) (va_Qi (fun r u => r = xw_i r0 ∧ u = sZ) (xw_H D vwCl A kdR 29 ad cs Z tt) A) 0 0 A := by
  refine Met.ofW (cc := b_MD_formed) (maxL := 5) (ret := (some .boolean)) (by decide) rfl ?_
  intro p e s m args below meth c s₁ B hml hv
  obtain ⟨rfl, hP, hK, hD, hX⟩ := hv
  have hx := B.exec
  have hb := B.bytes
  have hr := B.returns
  have hts0 := atoms_spec (ws := w_MD_formed) B.pre
  have hts := fun w (hw : w ∈ wAll) => hts0 w (List.mem_cons_of_mem _ hw)
  have hown : s.vm.findClass "AdviceWeaverModel" = some m.cls := findClass_of_methodNamed B.named
  have hlk := B.notSynchronized
  clear hts0 B
  have hS : va_S A s.heap s.heap [] := va_S.rf
  have hl := lv_entry [.ref (ad 0), .int (xw_i p1)] (n := 5) (Nat.le_of_ble_eq_true rfl)
  rw [lg_entry_eq]
  generalize (lg_sl [.ref (ad 0), .int (xw_i p1)] ++ List.replicate (5 - (lg_sl [.ref (ad 0), .int (xw_i p1)]).length) Slot.unset).toArray = ls at hl ⊢
  have hl : lv_has ls 5 [(0, .ref (ad 0)), (1, .int (xw_i p1))] := hl
  have hlp14 : ∀ (c1_14 : Int) (k179 : xw_S → Int → Option (xw_S × Int)) (hk179 : ∀ (sq : xw_S) (i2_179 : Int), k179 sq i2_179 = some (sZ, r0) → ∀ (H : Heap) (locs : List Loc) (ls : Array Slot), va_P D vwCl (xw_ws kdR 29 ad cs Z sq) H → va_S A s.heap H locs → lv_has ls 5 [(0, .ref (ad 0)), (1, .int (xw_i c1_14)), (2, .int (xw_i i2_179))] → W p l e (headSpec w_MD_formed ({ frames := 2, cells := 0, slots := 0, locals := 45 })).room s m [.ref (ad 0), .int (xw_i p1)].toArray below meth c H locs 0 0 (MQ below (va_Qi (fun r u => r = xw_i r0 ∧ u = sZ) (xw_H D vwCl A kdR 29 ad cs Z tt) A) [.ref (ad 0), .int (xw_i p1)].toArray s 0 0 A) (F0 m 179 ls [])) (n : Nat), ∀ (sq : xw_S) (i2_14 : Int) (i3_14 : Int), lp_MD_formed_14 fu c1_14 k179 n sq i2_14 i3_14 = some (sZ, r0) → ∀ (H : Heap) (locs : List Loc) (ls : Array Slot), va_P D vwCl (xw_ws kdR 29 ad cs Z sq) H → va_S A s.heap H locs → lv_has ls 5 [(0, .ref (ad 0)), (1, .int (xw_i c1_14)), (2, .int (xw_i i2_14)), (3, .int (xw_i i3_14))] → W p l e (headSpec w_MD_formed ({ frames := 2, cells := 0, slots := 0, locals := 45 })).room s m [.ref (ad 0), .int (xw_i p1)].toArray below meth c H locs 0 0 (MQ below (va_Qi (fun r u => r = xw_i r0 ∧ u = sZ) (xw_H D vwCl A kdR 29 ad cs Z tt) A) [.ref (ad 0), .int (xw_i p1)].toArray s 0 0 A) (F0 m 14 ls []) := by
    intro c1_14 k179 hk179 n
    induction n with
    | zero =>
      intro sq i2_14 i3_14 h
      cases (show (none : Option (xw_S × Int)) = some (sZ, r0) from h)
    | succ n ih14 =>
      intro s6 i2_14 i3_14 h H locs ls hP hS hl
      unfold lp_MD_formed_14 at h
      refine lv_iload_n hx hb d_MD_formed_14 rfl (lv_at hl 3 rfl) ?_
      refine lv_aload_n hx hb d_MD_formed_15 rfl (lv_at hl 0 rfl) ?_
      refine xw_getR (C := "AdviceWeaverModel") (T := T_MD) hx hb hts hin_MD hown hK hP (by decide) kr_MD (by decide) rfl 6 (by decide) (hts _ hw_447) (fun _ h9 => h9) rfl d_MD_formed_16 ?_
      refine lv_iload_n hx hb d_MD_formed_19 rfl (lv_at hl 1 rfl) ?_
      obtain ⟨hg7, h⟩ := xw_grdI h
      refine xw_iald hx hb hK hP (by decide) kr_m_length (by decide) hg7 d_MD_formed_20 ?_
      obtain ⟨hg8, h⟩ := xw_grdI h
      refine xw_icmp_ge (tgt := 179) hx hb hg8.1 hg8.2 d_MD_formed_21 (by decide) (fun hc9 => ?_) (fun hc9 => ?_)
      · replace h := xw_ifT hc9 h
        exact hk179 s6 i2_14 h _ _ _ hP hS (lv_sub hl [0, 1, 2] rfl)
      · replace h := xw_ifF hc9 h
        refine lv_aload_n hx hb d_MD_formed_24 rfl (lv_at hl 0 rfl) ?_
        refine lv_iload_n hx hb d_MD_formed_25 rfl (lv_at hl 1 rfl) ?_
        refine lv_iload_n hx hb d_MD_formed_26 rfl (lv_at hl 3 rfl) ?_
        obtain ⟨s10, r12, hc11, h⟩ := xw_bn2I h
        refine xw_callVi (C := "AdviceWeaverModel") (T := T_MD) ⟨hx, hb, hml, hown, hts⟩ (c_MD_op l D A ad cs Z tt fu s6 s10 c1_14 i3_14 r12 hc11) (cwV 2 hts (gd_V hw_452 hw_453 hw_454 hw_433 hw_455) rfl rfl rfl (by decide +kernel) ⟨Nat.le_of_ble_eq_true rfl, Nat.le_of_ble_eq_true rfl⟩) hP hK hD hX hS (by decide) kr_MD (by decide) rfl rfl hl.1 rfl (Nat.le_of_ble_eq_true rfl) d_MD_formed_27 (fun H locs hP hS => ?_)
        refine lv_istore hx hb d_MD_formed_30 hl (by decide) rfl (fun ls hl => ?_)
        refine lv_aload_n hx hb d_MD_formed_32 rfl (lv_at hl 1 rfl) ?_
        refine xw_getR (C := "AdviceWeaverModel") (T := T_MD) hx hb hts hin_MD hown hK hP (by decide) kr_MD (by decide) rfl 20 (by decide) (hts _ hw_451) (fun _ h9 => h9) rfl d_MD_formed_33 ?_
        refine lv_iload_n hx hb d_MD_formed_36 rfl (lv_at hl 4 rfl) ?_
        obtain ⟨hg13, h⟩ := xw_grdI h
        refine xw_zald hx hb hK hP (by decide) kr_m_begins (by decide) hg13 d_MD_formed_37 ?_
        refine xw_jnI (fun j => ∀ (sq : xw_S) (i2_173 : Int) (i3_173 : Int), j sq i2_173 i3_173 = some (sZ, r0) → ∀ (H : Heap) (locs : List Loc) (ls : Array Slot), va_P D vwCl (xw_ws kdR 29 ad cs Z sq) H → va_S A s.heap H locs → lv_has ls 5 [(0, .ref (ad 0)), (1, .int (xw_i c1_14)), (2, .int (xw_i i2_173)), (3, .int (xw_i i3_173))] → W p l e (headSpec w_MD_formed ({ frames := 2, cells := 0, slots := 0, locals := 45 })).room s m [.ref (ad 0), .int (xw_i p1)].toArray below meth c H locs 0 0 (MQ below (va_Qi (fun r u => r = xw_i r0 ∧ u = sZ) (xw_H D vwCl A kdR 29 ad cs Z tt) A) [.ref (ad 0), .int (xw_i p1)].toArray s 0 0 A) (F0 m 173 ls [])) h ?_ ?_
        · intro s69 i2_173 i3_173 h H locs ls hP hS hl
          obtain ⟨v70, e71⟩ : ∃ z, z = i3_173 + 1 := ⟨_, rfl⟩
          replace h := xw_letI e71 h
          refine xw_iinc (lv' := [(3, .int (xw_i v70)), (0, .ref (ad 0)), (1, .int (xw_i c1_14)), (2, .int (xw_i i2_173))]) hx hb d_MD_formed_173 hl (k := 3) rfl (by decide) (by rw [e71]; rfl) (fun ls hl => ?_)
          refine lv_goto (tgt := 14) hx hb d_MD_formed_176 (by decide) ?_
          exact ih14 s69 i2_173 v70 h _ _ _ hP hS (lv_sub hl [1, 2, 3, 0] rfl)
        · intro j173 hj173 h
          obtain ⟨hg14, h⟩ := xw_grdI h
          refine xw_if_eq (tgt := 173) hx hb hg14 d_MD_formed_38 (by decide) (fun hc15 => ?_) (fun hc15 => ?_)
          · replace h := xw_ifT hc15 h
            exact hj173 s10 i2_14 i3_14 h _ _ _ hP hS (lv_sub hl [1, 2, 3, 4] rfl)
          · replace h := xw_ifF hc15 h
            refine lv_iload_n hx hb d_MD_formed_41 rfl (lv_at hl 3 rfl) ?_
            refine xw_jnI (fun j => ∀ (sq : xw_S) (i3_104 : Int) (i4_104 : Int) (t0_104 : Int), j sq i3_104 i4_104 t0_104 = some (sZ, r0) → ∀ (H : Heap) (locs : List Loc) (ls : Array Slot), va_P D vwCl (xw_ws kdR 29 ad cs Z sq) H → va_S A s.heap H locs → lv_has ls 5 [(0, .ref (ad 0)), (1, .int (xw_i c1_14)), (3, .int (xw_i i3_104)), (4, .int (xw_i i4_104))] → W p l e (headSpec w_MD_formed ({ frames := 2, cells := 0, slots := 0, locals := 45 })).room s m [.ref (ad 0), .int (xw_i p1)].toArray below meth c H locs 0 0 (MQ below (va_Qi (fun r u => r = xw_i r0 ∧ u = sZ) (xw_H D vwCl A kdR 29 ad cs Z tt) A) [.ref (ad 0), .int (xw_i p1)].toArray s 0 0 A) (F0 m 104 ls [.int (xw_i t0_104)])) h ?_ ?_
            · intro s44 i3_104 i4_104 t0_104 h H locs ls hP hS hl
              refine lv_istore_n hx hb d_MD_formed_104 rfl hl (by decide) rfl (fun ls hl => ?_)
              refine lv_iload_n hx hb d_MD_formed_105 rfl (lv_at hl 0 rfl) ?_
              refine xw_jnI (fun j => ∀ (sq : xw_S) (i3_172 : Int) (t0_172 : Int), j sq i3_172 t0_172 = some (sZ, r0) → ∀ (H : Heap) (locs : List Loc) (ls : Array Slot), va_P D vwCl (xw_ws kdR 29 ad cs Z sq) H → va_S A s.heap H locs → lv_has ls 5 [(0, .ref (ad 0)), (1, .int (xw_i c1_14)), (3, .int (xw_i i3_172))] → W p l e (headSpec w_MD_formed ({ frames := 2, cells := 0, slots := 0, locals := 45 })).room s m [.ref (ad 0), .int (xw_i p1)].toArray below meth c H locs 0 0 (MQ below (va_Qi (fun r u => r = xw_i r0 ∧ u = sZ) (xw_H D vwCl A kdR 29 ad cs Z tt) A) [.ref (ad 0), .int (xw_i p1)].toArray s 0 0 A) (F0 m 172 ls [.int (xw_i t0_172)])) h ?_ ?_
              · intro s68 i3_172 t0_172 h H locs ls hP hS hl
                refine lv_istore_n hx hb d_MD_formed_172 rfl hl (by decide) rfl (fun ls hl => ?_)
                exact hj173 s68 t0_172 i3_172 h _ _ _ hP hS (lv_sub hl [1, 2, 0, 3] rfl)
              · intro j172 hj172 h
                refine xw_jnI (fun j => ∀ (sq : xw_S) (i3_171 : Int), j sq i3_171 = some (sZ, r0) → ∀ (H : Heap) (locs : List Loc) (ls : Array Slot), va_P D vwCl (xw_ws kdR 29 ad cs Z sq) H → va_S A s.heap H locs → lv_has ls 5 [(0, .ref (ad 0)), (1, .int (xw_i c1_14)), (3, .int (xw_i i3_171))] → W p l e (headSpec w_MD_formed ({ frames := 2, cells := 0, slots := 0, locals := 45 })).room s m [.ref (ad 0), .int (xw_i p1)].toArray below meth c H locs 0 0 (MQ below (va_Qi (fun r u => r = xw_i r0 ∧ u = sZ) (xw_H D vwCl A kdR 29 ad cs Z tt) A) [.ref (ad 0), .int (xw_i p1)].toArray s 0 0 A) (F0 m 171 ls [])) h ?_ ?_
                · intro s67 i3_171 h H locs ls hP hS hl
                  refine lv_iconst (v := xw_i 0) hx hb d_MD_formed_171 rfl ?_
                  exact hj172 s67 i3_171 0 h _ _ _ hP hS (lv_sub hl [0, 1, 2] rfl)
                · intro j171 hj171 h
                  obtain ⟨hg45, h⟩ := xw_grdI h
                  refine xw_if_eq (tgt := 171) hx hb hg45 d_MD_formed_106 (by decide) (fun hc46 => ?_) (fun hc46 => ?_)
                  · replace h := xw_ifT hc46 h
                    exact hj171 s44 i3_104 h _ _ _ hP hS (lv_sub hl [1, 2, 3] rfl)
                  · replace h := xw_ifF hc46 h
                    refine lv_iload hx hb d_MD_formed_109 (lv_at hl 4 rfl) ?_
                    refine lv_iconst (v := xw_i 2) hx hb d_MD_formed_111 rfl ?_
                    refine xw_jnI (fun j => ∀ (sq : xw_S) (i3_145 : Int) (i4_145 : Int), j sq i3_145 i4_145 = some (sZ, r0) → ∀ (H : Heap) (locs : List Loc) (ls : Array Slot), va_P D vwCl (xw_ws kdR 29 ad cs Z sq) H → va_S A s.heap H locs → lv_has ls 5 [(0, .ref (ad 0)), (1, .int (xw_i c1_14)), (3, .int (xw_i i3_145)), (4, .int (xw_i i4_145))] → W p l e (headSpec w_MD_formed ({ frames := 2, cells := 0, slots := 0, locals := 45 })).room s m [.ref (ad 0), .int (xw_i p1)].toArray below meth c H locs 0 0 (MQ below (va_Qi (fun r u => r = xw_i r0 ∧ u = sZ) (xw_H D vwCl A kdR 29 ad cs Z tt) A) [.ref (ad 0), .int (xw_i p1)].toArray s 0 0 A) (F0 m 145 ls [])) h ?_ ?_
                    · intro s58 i3_145 i4_145 h H locs ls hP hS hl
                      refine lv_iload hx hb d_MD_formed_145 (lv_at hl 3 rfl) ?_
                      refine lv_bipush (v := xw_i 13) hx hb d_MD_formed_147 (by decide) ?_
                      refine xw_jnI (fun j => ∀ (sq : xw_S) (i3_167 : Int), j sq i3_167 = some (sZ, r0) → ∀ (H : Heap) (locs : List Loc) (ls : Array Slot), va_P D vwCl (xw_ws kdR 29 ad cs Z sq) H → va_S A s.heap H locs → lv_has ls 5 [(0, .ref (ad 0)), (1, .int (xw_i c1_14)), (3, .int (xw_i i3_167))] → W p l e (headSpec w_MD_formed ({ frames := 2, cells := 0, slots := 0, locals := 45 })).room s m [.ref (ad 0), .int (xw_i p1)].toArray below meth c H locs 0 0 (MQ below (va_Qi (fun r u => r = xw_i r0 ∧ u = sZ) (xw_H D vwCl A kdR 29 ad cs Z tt) A) [.ref (ad 0), .int (xw_i p1)].toArray s 0 0 A) (F0 m 167 ls [])) h ?_ ?_
                      · intro s66 i3_167 h H locs ls hP hS hl
                        refine lv_iconst (v := xw_i 1) hx hb d_MD_formed_167 rfl ?_
                        refine lv_goto (tgt := 172) hx hb d_MD_formed_168 (by decide) ?_
                        exact hj172 s66 i3_167 1 h _ _ _ hP hS (lv_sub hl [0, 1, 2] rfl)
                      · intro j167 hj167 h
                        obtain ⟨hg59, h⟩ := xw_grdI h
                        refine xw_icmp_ne (tgt := 167) hx hb hg59 (by decide) d_MD_formed_149 (by decide) (fun hc60 => ?_) (fun hc60 => ?_)
                        · replace h := xw_ifF hc60 h
                          exact hj167 s58 i3_145 h _ _ _ hP hS (lv_sub hl [0, 1, 2] rfl)
                        · replace h := xw_ifT hc60 h
                          refine lv_aload_n hx hb d_MD_formed_152 rfl (lv_at hl 0 rfl) ?_
                          refine lv_iload_n hx hb d_MD_formed_153 rfl (lv_at hl 1 rfl) ?_
                          refine lv_iload_n hx hb d_MD_formed_154 rfl (lv_at hl 2 rfl) ?_
                          refine lv_iconst (v := xw_i 1) hx hb d_MD_formed_155 rfl ?_
                          refine xw_iadd hx hb d_MD_formed_156 ?_
                          obtain ⟨s61, r63, hc62, h⟩ := xw_bn2I h
                          refine xw_callVi (C := "AdviceWeaverModel") (T := T_MD) ⟨hx, hb, hml, hown, hts⟩ (c_MD_op l D A ad cs Z tt fu s58 s61 c1_14 (i3_145 + 1) r63 hc62) (cwV 2 hts (gd_V hw_452 hw_453 hw_454 hw_433 hw_455) rfl rfl rfl (by decide +kernel) ⟨Nat.le_of_ble_eq_true rfl, Nat.le_of_ble_eq_true rfl⟩) hP hK hD hX hS (by decide) kr_MD (by decide) rfl rfl hl.1 rfl (Nat.le_of_ble_eq_true rfl) d_MD_formed_157 (fun H locs hP hS => ?_)
                          refine lv_aload_n hx hb d_MD_formed_160 rfl (lv_at hl 0 rfl) ?_
                          refine xw_getI (C := "AdviceWeaverModel") (T := T_MD) hx hb hts hin_MD hown hK hP (by decide) kr_MD (by decide) rfl 11 (by decide) (hts _ hw_478) (fun _ h9 => h9) rfl d_MD_formed_161 ?_
                          obtain ⟨hg64, h⟩ := xw_grdI h
                          refine xw_icmp_ge (tgt := 171) hx hb hg64.1 hg64.2 d_MD_formed_164 (by decide) (fun hc65 => ?_) (fun hc65 => ?_)
                          · replace h := xw_ifT hc65 h
                            exact hj171 s61 i3_145 h _ _ _ hP hS (lv_sub hl [0, 1, 2] rfl)
                          · replace h := xw_ifF hc65 h
                            exact hj167 s61 i3_145 h _ _ _ hP hS (lv_sub hl [0, 1, 2] rfl)
                    · intro j145 hj145 h
                      refine xw_jnI (fun j => ∀ (sq : xw_S) (i3_128 : Int) (i4_128 : Int), j sq i3_128 i4_128 = some (sZ, r0) → ∀ (H : Heap) (locs : List Loc) (ls : Array Slot), va_P D vwCl (xw_ws kdR 29 ad cs Z sq) H → va_S A s.heap H locs → lv_has ls 5 [(0, .ref (ad 0)), (1, .int (xw_i c1_14)), (3, .int (xw_i i3_128)), (4, .int (xw_i i4_128))] → W p l e (headSpec w_MD_formed ({ frames := 2, cells := 0, slots := 0, locals := 45 })).room s m [.ref (ad 0), .int (xw_i p1)].toArray below meth c H locs 0 0 (MQ below (va_Qi (fun r u => r = xw_i r0 ∧ u = sZ) (xw_H D vwCl A kdR 29 ad cs Z tt) A) [.ref (ad 0), .int (xw_i p1)].toArray s 0 0 A) (F0 m 128 ls [])) h ?_ ?_
                      · intro s51 i3_128 i4_128 h H locs ls hP hS hl
                        refine lv_aload_n hx hb d_MD_formed_128 rfl (lv_at hl 0 rfl) ?_
                        refine lv_iload_n hx hb d_MD_formed_129 rfl (lv_at hl 1 rfl) ?_
                        refine lv_iload_n hx hb d_MD_formed_130 rfl (lv_at hl 2 rfl) ?_
                        refine lv_iconst (v := xw_i 1) hx hb d_MD_formed_131 rfl ?_
                        refine xw_iadd hx hb d_MD_formed_132 ?_
                        obtain ⟨s52, r54, hc53, h⟩ := xw_bn2I h
                        refine xw_callVi (C := "AdviceWeaverModel") (T := T_MD) ⟨hx, hb, hml, hown, hts⟩ (c_MD_op l D A ad cs Z tt fu s51 s52 c1_14 (i3_128 + 1) r54 hc53) (cwV 2 hts (gd_V hw_452 hw_453 hw_454 hw_433 hw_455) rfl rfl rfl (by decide +kernel) ⟨Nat.le_of_ble_eq_true rfl, Nat.le_of_ble_eq_true rfl⟩) hP hK hD hX hS (by decide) kr_MD (by decide) rfl rfl hl.1 rfl (Nat.le_of_ble_eq_true rfl) d_MD_formed_133 (fun H locs hP hS => ?_)
                        refine lv_aload_n hx hb d_MD_formed_136 rfl (lv_at hl 0 rfl) ?_
                        refine xw_getR (C := "AdviceWeaverModel") (T := T_MD) hx hb hts hin_MD hown hK hP (by decide) kr_MD (by decide) rfl 4 (by decide) (hts _ hw_445) (fun _ h9 => h9) rfl d_MD_formed_137 ?_
                        refine lv_iload_n hx hb d_MD_formed_140 rfl (lv_at hl 1 rfl) ?_
                        obtain ⟨hg55, h⟩ := xw_grdI h
                        refine xw_iald hx hb hK hP (by decide) kr_m_locals (by decide) hg55 d_MD_formed_141 ?_
                        obtain ⟨hg56, h⟩ := xw_grdI h
                        refine xw_icmp_ge (tgt := 171) hx hb hg56.1 hg56.2 d_MD_formed_142 (by decide) (fun hc57 => ?_) (fun hc57 => ?_)
                        · replace h := xw_ifT hc57 h
                          exact hj171 s52 i3_128 h _ _ _ hP hS (lv_sub hl [0, 1, 2] rfl)
                        · replace h := xw_ifF hc57 h
                          exact hj145 s52 i3_128 i4_128 h _ _ _ hP hS (lv_sub hl [0, 1, 2, 3] rfl)
                      · intro j128 hj128 h
                        obtain ⟨hg47, h⟩ := xw_grdI h
                        refine xw_icmp_eq (tgt := 128) hx hb hg47 (by decide) d_MD_formed_112 (by decide) (fun hc48 => ?_) (fun hc48 => ?_)
                        · replace h := xw_ifT hc48 h
                          exact hj128 s44 i3_104 i4_104 h _ _ _ hP hS (lv_sub hl [1, 2, 3, 4] rfl)
                        · replace h := xw_ifF hc48 h
                          refine lv_iload hx hb d_MD_formed_115 (lv_at hl 4 rfl) ?_
                          refine lv_iconst (v := xw_i 3) hx hb d_MD_formed_117 rfl ?_
                          refine xw_icmp_eq (tgt := 128) hx hb hg47 (by decide) d_MD_formed_118 (by decide) (fun hc49 => ?_) (fun hc49 => ?_)
                          · replace h := xw_ifT hc49 h
                            exact hj128 s44 i3_104 i4_104 h _ _ _ hP hS (lv_sub hl [1, 2, 3, 4] rfl)
                          · replace h := xw_ifF hc49 h
                            refine lv_iload hx hb d_MD_formed_121 (lv_at hl 4 rfl) ?_
                            refine lv_bipush (v := xw_i 16) hx hb d_MD_formed_123 (by decide) ?_
                            refine xw_icmp_ne (tgt := 145) hx hb hg47 (by decide) d_MD_formed_125 (by decide) (fun hc50 => ?_) (fun hc50 => ?_)
                            · replace h := xw_ifF hc50 h
                              exact hj145 s44 i3_104 i4_104 h _ _ _ hP hS (lv_sub hl [1, 2, 3, 4] rfl)
                            · replace h := xw_ifT hc50 h
                              exact hj128 s44 i3_104 i4_104 h _ _ _ hP hS (lv_sub hl [1, 2, 3, 4] rfl)
            · intro j104 hj104 h
              refine xw_jnI (fun j => ∀ (sq : xw_S) (i3_103 : Int) (i4_103 : Int), j sq i3_103 i4_103 = some (sZ, r0) → ∀ (H : Heap) (locs : List Loc) (ls : Array Slot), va_P D vwCl (xw_ws kdR 29 ad cs Z sq) H → va_S A s.heap H locs → lv_has ls 5 [(0, .ref (ad 0)), (1, .int (xw_i c1_14)), (3, .int (xw_i i3_103)), (4, .int (xw_i i4_103))] → W p l e (headSpec w_MD_formed ({ frames := 2, cells := 0, slots := 0, locals := 45 })).room s m [.ref (ad 0), .int (xw_i p1)].toArray below meth c H locs 0 0 (MQ below (va_Qi (fun r u => r = xw_i r0 ∧ u = sZ) (xw_H D vwCl A kdR 29 ad cs Z tt) A) [.ref (ad 0), .int (xw_i p1)].toArray s 0 0 A) (F0 m 103 ls [])) h ?_ ?_
              · intro s43 i3_103 i4_103 h H locs ls hP hS hl
                refine lv_iconst (v := xw_i 0) hx hb d_MD_formed_103 rfl ?_
                exact hj104 s43 i3_103 i4_103 0 h _ _ _ hP hS (lv_sub hl [0, 1, 2, 3] rfl)
              · intro j103 hj103 h
                obtain ⟨hg16, h⟩ := xw_grdI h
                refine xw_if_eq (tgt := 103) hx hb hg16 d_MD_formed_42 (by decide) (fun hc17 => ?_) (fun hc17 => ?_)
                · replace h := xw_ifT hc17 h
                  exact hj103 s10 i3_14 r12 h _ _ _ hP hS (lv_sub hl [1, 2, 4, 0] rfl)
                · replace h := xw_ifF hc17 h
                  refine lv_iload hx hb d_MD_formed_45 (lv_at hl 0 rfl) ?_
                  refine lv_bipush (v := xw_i 30) hx hb d_MD_formed_47 (by decide) ?_
                  obtain ⟨hg18, h⟩ := xw_grdI h
                  refine xw_icmp_ge (tgt := 103) hx hb hg18 (by decide) d_MD_formed_49 (by decide) (fun hc19 => ?_) (fun hc19 => ?_)
                  · replace h := xw_ifT hc19 h
                    exact hj103 s10 i3_14 r12 h _ _ _ hP hS (lv_sub hl [1, 2, 4, 0] rfl)
                  · replace h := xw_ifF hc19 h
                    refine lv_iload hx hb d_MD_formed_52 (lv_at hl 0 rfl) ?_
                    obtain ⟨s20, r22, hc21, h⟩ := xw_bn2I h
                    refine xw_callSi ⟨hx, hb, hml, hown, hts⟩ (c_MD_branches l D A ad cs Z tt fu s10 s20 r12 r22 hc21) (va_cwS 1 hts (gd_S hw_467 hw_468 hw_433 hw_469) rfl rfl rfl (by decide +kernel) ⟨Nat.le_of_ble_eq_true rfl, Nat.le_of_ble_eq_true rfl⟩) hP hK hD hX hS rfl hl.1 rfl (Nat.le_of_ble_eq_true rfl) d_MD_formed_54 (fun H locs hP hS => ?_)
                    refine xw_jnI (fun j => ∀ (sq : xw_S) (i3_99 : Int) (i4_99 : Int), j sq i3_99 i4_99 = some (sZ, r0) → ∀ (H : Heap) (locs : List Loc) (ls : Array Slot), va_P D vwCl (xw_ws kdR 29 ad cs Z sq) H → va_S A s.heap H locs → lv_has ls 5 [(0, .ref (ad 0)), (1, .int (xw_i c1_14)), (3, .int (xw_i i3_99)), (4, .int (xw_i i4_99))] → W p l e (headSpec w_MD_formed ({ frames := 2, cells := 0, slots := 0, locals := 45 })).room s m [.ref (ad 0), .int (xw_i p1)].toArray below meth c H locs 0 0 (MQ below (va_Qi (fun r u => r = xw_i r0 ∧ u = sZ) (xw_H D vwCl A kdR 29 ad cs Z tt) A) [.ref (ad 0), .int (xw_i p1)].toArray s 0 0 A) (F0 m 99 ls [])) h ?_ ?_
                    · intro s42 i3_99 i4_99 h H locs ls hP hS hl
                      refine lv_iconst (v := xw_i 1) hx hb d_MD_formed_99 rfl ?_
                      refine lv_goto (tgt := 104) hx hb d_MD_formed_100 (by decide) ?_
                      exact hj104 s42 i3_99 i4_99 1 h _ _ _ hP hS (lv_sub hl [0, 1, 2, 3] rfl)
                    · intro j99 hj99 h
                      obtain ⟨hg23, h⟩ := xw_grdI h
                      refine xw_if_eq (tgt := 99) hx hb hg23 d_MD_formed_57 (by decide) (fun hc24 => ?_) (fun hc24 => ?_)
                      · replace h := xw_ifT hc24 h
                        exact hj99 s20 i3_14 r12 h _ _ _ hP hS (lv_sub hl [1, 2, 4, 0] rfl)
                      · replace h := xw_ifF hc24 h
                        refine lv_aload_n hx hb d_MD_formed_60 rfl (lv_at hl 1 rfl) ?_
                        refine lv_iload_n hx hb d_MD_formed_61 rfl (lv_at hl 2 rfl) ?_
                        refine lv_aload_n hx hb d_MD_formed_62 rfl (lv_at hl 1 rfl) ?_
                        refine lv_iload_n hx hb d_MD_formed_63 rfl (lv_at hl 2 rfl) ?_
                        refine lv_iload_n hx hb d_MD_formed_64 rfl (lv_at hl 4 rfl) ?_
                        obtain ⟨s25, r27, hc26, h⟩ := xw_bn2I h
                        refine xw_callVi (C := "AdviceWeaverModel") (T := T_MD) ⟨hx, hb, hml, hown, hts⟩ (c_MD_target l D A ad cs Z tt fu s20 s25 c1_14 i3_14 r27 hc26) (cwV 2 hts (gd_V hw_470 hw_471 hw_472 hw_433 hw_473) rfl rfl rfl (by decide +kernel) ⟨Nat.le_of_ble_eq_true rfl, Nat.le_of_ble_eq_true rfl⟩) hP hK hD hX hS (by decide) kr_MD (by decide) rfl rfl hl.1 rfl (Nat.le_of_ble_eq_true rfl) d_MD_formed_65 (fun H locs hP hS => ?_)
                        obtain ⟨s28, r30, hc29, h⟩ := xw_bn2I h
                        refine xw_callVi (C := "AdviceWeaverModel") (T := T_MD) ⟨hx, hb, hml, hown, hts⟩ (c_MD_isPlace l D A ad cs Z tt fu s25 s28 c1_14 r27 r30 hc29) (cwV 2 hts (gd_V hw_474 hw_475 hw_476 hw_433 hw_477) rfl rfl rfl (by decide +kernel) ⟨Nat.le_of_ble_eq_true rfl, Nat.le_of_ble_eq_true rfl⟩) hP hK hD hX hS (by decide) kr_MD (by decide) rfl rfl hl.1 rfl (Nat.le_of_ble_eq_true rfl) d_MD_formed_68 (fun H locs hP hS => ?_)
                        obtain ⟨hg31, h⟩ := xw_grdI h
                        refine xw_if_eq (tgt := 103) hx hb hg31 d_MD_formed_71 (by decide) (fun hc32 => ?_) (fun hc32 => ?_)
                        · replace h := xw_ifT hc32 h
                          exact hj103 s28 i3_14 r12 h _ _ _ hP hS (lv_sub hl [1, 2, 4, 0] rfl)
                        · replace h := xw_ifF hc32 h
                          refine lv_iload hx hb d_MD_formed_74 (lv_at hl 0 rfl) ?_
                          refine lv_bipush (v := xw_i 12) hx hb d_MD_formed_76 (by decide) ?_
                          refine xw_icmp_gt (tgt := 99) hx hb hg18 (by decide) d_MD_formed_78 (by decide) (fun hc33 => ?_) (fun hc33 => ?_)
                          · replace h := xw_ifT hc33 h
                            exact hj99 s28 i3_14 r12 h _ _ _ hP hS (lv_sub hl [1, 2, 4, 0] rfl)
                          · replace h := xw_ifF hc33 h
                            refine lv_aload_n hx hb d_MD_formed_81 rfl (lv_at hl 1 rfl) ?_
                            refine lv_iload_n hx hb d_MD_formed_82 rfl (lv_at hl 2 rfl) ?_
                            refine lv_iload_n hx hb d_MD_formed_83 rfl (lv_at hl 4 rfl) ?_
                            refine lv_iconst (v := xw_i 1) hx hb d_MD_formed_84 rfl ?_
                            refine xw_iadd hx hb d_MD_formed_85 ?_
                            obtain ⟨s34, r36, hc35, h⟩ := xw_bn2I h
                            refine xw_callVi (C := "AdviceWeaverModel") (T := T_MD) ⟨hx, hb, hml, hown, hts⟩ (c_MD_signed l D A ad cs Z tt fu s28 s34 c1_14 (i3_14 + 1) r36 hc35) (cwV 2 hts (gd_V hw_459 hw_460 hw_461 hw_433 hw_462) rfl rfl rfl (by decide +kernel) ⟨Nat.le_of_ble_eq_true rfl, Nat.le_of_ble_eq_true rfl⟩) hP hK hD hX hS (by decide) kr_MD (by decide) rfl rfl hl.1 rfl (Nat.le_of_ble_eq_true rfl) d_MD_formed_86 (fun H locs hP hS => ?_)
                            refine lv_bipush (v := xw_i (-24)) hx hb d_MD_formed_89 (by decide) ?_
                            refine lv_bipush (v := xw_i 24) hx hb d_MD_formed_91 (by decide) ?_
                            obtain ⟨s37, r39, hc38, h⟩ := xw_bn2I h
                            refine xw_callSi ⟨hx, hb, hml, hown, hts⟩ (c_MD_outside l D A ad cs Z tt fu s34 s37 r36 (-24) 24 r39 hc38) (va_cwS 3 hts (gd_S hw_431 hw_432 hw_433 hw_434) rfl rfl rfl (by decide +kernel) ⟨Nat.le_of_ble_eq_true rfl, Nat.le_of_ble_eq_true rfl⟩) hP hK hD hX hS rfl hl.1 rfl (Nat.le_of_ble_eq_true rfl) d_MD_formed_93 (fun H locs hP hS => ?_)
                            obtain ⟨hg40, h⟩ := xw_grdI h
                            refine xw_if_ne (tgt := 103) hx hb hg40 d_MD_formed_96 (by decide) (fun hc41 => ?_) (fun hc41 => ?_)
                            · replace h := xw_ifF hc41 h
                              exact hj103 s37 i3_14 r12 h _ _ _ hP hS (lv_sub hl [1, 2, 4, 0] rfl)
                            · replace h := xw_ifT hc41 h
                              exact hj99 s37 i3_14 r12 h _ _ _ hP hS (lv_sub hl [1, 2, 4, 0] rfl)
  have hlp184 : ∀ (c1_184 : Int) (k309 : xw_S → Int → Option (xw_S × Int)) (hk309 : ∀ (sq : xw_S) (i2_309 : Int), k309 sq i2_309 = some (sZ, r0) → ∀ (H : Heap) (locs : List Loc) (ls : Array Slot), va_P D vwCl (xw_ws kdR 29 ad cs Z sq) H → va_S A s.heap H locs → lv_has ls 5 [(2, .int (xw_i i2_309))] → W p l e (headSpec w_MD_formed ({ frames := 2, cells := 0, slots := 0, locals := 45 })).room s m [.ref (ad 0), .int (xw_i p1)].toArray below meth c H locs 0 0 (MQ below (va_Qi (fun r u => r = xw_i r0 ∧ u = sZ) (xw_H D vwCl A kdR 29 ad cs Z tt) A) [.ref (ad 0), .int (xw_i p1)].toArray s 0 0 A) (F0 m 309 ls [])) (n : Nat), ∀ (sq : xw_S) (i2_184 : Int) (i3_184 : Int), lp_MD_formed_184 fu c1_184 k309 n sq i2_184 i3_184 = some (sZ, r0) → ∀ (H : Heap) (locs : List Loc) (ls : Array Slot), va_P D vwCl (xw_ws kdR 29 ad cs Z sq) H → va_S A s.heap H locs → lv_has ls 5 [(0, .ref (ad 0)), (1, .int (xw_i c1_184)), (2, .int (xw_i i2_184)), (3, .int (xw_i i3_184))] → W p l e (headSpec w_MD_formed ({ frames := 2, cells := 0, slots := 0, locals := 45 })).room s m [.ref (ad 0), .int (xw_i p1)].toArray below meth c H locs 0 0 (MQ below (va_Qi (fun r u => r = xw_i r0 ∧ u = sZ) (xw_H D vwCl A kdR 29 ad cs Z tt) A) [.ref (ad 0), .int (xw_i p1)].toArray s 0 0 A) (F0 m 184 ls []) := by
    intro c1_184 k309 hk309 n
    induction n with
    | zero =>
      intro sq i2_184 i3_184 h
      cases (show (none : Option (xw_S × Int)) = some (sZ, r0) from h)
    | succ n ih184 =>
      intro s75 i2_184 i3_184 h H locs ls hP hS hl
      unfold lp_MD_formed_184 at h
      refine lv_iload_n hx hb d_MD_formed_184 rfl (lv_at hl 3 rfl) ?_
      refine lv_bipush (v := xw_i 20) hx hb d_MD_formed_185 (by decide) ?_
      refine lv_iload_n hx hb d_MD_formed_187 rfl (lv_at hl 1 rfl) ?_
      refine xw_imul hx hb d_MD_formed_188 ?_
      refine lv_iconst (v := xw_i 4) hx hb d_MD_formed_189 rfl ?_
      refine lv_aload_n hx hb d_MD_formed_190 rfl (lv_at hl 0 rfl) ?_
      refine xw_getR (C := "AdviceWeaverModel") (T := T_MD) hx hb hts hin_MD hown hK hP (by decide) kr_MD (by decide) rfl 8 (by decide) (hts _ hw_449) (fun _ h9 => h9) rfl d_MD_formed_191 ?_
      refine lv_iload_n hx hb d_MD_formed_194 rfl (lv_at hl 1 rfl) ?_
      obtain ⟨hg76, h⟩ := xw_grdI h
      refine xw_iald hx hb hK hP (by decide) kr_m_handlers (by decide) hg76 d_MD_formed_195 ?_
      refine xw_imul hx hb d_MD_formed_196 ?_
      refine xw_iadd hx hb d_MD_formed_197 ?_
      obtain ⟨hg77, h⟩ := xw_grdI h
      refine xw_icmp_ge (tgt := 309) hx hb hg77.1 hg77.2 d_MD_formed_198 (by decide) (fun hc78 => ?_) (fun hc78 => ?_)
      · replace h := xw_ifT hc78 h
        exact hk309 s75 i2_184 h _ _ _ hP hS (lv_sub hl [2] rfl)
      · replace h := xw_ifF hc78 h
        refine lv_aload_n hx hb d_MD_formed_201 rfl (lv_at hl 0 rfl) ?_
        refine xw_getR (C := "AdviceWeaverModel") (T := T_MD) hx hb hts hin_MD hown hK hP (by decide) kr_MD (by decide) rfl 9 (by decide) (hts _ hw_450) (fun _ h9 => h9) rfl d_MD_formed_202 ?_
        refine lv_iload_n hx hb d_MD_formed_205 rfl (lv_at hl 3 rfl) ?_
        refine lv_iconst (v := xw_i 1) hx hb d_MD_formed_206 rfl ?_
        refine xw_iadd hx hb d_MD_formed_207 ?_
        obtain ⟨hg79, h⟩ := xw_grdI h
        refine xw_iald hx hb hK hP (by decide) kr_m_handler (by decide) hg79 d_MD_formed_208 ?_
        refine lv_aload_n hx hb d_MD_formed_209 rfl (lv_at hl 0 rfl) ?_
        refine xw_getR (C := "AdviceWeaverModel") (T := T_MD) hx hb hts hin_MD hown hK hP (by decide) kr_MD (by decide) rfl 6 (by decide) (hts _ hw_447) (fun _ h9 => h9) rfl d_MD_formed_210 ?_
        refine lv_iload_n hx hb d_MD_formed_213 rfl (lv_at hl 1 rfl) ?_
        refine xw_iald hx hb hK hP (by decide) kr_m_length (by decide) hg76 d_MD_formed_214 ?_
        refine xw_jnI (fun j => ∀ (sq : xw_S) (i2_239 : Int) (i3_239 : Int) (t0_239 : Int), j sq i2_239 i3_239 t0_239 = some (sZ, r0) → ∀ (H : Heap) (locs : List Loc) (ls : Array Slot), va_P D vwCl (xw_ws kdR 29 ad cs Z sq) H → va_S A s.heap H locs → lv_has ls 5 [(0, .ref (ad 0)), (1, .int (xw_i c1_184)), (2, .int (xw_i i2_239)), (3, .int (xw_i i3_239))] → W p l e (headSpec w_MD_formed ({ frames := 2, cells := 0, slots := 0, locals := 45 })).room s m [.ref (ad 0), .int (xw_i p1)].toArray below meth c H locs 0 0 (MQ below (va_Qi (fun r u => r = xw_i r0 ∧ u = sZ) (xw_H D vwCl A kdR 29 ad cs Z tt) A) [.ref (ad 0), .int (xw_i p1)].toArray s 0 0 A) (F0 m 239 ls [.int (xw_i t0_239)])) h ?_ ?_
        · intro s88 i2_239 i3_239 t0_239 h H locs ls hP hS hl
          refine lv_istore hx hb d_MD_formed_239 hl (by decide) rfl (fun ls hl => ?_)
          refine lv_iload_n hx hb d_MD_formed_241 rfl (lv_at hl 3 rfl) ?_
          refine xw_jnI (fun j => ∀ (sq : xw_S) (i3_302 : Int) (t0_302 : Int), j sq i3_302 t0_302 = some (sZ, r0) → ∀ (H : Heap) (locs : List Loc) (ls : Array Slot), va_P D vwCl (xw_ws kdR 29 ad cs Z sq) H → va_S A s.heap H locs → lv_has ls 5 [(0, .ref (ad 0)), (1, .int (xw_i c1_184)), (3, .int (xw_i i3_302))] → W p l e (headSpec w_MD_formed ({ frames := 2, cells := 0, slots := 0, locals := 45 })).room s m [.ref (ad 0), .int (xw_i p1)].toArray below meth c H locs 0 0 (MQ below (va_Qi (fun r u => r = xw_i r0 ∧ u = sZ) (xw_H D vwCl A kdR 29 ad cs Z tt) A) [.ref (ad 0), .int (xw_i p1)].toArray s 0 0 A) (F0 m 302 ls [.int (xw_i t0_302)])) h ?_ ?_
          · intro s109 i3_302 t0_302 h H locs ls hP hS hl
            refine lv_istore_n hx hb d_MD_formed_302 rfl hl (by decide) rfl (fun ls hl => ?_)
            obtain ⟨v110, e111⟩ : ∃ z, z = i3_302 + 4 := ⟨_, rfl⟩
            replace h := xw_letI e111 h
            refine xw_iinc (lv' := [(3, .int (xw_i v110)), (2, .int (xw_i t0_302)), (0, .ref (ad 0)), (1, .int (xw_i c1_184))]) hx hb d_MD_formed_303 hl (k := 3) rfl (by decide) (by rw [e111]; rfl) (fun ls hl => ?_)
            refine lv_goto (tgt := 184) hx hb d_MD_formed_306 (by decide) ?_
            exact ih184 s109 t0_302 v110 h _ _ _ hP hS (lv_sub hl [2, 3, 1, 0] rfl)
          · intro j302 hj302 h
            refine xw_jnI (fun j => ∀ (sq : xw_S) (i3_301 : Int), j sq i3_301 = some (sZ, r0) → ∀ (H : Heap) (locs : List Loc) (ls : Array Slot), va_P D vwCl (xw_ws kdR 29 ad cs Z sq) H → va_S A s.heap H locs → lv_has ls 5 [(0, .ref (ad 0)), (1, .int (xw_i c1_184)), (3, .int (xw_i i3_301))] → W p l e (headSpec w_MD_formed ({ frames := 2, cells := 0, slots := 0, locals := 45 })).room s m [.ref (ad 0), .int (xw_i p1)].toArray below meth c H locs 0 0 (MQ below (va_Qi (fun r u => r = xw_i r0 ∧ u = sZ) (xw_H D vwCl A kdR 29 ad cs Z tt) A) [.ref (ad 0), .int (xw_i p1)].toArray s 0 0 A) (F0 m 301 ls [])) h ?_ ?_
            · intro s108 i3_301 h H locs ls hP hS hl
              refine lv_iconst (v := xw_i 0) hx hb d_MD_formed_301 rfl ?_
              exact hj302 s108 i3_301 0 h _ _ _ hP hS (lv_sub hl [0, 1, 2] rfl)
            · intro j301 hj301 h
              obtain ⟨hg89, h⟩ := xw_grdI h
              refine xw_if_eq (tgt := 301) hx hb hg89 d_MD_formed_242 (by decide) (fun hc90 => ?_) (fun hc90 => ?_)
              · replace h := xw_ifT hc90 h
                exact hj301 s88 i3_239 h _ _ _ hP hS (lv_sub hl [1, 2, 4] rfl)
              · replace h := xw_ifF hc90 h
                refine lv_aload_n hx hb d_MD_formed_245 rfl (lv_at hl 1 rfl) ?_
                refine lv_iload_n hx hb d_MD_formed_246 rfl (lv_at hl 2 rfl) ?_
                refine lv_aload_n hx hb d_MD_formed_247 rfl (lv_at hl 1 rfl) ?_
                refine xw_getR (C := "AdviceWeaverModel") (T := T_MD) hx hb hts hin_MD hown hK hP (by decide) kr_MD (by decide) rfl 9 (by decide) (hts _ hw_450) (fun _ h9 => h9) rfl d_MD_formed_248 ?_
                refine lv_iload_n hx hb d_MD_formed_251 rfl (lv_at hl 4 rfl) ?_
                obtain ⟨hg91, h⟩ := xw_grdI h
                refine xw_iald hx hb hK hP (by decide) kr_m_handler (by decide) hg91 d_MD_formed_252 ?_
                obtain ⟨s92, r94, hc93, h⟩ := xw_bn2I h
                refine xw_callVi (C := "AdviceWeaverModel") (T := T_MD) ⟨hx, hb, hml, hown, hts⟩ (c_MD_isPlace l D A ad cs Z tt fu s88 s92 c1_184 (s88.1 9 (i3_239).toNat) r94 hc93) (cwV 2 hts (gd_V hw_474 hw_475 hw_476 hw_433 hw_477) rfl rfl rfl (by decide +kernel) ⟨Nat.le_of_ble_eq_true rfl, Nat.le_of_ble_eq_true rfl⟩) hP hK hD hX hS (by decide) kr_MD (by decide) rfl rfl hl.1 rfl (Nat.le_of_ble_eq_true rfl) d_MD_formed_253 (fun H locs hP hS => ?_)
                obtain ⟨hg95, h⟩ := xw_grdI h
                refine xw_if_eq (tgt := 301) hx hb hg95 d_MD_formed_256 (by decide) (fun hc96 => ?_) (fun hc96 => ?_)
                · replace h := xw_ifT hc96 h
                  exact hj301 s92 i3_239 h _ _ _ hP hS (lv_sub hl [1, 2, 4] rfl)
                · replace h := xw_ifF hc96 h
                  refine lv_aload_n hx hb d_MD_formed_259 rfl (lv_at hl 1 rfl) ?_
                  refine lv_iload_n hx hb d_MD_formed_260 rfl (lv_at hl 2 rfl) ?_
                  refine lv_aload_n hx hb d_MD_formed_261 rfl (lv_at hl 1 rfl) ?_
                  refine xw_getR (C := "AdviceWeaverModel") (T := T_MD) hx hb hts hin_MD hown hK hP (by decide) kr_MD (by decide) rfl 9 (by decide) (hts _ hw_450) (fun _ h9 => h9) rfl d_MD_formed_262 ?_
                  refine lv_iload_n hx hb d_MD_formed_265 rfl (lv_at hl 4 rfl) ?_
                  refine lv_iconst (v := xw_i 2) hx hb d_MD_formed_266 rfl ?_
                  refine xw_iadd hx hb d_MD_formed_267 ?_
                  obtain ⟨hg97, h⟩ := xw_grdI h
                  refine xw_iald hx hb hK hP (by decide) kr_m_handler (by decide) hg97 d_MD_formed_268 ?_
                  obtain ⟨s98, r100, hc99, h⟩ := xw_bn2I h
                  refine xw_callVi (C := "AdviceWeaverModel") (T := T_MD) ⟨hx, hb, hml, hown, hts⟩ (c_MD_isPlace l D A ad cs Z tt fu s92 s98 c1_184 (s92.1 9 (i3_239 + 2).toNat) r100 hc99) (cwV 2 hts (gd_V hw_474 hw_475 hw_476 hw_433 hw_477) rfl rfl rfl (by decide +kernel) ⟨Nat.le_of_ble_eq_true rfl, Nat.le_of_ble_eq_true rfl⟩) hP hK hD hX hS (by decide) kr_MD (by decide) rfl rfl hl.1 rfl (Nat.le_of_ble_eq_true rfl) d_MD_formed_269 (fun H locs hP hS => ?_)
                  obtain ⟨hg101, h⟩ := xw_grdI h
                  refine xw_if_eq (tgt := 301) hx hb hg101 d_MD_formed_272 (by decide) (fun hc102 => ?_) (fun hc102 => ?_)
                  · replace h := xw_ifT hc102 h
                    exact hj301 s98 i3_239 h _ _ _ hP hS (lv_sub hl [1, 2, 4] rfl)
                  · replace h := xw_ifF hc102 h
                    refine lv_iload hx hb d_MD_formed_275 (lv_at hl 0 rfl) ?_
                    obtain ⟨hg103, h⟩ := xw_grdI h
                    refine xw_if_eq (tgt := 301) hx hb hg103 d_MD_formed_277 (by decide) (fun hc104 => ?_) (fun hc104 => ?_)
                    · replace h := xw_ifT hc104 h
                      exact hj301 s98 i3_239 h _ _ _ hP hS (lv_sub hl [1, 2, 4] rfl)
                    · replace h := xw_ifF hc104 h
                      refine lv_aload_n hx hb d_MD_formed_280 rfl (lv_at hl 1 rfl) ?_
                      refine xw_getR (C := "AdviceWeaverModel") (T := T_MD) hx hb hts hin_MD hown hK hP (by decide) kr_MD (by decide) rfl 9 (by decide) (hts _ hw_450) (fun _ h9 => h9) rfl d_MD_formed_281 ?_
                      refine lv_iload_n hx hb d_MD_formed_284 rfl (lv_at hl 4 rfl) ?_
                      refine lv_iconst (v := xw_i 1) hx hb d_MD_formed_285 rfl ?_
                      refine xw_iadd hx hb d_MD_formed_286 ?_
                      obtain ⟨hg105, h⟩ := xw_grdI h
                      refine xw_iald hx hb hK hP (by decide) kr_m_handler (by decide) hg105 d_MD_formed_287 ?_
                      refine lv_aload_n hx hb d_MD_formed_288 rfl (lv_at hl 1 rfl) ?_
                      refine xw_getR (C := "AdviceWeaverModel") (T := T_MD) hx hb hts hin_MD hown hK hP (by decide) kr_MD (by decide) rfl 9 (by decide) (hts _ hw_450) (fun _ h9 => h9) rfl d_MD_formed_289 ?_
                      refine lv_iload_n hx hb d_MD_formed_292 rfl (lv_at hl 4 rfl) ?_
                      refine xw_iald hx hb hK hP (by decide) kr_m_handler (by decide) hg91 d_MD_formed_293 ?_
                      obtain ⟨hg106, h⟩ := xw_grdI h
                      refine xw_icmp_le (tgt := 301) hx hb hg106.1 hg106.2 d_MD_formed_294 (by decide) (fun hc107 => ?_) (fun hc107 => ?_)
                      · replace h := xw_ifT hc107 h
                        exact hj301 s98 i3_239 h _ _ _ hP hS (lv_sub hl [1, 2, 4] rfl)
                      · replace h := xw_ifF hc107 h
                        refine lv_iconst (v := xw_i 1) hx hb d_MD_formed_297 rfl ?_
                        refine lv_goto (tgt := 302) hx hb d_MD_formed_298 (by decide) ?_
                        exact hj302 s98 i3_239 1 h _ _ _ hP hS (lv_sub hl [1, 2, 4] rfl)
        · intro j239 hj239 h
          refine xw_jnI (fun j => ∀ (sq : xw_S) (i2_234 : Int) (i3_234 : Int), j sq i2_234 i3_234 = some (sZ, r0) → ∀ (H : Heap) (locs : List Loc) (ls : Array Slot), va_P D vwCl (xw_ws kdR 29 ad cs Z sq) H → va_S A s.heap H locs → lv_has ls 5 [(0, .ref (ad 0)), (1, .int (xw_i c1_184)), (2, .int (xw_i i2_234)), (3, .int (xw_i i3_234))] → W p l e (headSpec w_MD_formed ({ frames := 2, cells := 0, slots := 0, locals := 45 })).room s m [.ref (ad 0), .int (xw_i p1)].toArray below meth c H locs 0 0 (MQ below (va_Qi (fun r u => r = xw_i r0 ∧ u = sZ) (xw_H D vwCl A kdR 29 ad cs Z tt) A) [.ref (ad 0), .int (xw_i p1)].toArray s 0 0 A) (F0 m 234 ls [])) h ?_ ?_
          · intro s87 i2_234 i3_234 h H locs ls hP hS hl
            refine lv_iconst (v := xw_i 1) hx hb d_MD_formed_234 rfl ?_
            refine lv_goto (tgt := 239) hx hb d_MD_formed_235 (by decide) ?_
            exact hj239 s87 i2_234 i3_234 1 h _ _ _ hP hS (lv_sub hl [0, 1, 2, 3] rfl)
          · intro j234 hj234 h
            obtain ⟨hg80, h⟩ := xw_grdI h
            refine xw_icmp_eq (tgt := 234) hx hb hg80.1 hg80.2 d_MD_formed_215 (by decide) (fun hc81 => ?_) (fun hc81 => ?_)
            · replace h := xw_ifT hc81 h
              exact hj234 s75 i2_184 i3_184 h _ _ _ hP hS (lv_sub hl [0, 1, 2, 3] rfl)
            · replace h := xw_ifF hc81 h
              refine lv_aload_n hx hb d_MD_formed_218 rfl (lv_at hl 0 rfl) ?_
              refine lv_iload_n hx hb d_MD_formed_219 rfl (lv_at hl 1 rfl) ?_
              refine lv_aload_n hx hb d_MD_formed_220 rfl (lv_at hl 0 rfl) ?_
              refine xw_getR (C := "AdviceWeaverModel") (T := T_MD) hx hb hts hin_MD hown hK hP (by decide) kr_MD (by decide) rfl 9 (by decide) (hts _ hw_450) (fun _ h9 => h9) rfl d_MD_formed_221 ?_
              refine lv_iload_n hx hb d_MD_formed_224 rfl (lv_at hl 3 rfl) ?_
              refine lv_iconst (v := xw_i 1) hx hb d_MD_formed_225 rfl ?_
              refine xw_iadd hx hb d_MD_formed_226 ?_
              refine xw_iald hx hb hK hP (by decide) kr_m_handler (by decide) hg79 d_MD_formed_227 ?_
              obtain ⟨s82, r84, hc83, h⟩ := xw_bn2I h
              refine xw_callVi (C := "AdviceWeaverModel") (T := T_MD) ⟨hx, hb, hml, hown, hts⟩ (c_MD_isPlace l D A ad cs Z tt fu s75 s82 c1_184 (s75.1 9 (i3_184 + 1).toNat) r84 hc83) (cwV 2 hts (gd_V hw_474 hw_475 hw_476 hw_433 hw_477) rfl rfl rfl (by decide +kernel) ⟨Nat.le_of_ble_eq_true rfl, Nat.le_of_ble_eq_true rfl⟩) hP hK hD hX hS (by decide) kr_MD (by decide) rfl rfl hl.1 rfl (Nat.le_of_ble_eq_true rfl) d_MD_formed_228 (fun H locs hP hS => ?_)
              obtain ⟨hg85, h⟩ := xw_grdI h
              refine xw_if_eq (tgt := 238) hx hb hg85 d_MD_formed_231 (by decide) (fun hc86 => ?_) (fun hc86 => ?_)
              · replace h := xw_ifT hc86 h
                refine lv_iconst (v := xw_i 0) hx hb d_MD_formed_238 rfl ?_
                exact hj239 s82 i2_184 i3_184 0 h _ _ _ hP hS (lv_sub hl [0, 1, 2, 3] rfl)
              · replace h := xw_ifF hc86 h
                exact hj234 s82 i2_184 i3_184 h _ _ _ hP hS (lv_sub hl [0, 1, 2, 3] rfl)
  unfold f_MD_formed at h
  refine lv_aload_n hx hb d_MD_formed_0 rfl (lv_at hl 0 rfl) ?_
  refine lv_iload_n hx hb d_MD_formed_1 rfl (lv_at hl 1 rfl) ?_
  obtain ⟨s1, r3, hc2, h⟩ := xw_bn2I h
  refine xw_callVi (C := "AdviceWeaverModel") (T := T_MD) ⟨hx, hb, hml, hown, hts⟩ (c_MD_divide l D A ad cs Z tt fu s0 s1 p1 r3 hc2) (cwV 1 hts (gd_V hw_463 hw_464 hw_465 hw_433 hw_466) rfl rfl rfl (by decide +kernel) ⟨Nat.le_of_ble_eq_true rfl, Nat.le_of_ble_eq_true rfl⟩) hP hK hD hX hS (by decide) kr_MD (by decide) rfl rfl hl.1 rfl (Nat.le_of_ble_eq_true rfl) d_MD_formed_2 (fun H locs hP hS => ?_)
  obtain ⟨hg4, h⟩ := xw_grdI h
  refine xw_if_ne (tgt := 10) hx hb hg4 d_MD_formed_5 (by decide) (fun hc5 => ?_) (fun hc5 => ?_)
  · replace h := xw_ifF hc5 h
    refine lv_iconst (v := xw_i 1) hx hb d_MD_formed_10 rfl ?_
    refine lv_istore_n hx hb d_MD_formed_11 rfl hl (by decide) rfl (fun ls hl => ?_)
    refine lv_iconst (v := xw_i 0) hx hb d_MD_formed_12 rfl ?_
    refine lv_istore_n hx hb d_MD_formed_13 rfl hl (by decide) rfl (fun ls hl => ?_)
    refine xw_jnI (fun j => ∀ (sq : xw_S) (i2_179 : Int), j sq i2_179 = some (sZ, r0) → ∀ (H : Heap) (locs : List Loc) (ls : Array Slot), va_P D vwCl (xw_ws kdR 29 ad cs Z sq) H → va_S A s.heap H locs → lv_has ls 5 [(0, .ref (ad 0)), (1, .int (xw_i p1)), (2, .int (xw_i i2_179))] → W p l e (headSpec w_MD_formed ({ frames := 2, cells := 0, slots := 0, locals := 45 })).room s m [.ref (ad 0), .int (xw_i p1)].toArray below meth c H locs 0 0 (MQ below (va_Qi (fun r u => r = xw_i r0 ∧ u = sZ) (xw_H D vwCl A kdR 29 ad cs Z tt) A) [.ref (ad 0), .int (xw_i p1)].toArray s 0 0 A) (F0 m 179 ls [])) h ?_ ?_
    · intro s72 i2_179 h H locs ls hP hS hl
      refine lv_bipush (v := xw_i 20) hx hb d_MD_formed_179 (by decide) ?_
      refine lv_iload_n hx hb d_MD_formed_181 rfl (lv_at hl 1 rfl) ?_
      refine xw_imul hx hb d_MD_formed_182 ?_
      refine xw_topi (fun v73 e74 => ?_)
      replace h := xw_letI e74 h
      refine lv_istore_n hx hb d_MD_formed_183 rfl hl (by decide) rfl (fun ls hl => ?_)
      refine xw_jnI (fun j => ∀ (sq : xw_S) (i2_309 : Int), j sq i2_309 = some (sZ, r0) → ∀ (H : Heap) (locs : List Loc) (ls : Array Slot), va_P D vwCl (xw_ws kdR 29 ad cs Z sq) H → va_S A s.heap H locs → lv_has ls 5 [(2, .int (xw_i i2_309))] → W p l e (headSpec w_MD_formed ({ frames := 2, cells := 0, slots := 0, locals := 45 })).room s m [.ref (ad 0), .int (xw_i p1)].toArray below meth c H locs 0 0 (MQ below (va_Qi (fun r u => r = xw_i r0 ∧ u = sZ) (xw_H D vwCl A kdR 29 ad cs Z tt) A) [.ref (ad 0), .int (xw_i p1)].toArray s 0 0 A) (F0 m 309 ls [])) h ?_ ?_
      · intro s112 i2_309 h H locs ls hP hS hl
        refine lv_iload_n hx hb d_MD_formed_309 rfl (lv_at hl 0 rfl) ?_
        obtain ⟨hg113, h⟩ := xw_grdI h
        exact xw_zretE hx hb hr hlk hP hK hD hX hS h hg113 d_MD_formed_310
      · intro k309 hk309 h
        exact hlp184 p1 k309 hk309 fu s72 i2_179 v73 h _ _ _ hP hS (lv_sub hl [1, 2, 3, 0] rfl)
    · intro k179 hk179 h
      exact hlp14 p1 k179 hk179 fu s1 1 0 h _ _ _ hP hS (lv_sub hl [2, 3, 1, 0] rfl)
  · replace h := xw_ifT hc5 h
    refine lv_iconst (v := xw_i 0) hx hb d_MD_formed_8 rfl ?_
    exact xw_zretE hx hb hr hlk hP hK hD hX hS h (by decide) d_MD_formed_9
