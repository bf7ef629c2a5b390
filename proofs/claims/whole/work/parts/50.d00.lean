/-! the law's decode rows -/
theorem d_LW_law_0 : decode code 0 = .ok (.new 7, 3) := by decide +kernel
theorem d_LW_law_3 : decode code 3 = .ok (.dup, 1) := by decide +kernel
theorem d_LW_law_4 : decode code 4 = .ok (.invokespecial 9, 3) := by decide +kernel
theorem d_LW_law_7 : decode code 7 = .ok (.astore_n 1, 1) := by decide +kernel
theorem d_LW_law_8 : decode code 8 = .ok (.new 10, 3) := by decide +kernel
theorem d_LW_law_11 : decode code 11 = .ok (.dup, 1) := by decide +kernel
theorem d_LW_law_12 : decode code 12 = .ok (.invokespecial 12, 3) := by decide +kernel
theorem d_LW_law_15 : decode code 15 = .ok (.astore_n 2, 1) := by decide +kernel
theorem d_LW_law_16 : decode code 16 = .ok (.iconst 0, 1) := by decide +kernel
theorem d_LW_law_17 : decode code 17 = .ok (.istore_n 3, 1) := by decide +kernel
theorem d_LW_law_18 : decode code 18 = .ok (.iload_n 3, 1) := by decide +kernel
theorem d_LW_law_19 : decode code 19 = .ok (.aload_n 0, 1) := by decide +kernel
theorem d_LW_law_20 : decode code 20 = .ok (.arraylength, 1) := by decide +kernel
theorem d_LW_law_21 : decode code 21 = .ok (.bipush 6, 2) := by decide +kernel
theorem d_LW_law_23 : decode code 23 = .ok (.isub, 1) := by decide +kernel
theorem d_LW_law_24 : decode code 24 = .ok (.if_icmp .gt 691, 3) := by decide +kernel
theorem d_LW_law_27 : decode code 27 = .ok (.aload_n 0, 1) := by decide +kernel
theorem d_LW_law_28 : decode code 28 = .ok (.iload_n 3, 1) := by decide +kernel
theorem d_LW_law_29 : decode code 29 = .ok (.iaload, 1) := by decide +kernel
theorem d_LW_law_30 : decode code 30 = .ok (.bipush 31, 2) := by decide +kernel
theorem d_LW_law_32 : decode code 32 = .ok (.iand, 1) := by decide +kernel
theorem d_LW_law_33 : decode code 33 = .ok (.tableswitch 676 0 16 #[83, 116, 127, 140, 199, 210, 223, 256, 335, 348, 361, 374, 397, 430, 489, 548, 617], 83) := by decide +kernel
theorem d_LW_law_116 : decode code 116 = .ok (.aload_n 1, 1) := by decide +kernel
theorem d_LW_law_117 : decode code 117 = .ok (.aload_n 0, 1) := by decide +kernel
theorem d_LW_law_118 : decode code 118 = .ok (.iload_n 3, 1) := by decide +kernel
theorem d_LW_law_119 : decode code 119 = .ok (.iconst 1, 1) := by decide +kernel
theorem d_LW_law_120 : decode code 120 = .ok (.iadd, 1) := by decide +kernel
theorem d_LW_law_121 : decode code 121 = .ok (.iaload, 1) := by decide +kernel
theorem d_LW_law_122 : decode code 122 = .ok (.aload_n 0, 1) := by decide +kernel
theorem d_LW_law_123 : decode code 123 = .ok (.iload_n 3, 1) := by decide +kernel
theorem d_LW_law_124 : decode code 124 = .ok (.iconst 2, 1) := by decide +kernel
theorem d_LW_law_125 : decode code 125 = .ok (.iadd, 1) := by decide +kernel
theorem d_LW_law_126 : decode code 126 = .ok (.iaload, 1) := by decide +kernel
theorem d_LW_law_127 : decode code 127 = .ok (.invokevirtual 13, 3) := by decide +kernel
theorem d_LW_law_130 : decode code 130 = .ok (.aload_n 2, 1) := by decide +kernel
theorem d_LW_law_131 : decode code 131 = .ok (.aload_n 0, 1) := by decide +kernel
theorem d_LW_law_132 : decode code 132 = .ok (.iload_n 3, 1) := by decide +kernel
theorem d_LW_law_133 : decode code 133 = .ok (.iconst 1, 1) := by decide +kernel
theorem d_LW_law_134 : decode code 134 = .ok (.iadd, 1) := by decide +kernel
theorem d_LW_law_135 : decode code 135 = .ok (.iaload, 1) := by decide +kernel
theorem d_LW_law_136 : decode code 136 = .ok (.aload_n 0, 1) := by decide +kernel
theorem d_LW_law_137 : decode code 137 = .ok (.iload_n 3, 1) := by decide +kernel
theorem d_LW_law_138 : decode code 138 = .ok (.iconst 2, 1) := by decide +kernel
theorem d_LW_law_139 : decode code 139 = .ok (.iadd, 1) := by decide +kernel
theorem d_LW_law_140 : decode code 140 = .ok (.iaload, 1) := by decide +kernel
theorem d_LW_law_141 : decode code 141 = .ok (.invokevirtual 17, 3) := by decide +kernel
theorem d_LW_law_144 : decode code 144 = .ok (.if_icmp .eq 565, 3) := by decide +kernel
theorem d_LW_law_147 : decode code 147 = .ok (.iconst 0, 1) := by decide +kernel
