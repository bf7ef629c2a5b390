/-! decode rows -/
theorem d_MD_transform_102 : decode b_MD_transform 102 = .ok (.aload_n 0, 1) := by decide +kernel
theorem d_MD_transform_103 : decode b_MD_transform 103 = .ok (.getfield 37, 3) := by decide +kernel
theorem d_MD_transform_106 : decode b_MD_transform 106 = .ok (.iload_n 2, 1) := by decide +kernel
theorem d_MD_transform_107 : decode b_MD_transform 107 = .ok (.baload, 1) := by decide +kernel
theorem d_MD_transform_108 : decode b_MD_transform 108 = .ok (.ifCond .ne 15, 3) := by decide +kernel
theorem d_MD_transform_111 : decode b_MD_transform 111 = .ok (.aload_n 0, 1) := by decide +kernel
theorem d_MD_transform_112 : decode b_MD_transform 112 = .ok (.getfield 31, 3) := by decide +kernel
theorem d_MD_transform_115 : decode b_MD_transform 115 = .ok (.iload_n 1, 1) := by decide +kernel
theorem d_MD_transform_116 : decode b_MD_transform 116 = .ok (.iaload, 1) := by decide +kernel
theorem d_MD_transform_117 : decode b_MD_transform 117 = .ok (.iconst 5, 1) := by decide +kernel
theorem d_MD_transform_118 : decode b_MD_transform 118 = .ok (.if_icmp .ne 5, 3) := by decide +kernel
theorem d_MD_transform_121 : decode b_MD_transform 121 = .ok (.iconst 0, 1) := by decide +kernel
theorem d_MD_transform_122 : decode b_MD_transform 122 = .ok (.ireturn, 1) := by decide +kernel
theorem d_MD_transform_123 : decode b_MD_transform 123 = .ok (.aload_n 0, 1) := by decide +kernel
theorem d_MD_transform_124 : decode b_MD_transform 124 = .ok (.iconst 0, 1) := by decide +kernel
theorem d_MD_transform_125 : decode b_MD_transform 125 = .ok (.putfield 191, 3) := by decide +kernel
theorem d_MD_transform_128 : decode b_MD_transform 128 = .ok (.iconst 0, 1) := by decide +kernel
theorem d_MD_transform_129 : decode b_MD_transform 129 = .ok (.istore 5, 2) := by decide +kernel
theorem d_MD_transform_131 : decode b_MD_transform 131 = .ok (.aload_n 0, 1) := by decide +kernel
theorem d_MD_transform_132 : decode b_MD_transform 132 = .ok (.getfield 37, 3) := by decide +kernel
theorem d_MD_transform_135 : decode b_MD_transform 135 = .ok (.iload_n 2, 1) := by decide +kernel
theorem d_MD_transform_136 : decode b_MD_transform 136 = .ok (.baload, 1) := by decide +kernel
theorem d_MD_transform_137 : decode b_MD_transform 137 = .ok (.ifCond .ne 16, 3) := by decide +kernel
theorem d_MD_transform_140 : decode b_MD_transform 140 = .ok (.aload_n 0, 1) := by decide +kernel
theorem d_MD_transform_141 : decode b_MD_transform 141 = .ok (.bipush 30, 2) := by decide +kernel
theorem d_MD_transform_143 : decode b_MD_transform 143 = .ok (.invokevirtual 194, 3) := by decide +kernel
theorem d_MD_transform_146 : decode b_MD_transform 146 = .ok (.aload_n 0, 1) := by decide +kernel
theorem d_MD_transform_147 : decode b_MD_transform 147 = .ok (.iconst 3, 1) := by decide +kernel
theorem d_MD_transform_148 : decode b_MD_transform 148 = .ok (.iload_n 2, 1) := by decide +kernel
theorem d_MD_transform_149 : decode b_MD_transform 149 = .ok (.imul, 1) := by decide +kernel
theorem d_MD_transform_150 : decode b_MD_transform 150 = .ok (.invokevirtual 194, 3) := by decide +kernel
theorem d_MD_transform_153 : decode b_MD_transform 153 = .ok (.iconst 0, 1) := by decide +kernel
theorem d_MD_transform_154 : decode b_MD_transform 154 = .ok (.istore 6, 2) := by decide +kernel
theorem d_MD_transform_156 : decode b_MD_transform 156 = .ok (.iload 6, 2) := by decide +kernel
theorem d_MD_transform_158 : decode b_MD_transform 158 = .ok (.aload_n 0, 1) := by decide +kernel
theorem d_MD_transform_159 : decode b_MD_transform 159 = .ok (.getfield 25, 3) := by decide +kernel
theorem d_MD_transform_162 : decode b_MD_transform 162 = .ok (.iload_n 1, 1) := by decide +kernel
theorem d_MD_transform_163 : decode b_MD_transform 163 = .ok (.iaload, 1) := by decide +kernel
theorem d_MD_transform_164 : decode b_MD_transform 164 = .ok (.if_icmp .ge 92, 3) := by decide +kernel
theorem d_MD_transform_167 : decode b_MD_transform 167 = .ok (.aload_n 0, 1) := by decide +kernel
theorem d_MD_transform_168 : decode b_MD_transform 168 = .ok (.getfield 50, 3) := by decide +kernel
theorem d_MD_transform_171 : decode b_MD_transform 171 = .ok (.iload 6, 2) := by decide +kernel
theorem d_MD_transform_173 : decode b_MD_transform 173 = .ok (.baload, 1) := by decide +kernel
theorem d_MD_transform_174 : decode b_MD_transform 174 = .ok (.ifCond .eq 59, 3) := by decide +kernel
theorem d_MD_transform_177 : decode b_MD_transform 177 = .ok (.aload_n 0, 1) := by decide +kernel
theorem d_MD_transform_178 : decode b_MD_transform 178 = .ok (.getfield 60, 3) := by decide +kernel
theorem d_MD_transform_181 : decode b_MD_transform 181 = .ok (.iload 6, 2) := by decide +kernel
theorem d_MD_transform_183 : decode b_MD_transform 183 = .ok (.baload, 1) := by decide +kernel
theorem d_MD_transform_184 : decode b_MD_transform 184 = .ok (.ifCond .eq 49, 3) := by decide +kernel
theorem d_MD_transform_187 : decode b_MD_transform 187 = .ok (.aload_n 0, 1) := by decide +kernel
theorem d_MD_transform_188 : decode b_MD_transform 188 = .ok (.aload_n 0, 1) := by decide +kernel
theorem d_MD_transform_189 : decode b_MD_transform 189 = .ok (.getfield 37, 3) := by decide +kernel
theorem d_MD_transform_192 : decode b_MD_transform 192 = .ok (.iload_n 2, 1) := by decide +kernel
theorem d_MD_transform_193 : decode b_MD_transform 193 = .ok (.baload, 1) := by decide +kernel
theorem d_MD_transform_194 : decode b_MD_transform 194 = .ok (.ifCond .eq 8, 3) := by decide +kernel
theorem d_MD_transform_197 : decode b_MD_transform 197 = .ok (.bipush 31, 2) := by decide +kernel
theorem d_MD_transform_199 : decode b_MD_transform 199 = .ok (.goto 5, 3) := by decide +kernel
theorem d_MD_transform_202 : decode b_MD_transform 202 = .ok (.bipush 30, 2) := by decide +kernel
theorem d_MD_transform_204 : decode b_MD_transform 204 = .ok (.invokevirtual 194, 3) := by decide +kernel
theorem d_MD_transform_207 : decode b_MD_transform 207 = .ok (.aload_n 0, 1) := by decide +kernel
