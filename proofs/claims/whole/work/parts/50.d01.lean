/-! the law's decode rows -/
theorem d_LW_law_148 : decode code 148 = .ok (.ireturn, 1) := by decide +kernel
theorem d_LW_law_149 : decode code 149 = .ok (.aload_n 1, 1) := by decide +kernel
theorem d_LW_law_150 : decode code 150 = .ok (.invokevirtual 18, 3) := by decide +kernel
theorem d_LW_law_153 : decode code 153 = .ok (.aload_n 2, 1) := by decide +kernel
theorem d_LW_law_154 : decode code 154 = .ok (.invokevirtual 21, 3) := by decide +kernel
theorem d_LW_law_157 : decode code 157 = .ok (.goto 552, 3) := by decide +kernel
theorem d_LW_law_160 : decode code 160 = .ok (.aload_n 1, 1) := by decide +kernel
theorem d_LW_law_161 : decode code 161 = .ok (.invokevirtual 22, 3) := by decide +kernel
theorem d_LW_law_164 : decode code 164 = .ok (.aload_n 2, 1) := by decide +kernel
theorem d_LW_law_165 : decode code 165 = .ok (.invokevirtual 26, 3) := by decide +kernel
theorem d_LW_law_168 : decode code 168 = .ok (.if_icmp .eq 541, 3) := by decide +kernel
theorem d_LW_law_171 : decode code 171 = .ok (.iconst 0, 1) := by decide +kernel
theorem d_LW_law_172 : decode code 172 = .ok (.ireturn, 1) := by decide +kernel
theorem d_LW_law_173 : decode code 173 = .ok (.aload_n 1, 1) := by decide +kernel
theorem d_LW_law_174 : decode code 174 = .ok (.aload_n 0, 1) := by decide +kernel
theorem d_LW_law_175 : decode code 175 = .ok (.iload_n 3, 1) := by decide +kernel
theorem d_LW_law_176 : decode code 176 = .ok (.iconst 1, 1) := by decide +kernel
theorem d_LW_law_177 : decode code 177 = .ok (.iadd, 1) := by decide +kernel
theorem d_LW_law_178 : decode code 178 = .ok (.iaload, 1) := by decide +kernel
theorem d_LW_law_179 : decode code 179 = .ok (.ifCond .eq 7, 3) := by decide +kernel
theorem d_LW_law_182 : decode code 182 = .ok (.iconst 1, 1) := by decide +kernel
theorem d_LW_law_183 : decode code 183 = .ok (.goto 4, 3) := by decide +kernel
theorem d_LW_law_186 : decode code 186 = .ok (.iconst 0, 1) := by decide +kernel
theorem d_LW_law_187 : decode code 187 = .ok (.aload_n 0, 1) := by decide +kernel
theorem d_LW_law_188 : decode code 188 = .ok (.iload_n 3, 1) := by decide +kernel
theorem d_LW_law_189 : decode code 189 = .ok (.iconst 2, 1) := by decide +kernel
theorem d_LW_law_190 : decode code 190 = .ok (.iadd, 1) := by decide +kernel
theorem d_LW_law_191 : decode code 191 = .ok (.iaload, 1) := by decide +kernel
theorem d_LW_law_192 : decode code 192 = .ok (.aload_n 0, 1) := by decide +kernel
theorem d_LW_law_193 : decode code 193 = .ok (.iload_n 3, 1) := by decide +kernel
theorem d_LW_law_194 : decode code 194 = .ok (.iconst 3, 1) := by decide +kernel
theorem d_LW_law_195 : decode code 195 = .ok (.iadd, 1) := by decide +kernel
theorem d_LW_law_196 : decode code 196 = .ok (.iaload, 1) := by decide +kernel
theorem d_LW_law_197 : decode code 197 = .ok (.invokevirtual 27, 3) := by decide +kernel
theorem d_LW_law_200 : decode code 200 = .ok (.aload_n 2, 1) := by decide +kernel
theorem d_LW_law_201 : decode code 201 = .ok (.aload_n 0, 1) := by decide +kernel
theorem d_LW_law_202 : decode code 202 = .ok (.iload_n 3, 1) := by decide +kernel
theorem d_LW_law_203 : decode code 203 = .ok (.iconst 1, 1) := by decide +kernel
theorem d_LW_law_204 : decode code 204 = .ok (.iadd, 1) := by decide +kernel
theorem d_LW_law_205 : decode code 205 = .ok (.iaload, 1) := by decide +kernel
theorem d_LW_law_206 : decode code 206 = .ok (.ifCond .eq 7, 3) := by decide +kernel
theorem d_LW_law_209 : decode code 209 = .ok (.iconst 1, 1) := by decide +kernel
theorem d_LW_law_210 : decode code 210 = .ok (.goto 4, 3) := by decide +kernel
theorem d_LW_law_213 : decode code 213 = .ok (.iconst 0, 1) := by decide +kernel
theorem d_LW_law_214 : decode code 214 = .ok (.aload_n 0, 1) := by decide +kernel
theorem d_LW_law_215 : decode code 215 = .ok (.iload_n 3, 1) := by decide +kernel
theorem d_LW_law_216 : decode code 216 = .ok (.iconst 2, 1) := by decide +kernel
theorem d_LW_law_217 : decode code 217 = .ok (.iadd, 1) := by decide +kernel
