/-! the law's decode rows -/
theorem d_LW_law_218 : decode code 218 = .ok (.iaload, 1) := by decide +kernel
theorem d_LW_law_219 : decode code 219 = .ok (.aload_n 0, 1) := by decide +kernel
theorem d_LW_law_220 : decode code 220 = .ok (.iload_n 3, 1) := by decide +kernel
theorem d_LW_law_221 : decode code 221 = .ok (.iconst 3, 1) := by decide +kernel
theorem d_LW_law_222 : decode code 222 = .ok (.iadd, 1) := by decide +kernel
theorem d_LW_law_223 : decode code 223 = .ok (.iaload, 1) := by decide +kernel
theorem d_LW_law_224 : decode code 224 = .ok (.invokevirtual 31, 3) := by decide +kernel
theorem d_LW_law_227 : decode code 227 = .ok (.if_icmp .eq 482, 3) := by decide +kernel
theorem d_LW_law_230 : decode code 230 = .ok (.iconst 0, 1) := by decide +kernel
theorem d_LW_law_231 : decode code 231 = .ok (.ireturn, 1) := by decide +kernel
theorem d_LW_law_232 : decode code 232 = .ok (.aload_n 1, 1) := by decide +kernel
theorem d_LW_law_233 : decode code 233 = .ok (.invokevirtual 32, 3) := by decide +kernel
theorem d_LW_law_236 : decode code 236 = .ok (.aload_n 2, 1) := by decide +kernel
theorem d_LW_law_237 : decode code 237 = .ok (.invokevirtual 35, 3) := by decide +kernel
theorem d_LW_law_240 : decode code 240 = .ok (.goto 469, 3) := by decide +kernel
theorem d_LW_law_243 : decode code 243 = .ok (.aload_n 1, 1) := by decide +kernel
theorem d_LW_law_244 : decode code 244 = .ok (.invokevirtual 36, 3) := by decide +kernel
theorem d_LW_law_247 : decode code 247 = .ok (.aload_n 2, 1) := by decide +kernel
theorem d_LW_law_248 : decode code 248 = .ok (.invokevirtual 39, 3) := by decide +kernel
theorem d_LW_law_251 : decode code 251 = .ok (.if_icmp .eq 458, 3) := by decide +kernel
theorem d_LW_law_254 : decode code 254 = .ok (.iconst 0, 1) := by decide +kernel
theorem d_LW_law_255 : decode code 255 = .ok (.ireturn, 1) := by decide +kernel
theorem d_LW_law_256 : decode code 256 = .ok (.aload_n 1, 1) := by decide +kernel
theorem d_LW_law_257 : decode code 257 = .ok (.aload_n 0, 1) := by decide +kernel
theorem d_LW_law_258 : decode code 258 = .ok (.iload_n 3, 1) := by decide +kernel
theorem d_LW_law_259 : decode code 259 = .ok (.iconst 1, 1) := by decide +kernel
theorem d_LW_law_260 : decode code 260 = .ok (.iadd, 1) := by decide +kernel
theorem d_LW_law_261 : decode code 261 = .ok (.iaload, 1) := by decide +kernel
theorem d_LW_law_262 : decode code 262 = .ok (.aload_n 0, 1) := by decide +kernel
theorem d_LW_law_263 : decode code 263 = .ok (.iload_n 3, 1) := by decide +kernel
theorem d_LW_law_264 : decode code 264 = .ok (.iconst 2, 1) := by decide +kernel
theorem d_LW_law_265 : decode code 265 = .ok (.iadd, 1) := by decide +kernel
theorem d_LW_law_266 : decode code 266 = .ok (.iaload, 1) := by decide +kernel
theorem d_LW_law_267 : decode code 267 = .ok (.invokevirtual 40, 3) := by decide +kernel
theorem d_LW_law_270 : decode code 270 = .ok (.aload_n 2, 1) := by decide +kernel
theorem d_LW_law_271 : decode code 271 = .ok (.aload_n 0, 1) := by decide +kernel
theorem d_LW_law_272 : decode code 272 = .ok (.iload_n 3, 1) := by decide +kernel
theorem d_LW_law_273 : decode code 273 = .ok (.iconst 1, 1) := by decide +kernel
theorem d_LW_law_274 : decode code 274 = .ok (.iadd, 1) := by decide +kernel
theorem d_LW_law_275 : decode code 275 = .ok (.iaload, 1) := by decide +kernel
theorem d_LW_law_276 : decode code 276 = .ok (.aload_n 0, 1) := by decide +kernel
theorem d_LW_law_277 : decode code 277 = .ok (.iload_n 3, 1) := by decide +kernel
theorem d_LW_law_278 : decode code 278 = .ok (.iconst 2, 1) := by decide +kernel
theorem d_LW_law_279 : decode code 279 = .ok (.iadd, 1) := by decide +kernel
theorem d_LW_law_280 : decode code 280 = .ok (.iaload, 1) := by decide +kernel
theorem d_LW_law_281 : decode code 281 = .ok (.invokevirtual 43, 3) := by decide +kernel
theorem d_LW_law_284 : decode code 284 = .ok (.if_icmp .eq 425, 3) := by decide +kernel
theorem d_LW_law_287 : decode code 287 = .ok (.iconst 0, 1) := by decide +kernel
