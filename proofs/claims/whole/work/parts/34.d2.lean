/-! decode rows -/
theorem d_MD_transform_208 : decode b_MD_transform 208 = .ok (.aload_n 0, 1) := by decide +kernel
theorem d_MD_transform_209 : decode b_MD_transform 209 = .ok (.getfield 37, 3) := by decide +kernel
theorem d_MD_transform_212 : decode b_MD_transform 212 = .ok (.iload_n 2, 1) := by decide +kernel
theorem d_MD_transform_213 : decode b_MD_transform 213 = .ok (.baload, 1) := by decide +kernel
theorem d_MD_transform_214 : decode b_MD_transform 214 = .ok (.ifCond .eq 8, 3) := by decide +kernel
theorem d_MD_transform_217 : decode b_MD_transform 217 = .ok (.iload 5, 2) := by decide +kernel
theorem d_MD_transform_219 : decode b_MD_transform 219 = .ok (.goto 8, 3) := by decide +kernel
theorem d_MD_transform_222 : decode b_MD_transform 222 = .ok (.iconst 3, 1) := by decide +kernel
theorem d_MD_transform_223 : decode b_MD_transform 223 = .ok (.iload_n 2, 1) := by decide +kernel
theorem d_MD_transform_224 : decode b_MD_transform 224 = .ok (.imul, 1) := by decide +kernel
theorem d_MD_transform_225 : decode b_MD_transform 225 = .ok (.iconst 1, 1) := by decide +kernel
theorem d_MD_transform_226 : decode b_MD_transform 226 = .ok (.iadd, 1) := by decide +kernel
theorem d_MD_transform_227 : decode b_MD_transform 227 = .ok (.invokevirtual 194, 3) := by decide +kernel
theorem d_MD_transform_230 : decode b_MD_transform 230 = .ok (.iinc 5 1, 3) := by decide +kernel
theorem d_MD_transform_233 : decode b_MD_transform 233 = .ok (.aload_n 0, 1) := by decide +kernel
theorem d_MD_transform_234 : decode b_MD_transform 234 = .ok (.getfield 50, 3) := by decide +kernel
theorem d_MD_transform_237 : decode b_MD_transform 237 = .ok (.iload 6, 2) := by decide +kernel
theorem d_MD_transform_239 : decode b_MD_transform 239 = .ok (.baload, 1) := by decide +kernel
theorem d_MD_transform_240 : decode b_MD_transform 240 = .ok (.ifCond .eq 10, 3) := by decide +kernel
theorem d_MD_transform_243 : decode b_MD_transform 243 = .ok (.aload_n 0, 1) := by decide +kernel
theorem d_MD_transform_244 : decode b_MD_transform 244 = .ok (.iload_n 1, 1) := by decide +kernel
theorem d_MD_transform_245 : decode b_MD_transform 245 = .ok (.iload 6, 2) := by decide +kernel
theorem d_MD_transform_247 : decode b_MD_transform 247 = .ok (.invokevirtual 204, 3) := by decide +kernel
theorem d_MD_transform_250 : decode b_MD_transform 250 = .ok (.iinc 6 1, 3) := by decide +kernel
theorem d_MD_transform_253 : decode b_MD_transform 253 = .ok (.goto (-97), 3) := by decide +kernel
theorem d_MD_transform_256 : decode b_MD_transform 256 = .ok (.iconst 0, 1) := by decide +kernel
theorem d_MD_transform_257 : decode b_MD_transform 257 = .ok (.istore 6, 2) := by decide +kernel
theorem d_MD_transform_259 : decode b_MD_transform 259 = .ok (.iload 6, 2) := by decide +kernel
theorem d_MD_transform_261 : decode b_MD_transform 261 = .ok (.iconst 4, 1) := by decide +kernel
theorem d_MD_transform_262 : decode b_MD_transform 262 = .ok (.aload_n 0, 1) := by decide +kernel
theorem d_MD_transform_263 : decode b_MD_transform 263 = .ok (.getfield 31, 3) := by decide +kernel
theorem d_MD_transform_266 : decode b_MD_transform 266 = .ok (.iload_n 1, 1) := by decide +kernel
theorem d_MD_transform_267 : decode b_MD_transform 267 = .ok (.iaload, 1) := by decide +kernel
theorem d_MD_transform_268 : decode b_MD_transform 268 = .ok (.imul, 1) := by decide +kernel
theorem d_MD_transform_269 : decode b_MD_transform 269 = .ok (.if_icmp .ge 61, 3) := by decide +kernel
theorem d_MD_transform_272 : decode b_MD_transform 272 = .ok (.aload_n 0, 1) := by decide +kernel
theorem d_MD_transform_273 : decode b_MD_transform 273 = .ok (.getfield 34, 3) := by decide +kernel
theorem d_MD_transform_276 : decode b_MD_transform 276 = .ok (.bipush 20, 2) := by decide +kernel
theorem d_MD_transform_278 : decode b_MD_transform 278 = .ok (.iload_n 1, 1) := by decide +kernel
theorem d_MD_transform_279 : decode b_MD_transform 279 = .ok (.imul, 1) := by decide +kernel
theorem d_MD_transform_280 : decode b_MD_transform 280 = .ok (.iload 6, 2) := by decide +kernel
theorem d_MD_transform_282 : decode b_MD_transform 282 = .ok (.iadd, 1) := by decide +kernel
theorem d_MD_transform_283 : decode b_MD_transform 283 = .ok (.iload 6, 2) := by decide +kernel
theorem d_MD_transform_285 : decode b_MD_transform 285 = .ok (.iconst 4, 1) := by decide +kernel
theorem d_MD_transform_286 : decode b_MD_transform 286 = .ok (.irem, 1) := by decide +kernel
theorem d_MD_transform_287 : decode b_MD_transform 287 = .ok (.iconst 3, 1) := by decide +kernel
theorem d_MD_transform_288 : decode b_MD_transform 288 = .ok (.if_icmp .ne 18, 3) := by decide +kernel
theorem d_MD_transform_291 : decode b_MD_transform 291 = .ok (.aload_n 0, 1) := by decide +kernel
theorem d_MD_transform_292 : decode b_MD_transform 292 = .ok (.getfield 34, 3) := by decide +kernel
theorem d_MD_transform_295 : decode b_MD_transform 295 = .ok (.bipush 20, 2) := by decide +kernel
theorem d_MD_transform_297 : decode b_MD_transform 297 = .ok (.iload_n 1, 1) := by decide +kernel
theorem d_MD_transform_298 : decode b_MD_transform 298 = .ok (.imul, 1) := by decide +kernel
theorem d_MD_transform_299 : decode b_MD_transform 299 = .ok (.iload 6, 2) := by decide +kernel
theorem d_MD_transform_301 : decode b_MD_transform 301 = .ok (.iadd, 1) := by decide +kernel
theorem d_MD_transform_302 : decode b_MD_transform 302 = .ok (.iaload, 1) := by decide +kernel
theorem d_MD_transform_303 : decode b_MD_transform 303 = .ok (.goto 20, 3) := by decide +kernel
theorem d_MD_transform_306 : decode b_MD_transform 306 = .ok (.aload_n 0, 1) := by decide +kernel
theorem d_MD_transform_307 : decode b_MD_transform 307 = .ok (.getfield 66, 3) := by decide +kernel
theorem d_MD_transform_310 : decode b_MD_transform 310 = .ok (.aload_n 0, 1) := by decide +kernel
theorem d_MD_transform_311 : decode b_MD_transform 311 = .ok (.getfield 34, 3) := by decide +kernel
