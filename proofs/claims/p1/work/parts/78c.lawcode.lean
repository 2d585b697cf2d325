/-! The law's own code. -/
theorem d_law_231 : decode code 231 = .ok (.iaload, 1) := by decide +kernel
theorem d_law_232 : decode code 232 = .ok (.invokevirtual 72, 3) := by decide +kernel
theorem d_law_235 : decode code 235 = .ok (.istore 6, 2) := by decide +kernel
theorem d_law_237 : decode code 237 = .ok (.aload_n 2, 1) := by decide +kernel
theorem d_law_238 : decode code 238 = .ok (.invokevirtual 66, 3) := by decide +kernel
theorem d_law_241 : decode code 241 = .ok (.iload 5, 2) := by decide +kernel
theorem d_law_243 : decode code 243 = .ok (.if_icmp .eq 5, 3) := by decide +kernel
theorem d_law_246 : decode code 246 = .ok (.iconst 0, 1) := by decide +kernel
theorem d_law_247 : decode code 247 = .ok (.ireturn, 1) := by decide +kernel
theorem d_law_248 : decode code 248 = .ok (.iload 5, 2) := by decide +kernel
theorem d_law_250 : decode code 250 = .ok (.ifCond .ne 15, 3) := by decide +kernel
theorem d_law_253 : decode code 253 = .ok (.aload_n 3, 1) := by decide +kernel
theorem d_law_254 : decode code 254 = .ok (.iconst 0, 1) := by decide +kernel
theorem d_law_255 : decode code 255 = .ok (.laload, 1) := by decide +kernel
theorem d_law_256 : decode code 256 = .ok (.iload 6, 2) := by decide +kernel
theorem d_law_258 : decode code 258 = .ok (.i2l, 1) := by decide +kernel
theorem d_law_259 : decode code 259 = .ok (.lcmp, 1) := by decide +kernel
theorem d_law_260 : decode code 260 = .ok (.ifCond .eq 5, 3) := by decide +kernel
theorem d_law_263 : decode code 263 = .ok (.iconst 0, 1) := by decide +kernel
theorem d_law_264 : decode code 264 = .ok (.ireturn, 1) := by decide +kernel
theorem d_law_265 : decode code 265 = .ok (.goto 424, 3) := by decide +kernel
theorem d_law_268 : decode code 268 = .ok (.aload_n 1, 1) := by decide +kernel
theorem d_law_269 : decode code 269 = .ok (.aload_n 0, 1) := by decide +kernel
theorem d_law_270 : decode code 270 = .ok (.iload 4, 2) := by decide +kernel
theorem d_law_272 : decode code 272 = .ok (.iconst 1, 1) := by decide +kernel
theorem d_law_273 : decode code 273 = .ok (.iadd, 1) := by decide +kernel
theorem d_law_274 : decode code 274 = .ok (.iaload, 1) := by decide +kernel
theorem d_law_275 : decode code 275 = .ok (.invokestatic 73, 3) := by decide +kernel
theorem d_law_278 : decode code 278 = .ok (.istore 5, 2) := by decide +kernel
theorem d_law_280 : decode code 280 = .ok (.aload_n 2, 1) := by decide +kernel
theorem d_law_281 : decode code 281 = .ok (.aload_n 0, 1) := by decide +kernel
theorem d_law_282 : decode code 282 = .ok (.iload 4, 2) := by decide +kernel
theorem d_law_284 : decode code 284 = .ok (.iconst 1, 1) := by decide +kernel
theorem d_law_285 : decode code 285 = .ok (.iadd, 1) := by decide +kernel
theorem d_law_286 : decode code 286 = .ok (.iaload, 1) := by decide +kernel
theorem d_law_287 : decode code 287 = .ok (.invokevirtual 76, 3) := by decide +kernel
theorem d_law_290 : decode code 290 = .ok (.aload_n 2, 1) := by decide +kernel
theorem d_law_291 : decode code 291 = .ok (.invokevirtual 66, 3) := by decide +kernel
theorem d_law_294 : decode code 294 = .ok (.iload 5, 2) := by decide +kernel
theorem d_law_296 : decode code 296 = .ok (.if_icmp .eq 5, 3) := by decide +kernel
theorem d_law_299 : decode code 299 = .ok (.iconst 0, 1) := by decide +kernel
theorem d_law_300 : decode code 300 = .ok (.ireturn, 1) := by decide +kernel
theorem d_law_301 : decode code 301 = .ok (.goto 388, 3) := by decide +kernel
theorem d_law_304 : decode code 304 = .ok (.aload_n 1, 1) := by decide +kernel
theorem d_law_305 : decode code 305 = .ok (.aload_n 0, 1) := by decide +kernel
theorem d_law_306 : decode code 306 = .ok (.iload 4, 2) := by decide +kernel
theorem d_law_308 : decode code 308 = .ok (.iconst 1, 1) := by decide +kernel
theorem d_law_309 : decode code 309 = .ok (.iadd, 1) := by decide +kernel
theorem d_law_310 : decode code 310 = .ok (.iaload, 1) := by decide +kernel
theorem d_law_311 : decode code 311 = .ok (.aload_n 3, 1) := by decide +kernel
theorem d_law_312 : decode code 312 = .ok (.invokestatic 77, 3) := by decide +kernel
theorem d_law_315 : decode code 315 = .ok (.istore 5, 2) := by decide +kernel
theorem d_law_317 : decode code 317 = .ok (.aload_n 2, 1) := by decide +kernel
theorem d_law_318 : decode code 318 = .ok (.aload_n 0, 1) := by decide +kernel
theorem d_law_319 : decode code 319 = .ok (.iload 4, 2) := by decide +kernel
theorem d_law_321 : decode code 321 = .ok (.iconst 1, 1) := by decide +kernel
theorem d_law_322 : decode code 322 = .ok (.iadd, 1) := by decide +kernel
theorem d_law_323 : decode code 323 = .ok (.iaload, 1) := by decide +kernel
theorem d_law_324 : decode code 324 = .ok (.invokevirtual 79, 3) := by decide +kernel
theorem d_law_327 : decode code 327 = .ok (.istore 6, 2) := by decide +kernel
