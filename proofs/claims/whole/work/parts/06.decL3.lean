theorem d_L_law_252 : decode c_L_law 252 = .ok (.iload 5, 2) := by decide +kernel
theorem d_L_law_254 : decode c_L_law 254 = .ok (.ifCond .ne 15, 3) := by decide +kernel
theorem d_L_law_257 : decode c_L_law 257 = .ok (.aload_n 3, 1) := by decide +kernel
theorem d_L_law_258 : decode c_L_law 258 = .ok (.iconst 0, 1) := by decide +kernel
theorem d_L_law_259 : decode c_L_law 259 = .ok (.laload, 1) := by decide +kernel
theorem d_L_law_260 : decode c_L_law 260 = .ok (.iload 6, 2) := by decide +kernel
theorem d_L_law_262 : decode c_L_law 262 = .ok (.i2l, 1) := by decide +kernel
theorem d_L_law_263 : decode c_L_law 263 = .ok (.lcmp, 1) := by decide +kernel
theorem d_L_law_264 : decode c_L_law 264 = .ok (.ifCond .eq 5, 3) := by decide +kernel
theorem d_L_law_267 : decode c_L_law 267 = .ok (.iconst 0, 1) := by decide +kernel
theorem d_L_law_268 : decode c_L_law 268 = .ok (.ireturn, 1) := by decide +kernel
theorem d_L_law_269 : decode c_L_law 269 = .ok (.goto 368, 3) := by decide +kernel
theorem d_L_law_272 : decode c_L_law 272 = .ok (.aload_n 1, 1) := by decide +kernel
theorem d_L_law_273 : decode c_L_law 273 = .ok (.aload_n 0, 1) := by decide +kernel
theorem d_L_law_274 : decode c_L_law 274 = .ok (.iload 4, 2) := by decide +kernel
theorem d_L_law_276 : decode c_L_law 276 = .ok (.iconst 1, 1) := by decide +kernel
theorem d_L_law_277 : decode c_L_law 277 = .ok (.iadd, 1) := by decide +kernel
theorem d_L_law_278 : decode c_L_law 278 = .ok (.iaload, 1) := by decide +kernel
theorem d_L_law_279 : decode c_L_law 279 = .ok (.aload_n 3, 1) := by decide +kernel
theorem d_L_law_280 : decode c_L_law 280 = .ok (.invokestatic 66, 3) := by decide +kernel
theorem d_L_law_283 : decode c_L_law 283 = .ok (.istore 5, 2) := by decide +kernel
theorem d_L_law_285 : decode c_L_law 285 = .ok (.aload_n 2, 1) := by decide +kernel
theorem d_L_law_286 : decode c_L_law 286 = .ok (.aload_n 0, 1) := by decide +kernel
theorem d_L_law_287 : decode c_L_law 287 = .ok (.iload 4, 2) := by decide +kernel
theorem d_L_law_289 : decode c_L_law 289 = .ok (.iconst 1, 1) := by decide +kernel
theorem d_L_law_290 : decode c_L_law 290 = .ok (.iadd, 1) := by decide +kernel
theorem d_L_law_291 : decode c_L_law 291 = .ok (.iaload, 1) := by decide +kernel
theorem d_L_law_292 : decode c_L_law 292 = .ok (.invokevirtual 68, 3) := by decide +kernel
theorem d_L_law_295 : decode c_L_law 295 = .ok (.istore 6, 2) := by decide +kernel
theorem d_L_law_297 : decode c_L_law 297 = .ok (.aload_n 2, 1) := by decide +kernel
theorem d_L_law_298 : decode c_L_law 298 = .ok (.invokevirtual 55, 3) := by decide +kernel
theorem d_L_law_301 : decode c_L_law 301 = .ok (.iload 5, 2) := by decide +kernel
theorem d_L_law_303 : decode c_L_law 303 = .ok (.if_icmp .eq 5, 3) := by decide +kernel
theorem d_L_law_306 : decode c_L_law 306 = .ok (.iconst 0, 1) := by decide +kernel
theorem d_L_law_307 : decode c_L_law 307 = .ok (.ireturn, 1) := by decide +kernel
theorem d_L_law_308 : decode c_L_law 308 = .ok (.iload 5, 2) := by decide +kernel
theorem d_L_law_310 : decode c_L_law 310 = .ok (.ifCond .ne 15, 3) := by decide +kernel
theorem d_L_law_313 : decode c_L_law 313 = .ok (.aload_n 3, 1) := by decide +kernel
theorem d_L_law_314 : decode c_L_law 314 = .ok (.iconst 0, 1) := by decide +kernel
theorem d_L_law_315 : decode c_L_law 315 = .ok (.laload, 1) := by decide +kernel
theorem d_L_law_316 : decode c_L_law 316 = .ok (.iload 6, 2) := by decide +kernel
theorem d_L_law_318 : decode c_L_law 318 = .ok (.i2l, 1) := by decide +kernel
theorem d_L_law_319 : decode c_L_law 319 = .ok (.lcmp, 1) := by decide +kernel
theorem d_L_law_320 : decode c_L_law 320 = .ok (.ifCond .eq 5, 3) := by decide +kernel
theorem d_L_law_323 : decode c_L_law 323 = .ok (.iconst 0, 1) := by decide +kernel
theorem d_L_law_324 : decode c_L_law 324 = .ok (.ireturn, 1) := by decide +kernel
theorem d_L_law_325 : decode c_L_law 325 = .ok (.goto 312, 3) := by decide +kernel
theorem d_L_law_328 : decode c_L_law 328 = .ok (.aload_n 1, 1) := by decide +kernel
theorem d_L_law_329 : decode c_L_law 329 = .ok (.aload_n 0, 1) := by decide +kernel
theorem d_L_law_330 : decode c_L_law 330 = .ok (.iload 4, 2) := by decide +kernel
theorem d_L_law_332 : decode c_L_law 332 = .ok (.iconst 1, 1) := by decide +kernel
theorem d_L_law_333 : decode c_L_law 333 = .ok (.iadd, 1) := by decide +kernel
theorem d_L_law_334 : decode c_L_law 334 = .ok (.iaload, 1) := by decide +kernel
theorem d_L_law_335 : decode c_L_law 335 = .ok (.aload_n 3, 1) := by decide +kernel
theorem d_L_law_336 : decode c_L_law 336 = .ok (.invokestatic 69, 3) := by decide +kernel
theorem d_L_law_339 : decode c_L_law 339 = .ok (.istore 5, 2) := by decide +kernel
theorem d_L_law_341 : decode c_L_law 341 = .ok (.aload_n 2, 1) := by decide +kernel
theorem d_L_law_342 : decode c_L_law 342 = .ok (.aload_n 0, 1) := by decide +kernel
theorem d_L_law_343 : decode c_L_law 343 = .ok (.iload 4, 2) := by decide +kernel
theorem d_L_law_345 : decode c_L_law 345 = .ok (.iconst 1, 1) := by decide +kernel
theorem d_L_law_346 : decode c_L_law 346 = .ok (.iadd, 1) := by decide +kernel
theorem d_L_law_347 : decode c_L_law 347 = .ok (.iaload, 1) := by decide +kernel
theorem d_L_law_348 : decode c_L_law 348 = .ok (.invokevirtual 71, 3) := by decide +kernel
theorem d_L_law_351 : decode c_L_law 351 = .ok (.istore 6, 2) := by decide +kernel
