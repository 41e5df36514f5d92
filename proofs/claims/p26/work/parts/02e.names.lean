theorem dL_would_258 : decode cL_would 258 = .ok (.imul, 1) := by decide +kernel
theorem dL_would_259 : decode cL_would 259 = .ok (.iload 14, 2) := by decide +kernel
theorem dL_would_261 : decode cL_would 261 = .ok (.iastore, 1) := by decide +kernel
theorem dL_would_262 : decode cL_would 262 = .ok (.aload 5, 2) := by decide +kernel
theorem dL_would_264 : decode cL_would 264 = .ok (.bipush 11, 2) := by decide +kernel
theorem dL_would_266 : decode cL_would 266 = .ok (.dup2, 1) := by decide +kernel
theorem dL_would_267 : decode cL_would 267 = .ok (.iaload, 1) := by decide +kernel
theorem dL_would_268 : decode cL_would 268 = .ok (.iconst 1, 1) := by decide +kernel
theorem dL_would_269 : decode cL_would 269 = .ok (.iadd, 1) := by decide +kernel
theorem dL_would_270 : decode cL_would 270 = .ok (.iastore, 1) := by decide +kernel
theorem dL_would_271 : decode cL_would 271 = .ok (.iconst 0, 1) := by decide +kernel
theorem dL_would_272 : decode cL_would 272 = .ok (.istore 15, 2) := by decide +kernel
theorem dL_would_274 : decode cL_would 274 = .ok (.iconst 0, 1) := by decide +kernel
theorem dL_would_275 : decode cL_would 275 = .ok (.istore 16, 2) := by decide +kernel
theorem dL_would_277 : decode cL_would 277 = .ok (.iload 16, 2) := by decide +kernel
theorem dL_would_279 : decode cL_would 279 = .ok (.iload 8, 2) := by decide +kernel
theorem dL_would_281 : decode cL_would 281 = .ok (.if_icmp .ge 23, 3) := by decide +kernel
theorem dL_would_284 : decode cL_would 284 = .ok (.iload 15, 2) := by decide +kernel
theorem dL_would_286 : decode cL_would 286 = .ok (.aload 5, 2) := by decide +kernel
theorem dL_would_288 : decode cL_would 288 = .ok (.aload 6, 2) := by decide +kernel
theorem dL_would_290 : decode cL_would 290 = .ok (.aload 7, 2) := by decide +kernel
theorem dL_would_292 : decode cL_would 292 = .ok (.invokestatic 53, 3) := by decide +kernel
theorem dL_would_295 : decode cL_would 295 = .ok (.iadd, 1) := by decide +kernel
theorem dL_would_296 : decode cL_would 296 = .ok (.istore 15, 2) := by decide +kernel
theorem dL_would_298 : decode cL_would 298 = .ok (.iinc 16 1, 3) := by decide +kernel
theorem dL_would_301 : decode cL_would 301 = .ok (.goto (-24), 3) := by decide +kernel
theorem dL_would_304 : decode cL_would 304 = .ok (.iload 15, 2) := by decide +kernel
theorem dL_would_306 : decode cL_would 306 = .ok (.iload 13, 2) := by decide +kernel
theorem dL_would_308 : decode cL_would 308 = .ok (.if_icmp .ge 6, 3) := by decide +kernel
theorem dL_would_311 : decode cL_would 311 = .ok (.goto 11, 3) := by decide +kernel
theorem dL_would_314 : decode cL_would 314 = .ok (.iload 15, 2) := by decide +kernel
theorem dL_would_316 : decode cL_would 316 = .ok (.istore 13, 2) := by decide +kernel
theorem dL_would_318 : decode cL_would 318 = .ok (.iload 14, 2) := by decide +kernel
theorem dL_would_320 : decode cL_would 320 = .ok (.istore 12, 2) := by decide +kernel
theorem dL_would_322 : decode cL_would 322 = .ok (.iinc 14 (-1), 3) := by decide +kernel
theorem dL_would_325 : decode cL_would 325 = .ok (.goto (-92), 3) := by decide +kernel
theorem dL_would_328 : decode cL_would 328 = .ok (.aload_n 0, 1) := by decide +kernel
theorem dL_would_329 : decode cL_would 329 = .ok (.iload 8, 2) := by decide +kernel
theorem dL_would_331 : decode cL_would 331 = .ok (.iconst 0, 1) := by decide +kernel
theorem dL_would_332 : decode cL_would 332 = .ok (.invokevirtual 63, 3) := by decide +kernel
theorem dL_would_335 : decode cL_would 335 = .ok (.iload 12, 2) := by decide +kernel
theorem dL_would_337 : decode cL_would 337 = .ok (.if_icmp .ne 19, 3) := by decide +kernel
theorem dL_would_340 : decode cL_would 340 = .ok (.aload_n 0, 1) := by decide +kernel
theorem dL_would_341 : decode cL_would 341 = .ok (.iload 8, 2) := by decide +kernel
theorem dL_would_343 : decode cL_would 343 = .ok (.iconst 1, 1) := by decide +kernel
theorem dL_would_344 : decode cL_would 344 = .ok (.invokevirtual 63, 3) := by decide +kernel
theorem dL_would_347 : decode cL_would 347 = .ok (.iload 13, 2) := by decide +kernel
theorem dL_would_349 : decode cL_would 349 = .ok (.if_icmp .ne 7, 3) := by decide +kernel
theorem dL_would_352 : decode cL_would 352 = .ok (.iconst 1, 1) := by decide +kernel
theorem dL_would_353 : decode cL_would 353 = .ok (.goto 4, 3) := by decide +kernel
theorem dL_would_356 : decode cL_would 356 = .ok (.iconst 0, 1) := by decide +kernel
theorem dL_would_357 : decode cL_would 357 = .ok (.ireturn, 1) := by decide +kernel
abbrev vwCl : List vw_C := [(RX0, TX0, 8), (RX1, TX1, 18), (RX2, TX2, 8)]

