theorem d_Lw_law_326 : decode code 326 = .ok (.iload_n 3, 1) := by decide +kernel
theorem d_Lw_law_327 : decode code 327 = .ok (.iconst 3, 1) := by decide +kernel
theorem d_Lw_law_328 : decode code 328 = .ok (.iadd, 1) := by decide +kernel
theorem d_Lw_law_329 : decode code 329 = .ok (.iaload, 1) := by decide +kernel
theorem d_Lw_law_330 : decode code 330 = .ok (.aload_n 0, 1) := by decide +kernel
theorem d_Lw_law_331 : decode code 331 = .ok (.iload_n 3, 1) := by decide +kernel
theorem d_Lw_law_332 : decode code 332 = .ok (.iconst 4, 1) := by decide +kernel
theorem d_Lw_law_333 : decode code 333 = .ok (.iadd, 1) := by decide +kernel
theorem d_Lw_law_334 : decode code 334 = .ok (.iaload, 1) := by decide +kernel
theorem d_Lw_law_335 : decode code 335 = .ok (.aload_n 0, 1) := by decide +kernel
theorem d_Lw_law_336 : decode code 336 = .ok (.iload_n 3, 1) := by decide +kernel
theorem d_Lw_law_337 : decode code 337 = .ok (.iconst 5, 1) := by decide +kernel
theorem d_Lw_law_338 : decode code 338 = .ok (.iadd, 1) := by decide +kernel
theorem d_Lw_law_339 : decode code 339 = .ok (.iaload, 1) := by decide +kernel
theorem d_Lw_law_340 : decode code 340 = .ok (.invokevirtual 32, 3) := by decide +kernel
theorem d_Lw_law_343 : decode code 343 = .ok (.if_icmp .eq 337, 3) := by decide +kernel
theorem d_Lw_law_346 : decode code 346 = .ok (.iconst 0, 1) := by decide +kernel
theorem d_Lw_law_347 : decode code 347 = .ok (.ireturn, 1) := by decide +kernel
theorem d_Lw_law_348 : decode code 348 = .ok (.aload_n 1, 1) := by decide +kernel
theorem d_Lw_law_349 : decode code 349 = .ok (.aload_n 0, 1) := by decide +kernel
theorem d_Lw_law_350 : decode code 350 = .ok (.iload_n 3, 1) := by decide +kernel
theorem d_Lw_law_351 : decode code 351 = .ok (.iconst 1, 1) := by decide +kernel
theorem d_Lw_law_352 : decode code 352 = .ok (.iadd, 1) := by decide +kernel
theorem d_Lw_law_353 : decode code 353 = .ok (.iaload, 1) := by decide +kernel
theorem d_Lw_law_354 : decode code 354 = .ok (.aload_n 0, 1) := by decide +kernel
theorem d_Lw_law_355 : decode code 355 = .ok (.iload_n 3, 1) := by decide +kernel
theorem d_Lw_law_356 : decode code 356 = .ok (.iconst 2, 1) := by decide +kernel
theorem d_Lw_law_357 : decode code 357 = .ok (.iadd, 1) := by decide +kernel
theorem d_Lw_law_358 : decode code 358 = .ok (.iaload, 1) := by decide +kernel
theorem d_Lw_law_359 : decode code 359 = .ok (.aload_n 0, 1) := by decide +kernel
theorem d_Lw_law_360 : decode code 360 = .ok (.iload_n 3, 1) := by decide +kernel
theorem d_Lw_law_361 : decode code 361 = .ok (.iconst 3, 1) := by decide +kernel
theorem d_Lw_law_362 : decode code 362 = .ok (.iadd, 1) := by decide +kernel
theorem d_Lw_law_363 : decode code 363 = .ok (.iaload, 1) := by decide +kernel
theorem d_Lw_law_364 : decode code 364 = .ok (.aload_n 0, 1) := by decide +kernel
theorem d_Lw_law_365 : decode code 365 = .ok (.iload_n 3, 1) := by decide +kernel
theorem d_Lw_law_366 : decode code 366 = .ok (.iconst 4, 1) := by decide +kernel
theorem d_Lw_law_367 : decode code 367 = .ok (.iadd, 1) := by decide +kernel
theorem d_Lw_law_368 : decode code 368 = .ok (.iaload, 1) := by decide +kernel
theorem d_Lw_law_369 : decode code 369 = .ok (.invokevirtual 33, 3) := by decide +kernel
theorem d_Lw_law_372 : decode code 372 = .ok (.aload_n 2, 1) := by decide +kernel
theorem d_Lw_law_373 : decode code 373 = .ok (.aload_n 0, 1) := by decide +kernel
theorem d_Lw_law_374 : decode code 374 = .ok (.iload_n 3, 1) := by decide +kernel
theorem d_Lw_law_375 : decode code 375 = .ok (.iconst 1, 1) := by decide +kernel
theorem d_Lw_law_376 : decode code 376 = .ok (.iadd, 1) := by decide +kernel
theorem d_Lw_law_377 : decode code 377 = .ok (.iaload, 1) := by decide +kernel
theorem d_Lw_law_378 : decode code 378 = .ok (.aload_n 0, 1) := by decide +kernel
theorem d_Lw_law_379 : decode code 379 = .ok (.iload_n 3, 1) := by decide +kernel
theorem d_Lw_law_380 : decode code 380 = .ok (.iconst 2, 1) := by decide +kernel
theorem d_Lw_law_381 : decode code 381 = .ok (.iadd, 1) := by decide +kernel
