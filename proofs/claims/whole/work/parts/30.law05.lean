theorem d_Lw_law_382 : decode code 382 = .ok (.iaload, 1) := by decide +kernel
theorem d_Lw_law_383 : decode code 383 = .ok (.aload_n 0, 1) := by decide +kernel
theorem d_Lw_law_384 : decode code 384 = .ok (.iload_n 3, 1) := by decide +kernel
theorem d_Lw_law_385 : decode code 385 = .ok (.iconst 3, 1) := by decide +kernel
theorem d_Lw_law_386 : decode code 386 = .ok (.iadd, 1) := by decide +kernel
theorem d_Lw_law_387 : decode code 387 = .ok (.iaload, 1) := by decide +kernel
theorem d_Lw_law_388 : decode code 388 = .ok (.aload_n 0, 1) := by decide +kernel
theorem d_Lw_law_389 : decode code 389 = .ok (.iload_n 3, 1) := by decide +kernel
theorem d_Lw_law_390 : decode code 390 = .ok (.iconst 4, 1) := by decide +kernel
theorem d_Lw_law_391 : decode code 391 = .ok (.iadd, 1) := by decide +kernel
theorem d_Lw_law_392 : decode code 392 = .ok (.iaload, 1) := by decide +kernel
theorem d_Lw_law_393 : decode code 393 = .ok (.invokevirtual 37, 3) := by decide +kernel
theorem d_Lw_law_396 : decode code 396 = .ok (.if_icmp .eq 284, 3) := by decide +kernel
theorem d_Lw_law_399 : decode code 399 = .ok (.iconst 0, 1) := by decide +kernel
theorem d_Lw_law_400 : decode code 400 = .ok (.ireturn, 1) := by decide +kernel
theorem d_Lw_law_401 : decode code 401 = .ok (.aload_n 1, 1) := by decide +kernel
theorem d_Lw_law_402 : decode code 402 = .ok (.aload_n 0, 1) := by decide +kernel
theorem d_Lw_law_403 : decode code 403 = .ok (.iload_n 3, 1) := by decide +kernel
theorem d_Lw_law_404 : decode code 404 = .ok (.iconst 1, 1) := by decide +kernel
theorem d_Lw_law_405 : decode code 405 = .ok (.iadd, 1) := by decide +kernel
theorem d_Lw_law_406 : decode code 406 = .ok (.iaload, 1) := by decide +kernel
theorem d_Lw_law_407 : decode code 407 = .ok (.invokevirtual 38, 3) := by decide +kernel
theorem d_Lw_law_410 : decode code 410 = .ok (.aload_n 2, 1) := by decide +kernel
theorem d_Lw_law_411 : decode code 411 = .ok (.aload_n 0, 1) := by decide +kernel
theorem d_Lw_law_412 : decode code 412 = .ok (.iload_n 3, 1) := by decide +kernel
theorem d_Lw_law_413 : decode code 413 = .ok (.iconst 1, 1) := by decide +kernel
theorem d_Lw_law_414 : decode code 414 = .ok (.iadd, 1) := by decide +kernel
theorem d_Lw_law_415 : decode code 415 = .ok (.iaload, 1) := by decide +kernel
theorem d_Lw_law_416 : decode code 416 = .ok (.invokevirtual 42, 3) := by decide +kernel
theorem d_Lw_law_419 : decode code 419 = .ok (.if_icmp .eq 261, 3) := by decide +kernel
theorem d_Lw_law_422 : decode code 422 = .ok (.iconst 0, 1) := by decide +kernel
theorem d_Lw_law_423 : decode code 423 = .ok (.ireturn, 1) := by decide +kernel
theorem d_Lw_law_424 : decode code 424 = .ok (.aload_n 1, 1) := by decide +kernel
theorem d_Lw_law_425 : decode code 425 = .ok (.aload_n 0, 1) := by decide +kernel
theorem d_Lw_law_426 : decode code 426 = .ok (.iload_n 3, 1) := by decide +kernel
theorem d_Lw_law_427 : decode code 427 = .ok (.iconst 1, 1) := by decide +kernel
theorem d_Lw_law_428 : decode code 428 = .ok (.iadd, 1) := by decide +kernel
theorem d_Lw_law_429 : decode code 429 = .ok (.iaload, 1) := by decide +kernel
theorem d_Lw_law_430 : decode code 430 = .ok (.aload_n 0, 1) := by decide +kernel
theorem d_Lw_law_431 : decode code 431 = .ok (.iload_n 3, 1) := by decide +kernel
theorem d_Lw_law_432 : decode code 432 = .ok (.iconst 2, 1) := by decide +kernel
theorem d_Lw_law_433 : decode code 433 = .ok (.iadd, 1) := by decide +kernel
theorem d_Lw_law_434 : decode code 434 = .ok (.iaload, 1) := by decide +kernel
theorem d_Lw_law_435 : decode code 435 = .ok (.invokevirtual 43, 3) := by decide +kernel
theorem d_Lw_law_438 : decode code 438 = .ok (.aload_n 2, 1) := by decide +kernel
theorem d_Lw_law_439 : decode code 439 = .ok (.aload_n 0, 1) := by decide +kernel
theorem d_Lw_law_440 : decode code 440 = .ok (.iload_n 3, 1) := by decide +kernel
theorem d_Lw_law_441 : decode code 441 = .ok (.iconst 1, 1) := by decide +kernel
theorem d_Lw_law_442 : decode code 442 = .ok (.iadd, 1) := by decide +kernel
theorem d_Lw_law_443 : decode code 443 = .ok (.iaload, 1) := by decide +kernel
