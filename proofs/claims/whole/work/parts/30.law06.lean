theorem d_Lw_law_444 : decode code 444 = .ok (.aload_n 0, 1) := by decide +kernel
theorem d_Lw_law_445 : decode code 445 = .ok (.iload_n 3, 1) := by decide +kernel
theorem d_Lw_law_446 : decode code 446 = .ok (.iconst 2, 1) := by decide +kernel
theorem d_Lw_law_447 : decode code 447 = .ok (.iadd, 1) := by decide +kernel
theorem d_Lw_law_448 : decode code 448 = .ok (.iaload, 1) := by decide +kernel
theorem d_Lw_law_449 : decode code 449 = .ok (.invokevirtual 47, 3) := by decide +kernel
theorem d_Lw_law_452 : decode code 452 = .ok (.if_icmp .eq 228, 3) := by decide +kernel
theorem d_Lw_law_455 : decode code 455 = .ok (.iconst 0, 1) := by decide +kernel
theorem d_Lw_law_456 : decode code 456 = .ok (.ireturn, 1) := by decide +kernel
theorem d_Lw_law_457 : decode code 457 = .ok (.aload_n 1, 1) := by decide +kernel
theorem d_Lw_law_458 : decode code 458 = .ok (.aload_n 0, 1) := by decide +kernel
theorem d_Lw_law_459 : decode code 459 = .ok (.iload_n 3, 1) := by decide +kernel
theorem d_Lw_law_460 : decode code 460 = .ok (.iconst 1, 1) := by decide +kernel
theorem d_Lw_law_461 : decode code 461 = .ok (.iadd, 1) := by decide +kernel
theorem d_Lw_law_462 : decode code 462 = .ok (.iaload, 1) := by decide +kernel
theorem d_Lw_law_463 : decode code 463 = .ok (.invokevirtual 48, 3) := by decide +kernel
theorem d_Lw_law_466 : decode code 466 = .ok (.aload_n 2, 1) := by decide +kernel
theorem d_Lw_law_467 : decode code 467 = .ok (.aload_n 0, 1) := by decide +kernel
theorem d_Lw_law_468 : decode code 468 = .ok (.iload_n 3, 1) := by decide +kernel
theorem d_Lw_law_469 : decode code 469 = .ok (.iconst 1, 1) := by decide +kernel
theorem d_Lw_law_470 : decode code 470 = .ok (.iadd, 1) := by decide +kernel
theorem d_Lw_law_471 : decode code 471 = .ok (.iaload, 1) := by decide +kernel
theorem d_Lw_law_472 : decode code 472 = .ok (.invokevirtual 52, 3) := by decide +kernel
theorem d_Lw_law_475 : decode code 475 = .ok (.if_icmp .eq 205, 3) := by decide +kernel
theorem d_Lw_law_478 : decode code 478 = .ok (.iconst 0, 1) := by decide +kernel
theorem d_Lw_law_479 : decode code 479 = .ok (.ireturn, 1) := by decide +kernel
theorem d_Lw_law_480 : decode code 480 = .ok (.aload_n 1, 1) := by decide +kernel
theorem d_Lw_law_481 : decode code 481 = .ok (.aload_n 0, 1) := by decide +kernel
theorem d_Lw_law_482 : decode code 482 = .ok (.iload_n 3, 1) := by decide +kernel
theorem d_Lw_law_483 : decode code 483 = .ok (.iconst 1, 1) := by decide +kernel
theorem d_Lw_law_484 : decode code 484 = .ok (.iadd, 1) := by decide +kernel
theorem d_Lw_law_485 : decode code 485 = .ok (.iaload, 1) := by decide +kernel
theorem d_Lw_law_486 : decode code 486 = .ok (.invokevirtual 53, 3) := by decide +kernel
theorem d_Lw_law_489 : decode code 489 = .ok (.aload_n 2, 1) := by decide +kernel
theorem d_Lw_law_490 : decode code 490 = .ok (.aload_n 0, 1) := by decide +kernel
theorem d_Lw_law_491 : decode code 491 = .ok (.iload_n 3, 1) := by decide +kernel
theorem d_Lw_law_492 : decode code 492 = .ok (.iconst 1, 1) := by decide +kernel
theorem d_Lw_law_493 : decode code 493 = .ok (.iadd, 1) := by decide +kernel
theorem d_Lw_law_494 : decode code 494 = .ok (.iaload, 1) := by decide +kernel
theorem d_Lw_law_495 : decode code 495 = .ok (.invokevirtual 56, 3) := by decide +kernel
theorem d_Lw_law_498 : decode code 498 = .ok (.if_icmp .eq 182, 3) := by decide +kernel
theorem d_Lw_law_501 : decode code 501 = .ok (.iconst 0, 1) := by decide +kernel
theorem d_Lw_law_502 : decode code 502 = .ok (.ireturn, 1) := by decide +kernel
theorem d_Lw_law_503 : decode code 503 = .ok (.aload_n 1, 1) := by decide +kernel
theorem d_Lw_law_504 : decode code 504 = .ok (.aload_n 0, 1) := by decide +kernel
theorem d_Lw_law_505 : decode code 505 = .ok (.iload_n 3, 1) := by decide +kernel
theorem d_Lw_law_506 : decode code 506 = .ok (.iconst 1, 1) := by decide +kernel
theorem d_Lw_law_507 : decode code 507 = .ok (.iadd, 1) := by decide +kernel
theorem d_Lw_law_508 : decode code 508 = .ok (.iaload, 1) := by decide +kernel
theorem d_Lw_law_509 : decode code 509 = .ok (.invokevirtual 57, 3) := by decide +kernel
