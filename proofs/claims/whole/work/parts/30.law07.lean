theorem d_Lw_law_512 : decode code 512 = .ok (.aload_n 2, 1) := by decide +kernel
theorem d_Lw_law_513 : decode code 513 = .ok (.aload_n 0, 1) := by decide +kernel
theorem d_Lw_law_514 : decode code 514 = .ok (.iload_n 3, 1) := by decide +kernel
theorem d_Lw_law_515 : decode code 515 = .ok (.iconst 1, 1) := by decide +kernel
theorem d_Lw_law_516 : decode code 516 = .ok (.iadd, 1) := by decide +kernel
theorem d_Lw_law_517 : decode code 517 = .ok (.iaload, 1) := by decide +kernel
theorem d_Lw_law_518 : decode code 518 = .ok (.invokevirtual 60, 3) := by decide +kernel
theorem d_Lw_law_521 : decode code 521 = .ok (.if_icmp .eq 159, 3) := by decide +kernel
theorem d_Lw_law_524 : decode code 524 = .ok (.iconst 0, 1) := by decide +kernel
theorem d_Lw_law_525 : decode code 525 = .ok (.ireturn, 1) := by decide +kernel
theorem d_Lw_law_526 : decode code 526 = .ok (.aload_n 1, 1) := by decide +kernel
theorem d_Lw_law_527 : decode code 527 = .ok (.aload_n 0, 1) := by decide +kernel
theorem d_Lw_law_528 : decode code 528 = .ok (.iload_n 3, 1) := by decide +kernel
theorem d_Lw_law_529 : decode code 529 = .ok (.iconst 1, 1) := by decide +kernel
theorem d_Lw_law_530 : decode code 530 = .ok (.iadd, 1) := by decide +kernel
theorem d_Lw_law_531 : decode code 531 = .ok (.iaload, 1) := by decide +kernel
theorem d_Lw_law_532 : decode code 532 = .ok (.invokevirtual 61, 3) := by decide +kernel
theorem d_Lw_law_535 : decode code 535 = .ok (.aload_n 2, 1) := by decide +kernel
theorem d_Lw_law_536 : decode code 536 = .ok (.aload_n 0, 1) := by decide +kernel
theorem d_Lw_law_537 : decode code 537 = .ok (.iload_n 3, 1) := by decide +kernel
theorem d_Lw_law_538 : decode code 538 = .ok (.iconst 1, 1) := by decide +kernel
theorem d_Lw_law_539 : decode code 539 = .ok (.iadd, 1) := by decide +kernel
theorem d_Lw_law_540 : decode code 540 = .ok (.iaload, 1) := by decide +kernel
theorem d_Lw_law_541 : decode code 541 = .ok (.invokevirtual 64, 3) := by decide +kernel
theorem d_Lw_law_544 : decode code 544 = .ok (.if_icmp .eq 136, 3) := by decide +kernel
theorem d_Lw_law_547 : decode code 547 = .ok (.iconst 0, 1) := by decide +kernel
theorem d_Lw_law_548 : decode code 548 = .ok (.ireturn, 1) := by decide +kernel
theorem d_Lw_law_549 : decode code 549 = .ok (.aload_n 1, 1) := by decide +kernel
theorem d_Lw_law_550 : decode code 550 = .ok (.aload_n 0, 1) := by decide +kernel
theorem d_Lw_law_551 : decode code 551 = .ok (.iload_n 3, 1) := by decide +kernel
theorem d_Lw_law_552 : decode code 552 = .ok (.iconst 1, 1) := by decide +kernel
theorem d_Lw_law_553 : decode code 553 = .ok (.iadd, 1) := by decide +kernel
theorem d_Lw_law_554 : decode code 554 = .ok (.iaload, 1) := by decide +kernel
theorem d_Lw_law_555 : decode code 555 = .ok (.aload_n 0, 1) := by decide +kernel
theorem d_Lw_law_556 : decode code 556 = .ok (.iload_n 3, 1) := by decide +kernel
theorem d_Lw_law_557 : decode code 557 = .ok (.iconst 2, 1) := by decide +kernel
theorem d_Lw_law_558 : decode code 558 = .ok (.iadd, 1) := by decide +kernel
theorem d_Lw_law_559 : decode code 559 = .ok (.iaload, 1) := by decide +kernel
theorem d_Lw_law_560 : decode code 560 = .ok (.invokevirtual 65, 3) := by decide +kernel
theorem d_Lw_law_563 : decode code 563 = .ok (.aload_n 2, 1) := by decide +kernel
theorem d_Lw_law_564 : decode code 564 = .ok (.aload_n 0, 1) := by decide +kernel
theorem d_Lw_law_565 : decode code 565 = .ok (.iload_n 3, 1) := by decide +kernel
theorem d_Lw_law_566 : decode code 566 = .ok (.iconst 1, 1) := by decide +kernel
theorem d_Lw_law_567 : decode code 567 = .ok (.iadd, 1) := by decide +kernel
theorem d_Lw_law_568 : decode code 568 = .ok (.iaload, 1) := by decide +kernel
theorem d_Lw_law_569 : decode code 569 = .ok (.aload_n 0, 1) := by decide +kernel
theorem d_Lw_law_570 : decode code 570 = .ok (.iload_n 3, 1) := by decide +kernel
theorem d_Lw_law_571 : decode code 571 = .ok (.iconst 2, 1) := by decide +kernel
theorem d_Lw_law_572 : decode code 572 = .ok (.iadd, 1) := by decide +kernel
theorem d_Lw_law_573 : decode code 573 = .ok (.iaload, 1) := by decide +kernel
