theorem d_Lw_law_574 : decode code 574 = .ok (.invokevirtual 68, 3) := by decide +kernel
theorem d_Lw_law_577 : decode code 577 = .ok (.if_icmp .eq 103, 3) := by decide +kernel
theorem d_Lw_law_580 : decode code 580 = .ok (.iconst 0, 1) := by decide +kernel
theorem d_Lw_law_581 : decode code 581 = .ok (.ireturn, 1) := by decide +kernel
theorem d_Lw_law_582 : decode code 582 = .ok (.aload_n 1, 1) := by decide +kernel
theorem d_Lw_law_583 : decode code 583 = .ok (.invokevirtual 69, 3) := by decide +kernel
theorem d_Lw_law_586 : decode code 586 = .ok (.aload_n 2, 1) := by decide +kernel
theorem d_Lw_law_587 : decode code 587 = .ok (.invokevirtual 73, 3) := by decide +kernel
theorem d_Lw_law_590 : decode code 590 = .ok (.if_icmp .eq 90, 3) := by decide +kernel
theorem d_Lw_law_593 : decode code 593 = .ok (.iconst 0, 1) := by decide +kernel
theorem d_Lw_law_594 : decode code 594 = .ok (.ireturn, 1) := by decide +kernel
theorem d_Lw_law_595 : decode code 595 = .ok (.aload_n 1, 1) := by decide +kernel
theorem d_Lw_law_596 : decode code 596 = .ok (.aload_n 0, 1) := by decide +kernel
theorem d_Lw_law_597 : decode code 597 = .ok (.iload_n 3, 1) := by decide +kernel
theorem d_Lw_law_598 : decode code 598 = .ok (.iconst 1, 1) := by decide +kernel
theorem d_Lw_law_599 : decode code 599 = .ok (.iadd, 1) := by decide +kernel
theorem d_Lw_law_600 : decode code 600 = .ok (.iaload, 1) := by decide +kernel
theorem d_Lw_law_601 : decode code 601 = .ok (.invokevirtual 74, 3) := by decide +kernel
theorem d_Lw_law_604 : decode code 604 = .ok (.aload_n 2, 1) := by decide +kernel
theorem d_Lw_law_605 : decode code 605 = .ok (.aload_n 0, 1) := by decide +kernel
theorem d_Lw_law_606 : decode code 606 = .ok (.iload_n 3, 1) := by decide +kernel
theorem d_Lw_law_607 : decode code 607 = .ok (.iconst 1, 1) := by decide +kernel
theorem d_Lw_law_608 : decode code 608 = .ok (.iadd, 1) := by decide +kernel
theorem d_Lw_law_609 : decode code 609 = .ok (.iaload, 1) := by decide +kernel
theorem d_Lw_law_610 : decode code 610 = .ok (.invokevirtual 77, 3) := by decide +kernel
theorem d_Lw_law_613 : decode code 613 = .ok (.if_icmp .eq 67, 3) := by decide +kernel
theorem d_Lw_law_616 : decode code 616 = .ok (.iconst 0, 1) := by decide +kernel
theorem d_Lw_law_617 : decode code 617 = .ok (.ireturn, 1) := by decide +kernel
theorem d_Lw_law_618 : decode code 618 = .ok (.aload_n 1, 1) := by decide +kernel
theorem d_Lw_law_619 : decode code 619 = .ok (.aload_n 0, 1) := by decide +kernel
theorem d_Lw_law_620 : decode code 620 = .ok (.iload_n 3, 1) := by decide +kernel
theorem d_Lw_law_621 : decode code 621 = .ok (.iconst 1, 1) := by decide +kernel
theorem d_Lw_law_622 : decode code 622 = .ok (.iadd, 1) := by decide +kernel
theorem d_Lw_law_623 : decode code 623 = .ok (.iaload, 1) := by decide +kernel
theorem d_Lw_law_624 : decode code 624 = .ok (.invokevirtual 78, 3) := by decide +kernel
theorem d_Lw_law_627 : decode code 627 = .ok (.aload_n 2, 1) := by decide +kernel
theorem d_Lw_law_628 : decode code 628 = .ok (.aload_n 0, 1) := by decide +kernel
theorem d_Lw_law_629 : decode code 629 = .ok (.iload_n 3, 1) := by decide +kernel
theorem d_Lw_law_630 : decode code 630 = .ok (.iconst 1, 1) := by decide +kernel
theorem d_Lw_law_631 : decode code 631 = .ok (.iadd, 1) := by decide +kernel
theorem d_Lw_law_632 : decode code 632 = .ok (.iaload, 1) := by decide +kernel
theorem d_Lw_law_633 : decode code 633 = .ok (.invokevirtual 81, 3) := by decide +kernel
theorem d_Lw_law_636 : decode code 636 = .ok (.if_icmp .eq 44, 3) := by decide +kernel
theorem d_Lw_law_639 : decode code 639 = .ok (.iconst 0, 1) := by decide +kernel
theorem d_Lw_law_640 : decode code 640 = .ok (.ireturn, 1) := by decide +kernel
theorem d_Lw_law_641 : decode code 641 = .ok (.aload_n 1, 1) := by decide +kernel
theorem d_Lw_law_642 : decode code 642 = .ok (.invokevirtual 82, 3) := by decide +kernel
theorem d_Lw_law_645 : decode code 645 = .ok (.aload_n 2, 1) := by decide +kernel
theorem d_Lw_law_646 : decode code 646 = .ok (.invokevirtual 85, 3) := by decide +kernel
theorem d_Lw_law_649 : decode code 649 = .ok (.if_icmp .eq 31, 3) := by decide +kernel
