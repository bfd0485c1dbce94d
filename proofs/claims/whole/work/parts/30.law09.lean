theorem d_Lw_law_652 : decode code 652 = .ok (.iconst 0, 1) := by decide +kernel
theorem d_Lw_law_653 : decode code 653 = .ok (.ireturn, 1) := by decide +kernel
theorem d_Lw_law_654 : decode code 654 = .ok (.aload_n 1, 1) := by decide +kernel
theorem d_Lw_law_655 : decode code 655 = .ok (.invokevirtual 86, 3) := by decide +kernel
theorem d_Lw_law_658 : decode code 658 = .ok (.aload_n 2, 1) := by decide +kernel
theorem d_Lw_law_659 : decode code 659 = .ok (.invokevirtual 90, 3) := by decide +kernel
theorem d_Lw_law_662 : decode code 662 = .ok (.if_icmp .eq 18, 3) := by decide +kernel
theorem d_Lw_law_665 : decode code 665 = .ok (.iconst 0, 1) := by decide +kernel
theorem d_Lw_law_666 : decode code 666 = .ok (.ireturn, 1) := by decide +kernel
theorem d_Lw_law_667 : decode code 667 = .ok (.aload_n 1, 1) := by decide +kernel
theorem d_Lw_law_668 : decode code 668 = .ok (.invokevirtual 91, 3) := by decide +kernel
theorem d_Lw_law_671 : decode code 671 = .ok (.aload_n 2, 1) := by decide +kernel
theorem d_Lw_law_672 : decode code 672 = .ok (.invokevirtual 94, 3) := by decide +kernel
theorem d_Lw_law_675 : decode code 675 = .ok (.if_icmp .eq 5, 3) := by decide +kernel
theorem d_Lw_law_678 : decode code 678 = .ok (.iconst 0, 1) := by decide +kernel
theorem d_Lw_law_679 : decode code 679 = .ok (.ireturn, 1) := by decide +kernel
theorem d_Lw_law_680 : decode code 680 = .ok (.iinc 3 6, 3) := by decide +kernel
theorem d_Lw_law_683 : decode code 683 = .ok (.goto (-665), 3) := by decide +kernel
theorem d_Lw_law_686 : decode code 686 = .ok (.iconst 1, 1) := by decide +kernel
theorem d_Lw_law_687 : decode code 687 = .ok (.ireturn, 1) := by decide +kernel
