theorem d_Lw_law_0 : decode code 0 = .ok (.new 7, 3) := by decide +kernel
theorem d_Lw_law_3 : decode code 3 = .ok (.dup, 1) := by decide +kernel
theorem d_Lw_law_4 : decode code 4 = .ok (.invokespecial 9, 3) := by decide +kernel
theorem d_Lw_law_7 : decode code 7 = .ok (.astore_n 1, 1) := by decide +kernel
theorem d_Lw_law_8 : decode code 8 = .ok (.new 10, 3) := by decide +kernel
theorem d_Lw_law_11 : decode code 11 = .ok (.dup, 1) := by decide +kernel
theorem d_Lw_law_12 : decode code 12 = .ok (.invokespecial 12, 3) := by decide +kernel
theorem d_Lw_law_15 : decode code 15 = .ok (.astore_n 2, 1) := by decide +kernel
theorem d_Lw_law_16 : decode code 16 = .ok (.iconst 0, 1) := by decide +kernel
theorem d_Lw_law_17 : decode code 17 = .ok (.istore_n 3, 1) := by decide +kernel
theorem d_Lw_law_18 : decode code 18 = .ok (.iload_n 3, 1) := by decide +kernel
theorem d_Lw_law_19 : decode code 19 = .ok (.aload_n 0, 1) := by decide +kernel
theorem d_Lw_law_20 : decode code 20 = .ok (.arraylength, 1) := by decide +kernel
theorem d_Lw_law_21 : decode code 21 = .ok (.bipush 6, 2) := by decide +kernel
theorem d_Lw_law_23 : decode code 23 = .ok (.isub, 1) := by decide +kernel
theorem d_Lw_law_24 : decode code 24 = .ok (.if_icmp .gt 662, 3) := by decide +kernel
theorem d_Lw_law_27 : decode code 27 = .ok (.aload_n 0, 1) := by decide +kernel
theorem d_Lw_law_28 : decode code 28 = .ok (.iload_n 3, 1) := by decide +kernel
theorem d_Lw_law_29 : decode code 29 = .ok (.iaload, 1) := by decide +kernel
theorem d_Lw_law_30 : decode code 30 = .ok (.bipush 31, 2) := by decide +kernel
theorem d_Lw_law_32 : decode code 32 = .ok (.iand, 1) := by decide +kernel
theorem d_Lw_law_33 : decode code 33 = .ok (.tableswitch 647 0 17 #[87, 156, 209, 252, 315, 368, 391, 424, 447, 470, 493, 516, 549, 562, 585, 608, 621, 634], 87) := by decide +kernel
theorem d_Lw_law_120 : decode code 120 = .ok (.aload_n 1, 1) := by decide +kernel
theorem d_Lw_law_121 : decode code 121 = .ok (.aload_n 0, 1) := by decide +kernel
theorem d_Lw_law_122 : decode code 122 = .ok (.iload_n 3, 1) := by decide +kernel
theorem d_Lw_law_123 : decode code 123 = .ok (.iconst 1, 1) := by decide +kernel
theorem d_Lw_law_124 : decode code 124 = .ok (.iadd, 1) := by decide +kernel
theorem d_Lw_law_125 : decode code 125 = .ok (.iaload, 1) := by decide +kernel
theorem d_Lw_law_126 : decode code 126 = .ok (.aload_n 0, 1) := by decide +kernel
theorem d_Lw_law_127 : decode code 127 = .ok (.iload_n 3, 1) := by decide +kernel
theorem d_Lw_law_128 : decode code 128 = .ok (.iconst 2, 1) := by decide +kernel
theorem d_Lw_law_129 : decode code 129 = .ok (.iadd, 1) := by decide +kernel
theorem d_Lw_law_130 : decode code 130 = .ok (.iaload, 1) := by decide +kernel
theorem d_Lw_law_131 : decode code 131 = .ok (.aload_n 0, 1) := by decide +kernel
theorem d_Lw_law_132 : decode code 132 = .ok (.iload_n 3, 1) := by decide +kernel
theorem d_Lw_law_133 : decode code 133 = .ok (.iconst 3, 1) := by decide +kernel
theorem d_Lw_law_134 : decode code 134 = .ok (.iadd, 1) := by decide +kernel
theorem d_Lw_law_135 : decode code 135 = .ok (.iaload, 1) := by decide +kernel
theorem d_Lw_law_136 : decode code 136 = .ok (.aload_n 0, 1) := by decide +kernel
theorem d_Lw_law_137 : decode code 137 = .ok (.iload_n 3, 1) := by decide +kernel
theorem d_Lw_law_138 : decode code 138 = .ok (.iconst 4, 1) := by decide +kernel
theorem d_Lw_law_139 : decode code 139 = .ok (.iadd, 1) := by decide +kernel
theorem d_Lw_law_140 : decode code 140 = .ok (.iaload, 1) := by decide +kernel
theorem d_Lw_law_141 : decode code 141 = .ok (.ifCond .eq 7, 3) := by decide +kernel
theorem d_Lw_law_144 : decode code 144 = .ok (.iconst 1, 1) := by decide +kernel
theorem d_Lw_law_145 : decode code 145 = .ok (.goto 4, 3) := by decide +kernel
theorem d_Lw_law_148 : decode code 148 = .ok (.iconst 0, 1) := by decide +kernel
theorem d_Lw_law_149 : decode code 149 = .ok (.invokevirtual 13, 3) := by decide +kernel
theorem d_Lw_law_152 : decode code 152 = .ok (.aload_n 2, 1) := by decide +kernel
theorem d_Lw_law_153 : decode code 153 = .ok (.aload_n 0, 1) := by decide +kernel
