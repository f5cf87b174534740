theorem d_L_law_0 : decode c_L_law 0 = .ok (.new 8, 3) := by decide +kernel
theorem d_L_law_3 : decode c_L_law 3 = .ok (.dup, 1) := by decide +kernel
theorem d_L_law_4 : decode c_L_law 4 = .ok (.invokespecial 45, 3) := by decide +kernel
theorem d_L_law_7 : decode c_L_law 7 = .ok (.astore_n 1, 1) := by decide +kernel
theorem d_L_law_8 : decode c_L_law 8 = .ok (.new 46, 3) := by decide +kernel
theorem d_L_law_11 : decode c_L_law 11 = .ok (.dup, 1) := by decide +kernel
theorem d_L_law_12 : decode c_L_law 12 = .ok (.invokespecial 48, 3) := by decide +kernel
theorem d_L_law_15 : decode c_L_law 15 = .ok (.astore_n 2, 1) := by decide +kernel
theorem d_L_law_16 : decode c_L_law 16 = .ok (.iconst 1, 1) := by decide +kernel
theorem d_L_law_17 : decode c_L_law 17 = .ok (.newarray .long, 2) := by decide +kernel
theorem d_L_law_19 : decode c_L_law 19 = .ok (.astore_n 3, 1) := by decide +kernel
theorem d_L_law_20 : decode c_L_law 20 = .ok (.iconst 0, 1) := by decide +kernel
theorem d_L_law_21 : decode c_L_law 21 = .ok (.istore 4, 2) := by decide +kernel
theorem d_L_law_23 : decode c_L_law 23 = .ok (.iload 4, 2) := by decide +kernel
theorem d_L_law_25 : decode c_L_law 25 = .ok (.aload_n 0, 1) := by decide +kernel
theorem d_L_law_26 : decode c_L_law 26 = .ok (.arraylength, 1) := by decide +kernel
theorem d_L_law_27 : decode c_L_law 27 = .ok (.iconst 3, 1) := by decide +kernel
theorem d_L_law_28 : decode c_L_law 28 = .ok (.isub, 1) := by decide +kernel
theorem d_L_law_29 : decode c_L_law 29 = .ok (.if_icmp .gt 614, 3) := by decide +kernel
theorem d_L_law_32 : decode c_L_law 32 = .ok (.aload_n 0, 1) := by decide +kernel
theorem d_L_law_33 : decode c_L_law 33 = .ok (.iload 4, 2) := by decide +kernel
theorem d_L_law_35 : decode c_L_law 35 = .ok (.iaload, 1) := by decide +kernel
theorem d_L_law_36 : decode c_L_law 36 = .ok (.bipush 15, 2) := by decide +kernel
theorem d_L_law_38 : decode c_L_law 38 = .ok (.iand, 1) := by decide +kernel
theorem d_L_law_39 : decode c_L_law 39 = .ok (.tableswitch 598 0 9 #[53, 109, 165, 233, 289, 345, 393, 449, 486, 542], 53) := by decide +kernel
theorem d_L_law_92 : decode c_L_law 92 = .ok (.aload_n 1, 1) := by decide +kernel
theorem d_L_law_93 : decode c_L_law 93 = .ok (.aload_n 0, 1) := by decide +kernel
theorem d_L_law_94 : decode c_L_law 94 = .ok (.iload 4, 2) := by decide +kernel
theorem d_L_law_96 : decode c_L_law 96 = .ok (.iconst 1, 1) := by decide +kernel
theorem d_L_law_97 : decode c_L_law 97 = .ok (.iadd, 1) := by decide +kernel
theorem d_L_law_98 : decode c_L_law 98 = .ok (.iaload, 1) := by decide +kernel
theorem d_L_law_99 : decode c_L_law 99 = .ok (.aload_n 3, 1) := by decide +kernel
theorem d_L_law_100 : decode c_L_law 100 = .ok (.invokestatic 49, 3) := by decide +kernel
theorem d_L_law_103 : decode c_L_law 103 = .ok (.istore 5, 2) := by decide +kernel
theorem d_L_law_105 : decode c_L_law 105 = .ok (.aload_n 2, 1) := by decide +kernel
theorem d_L_law_106 : decode c_L_law 106 = .ok (.aload_n 0, 1) := by decide +kernel
theorem d_L_law_107 : decode c_L_law 107 = .ok (.iload 4, 2) := by decide +kernel
theorem d_L_law_109 : decode c_L_law 109 = .ok (.iconst 1, 1) := by decide +kernel
theorem d_L_law_110 : decode c_L_law 110 = .ok (.iadd, 1) := by decide +kernel
theorem d_L_law_111 : decode c_L_law 111 = .ok (.iaload, 1) := by decide +kernel
theorem d_L_law_112 : decode c_L_law 112 = .ok (.invokevirtual 54, 3) := by decide +kernel
theorem d_L_law_115 : decode c_L_law 115 = .ok (.istore 6, 2) := by decide +kernel
theorem d_L_law_117 : decode c_L_law 117 = .ok (.aload_n 2, 1) := by decide +kernel
theorem d_L_law_118 : decode c_L_law 118 = .ok (.invokevirtual 55, 3) := by decide +kernel
theorem d_L_law_121 : decode c_L_law 121 = .ok (.iload 5, 2) := by decide +kernel
theorem d_L_law_123 : decode c_L_law 123 = .ok (.if_icmp .eq 5, 3) := by decide +kernel
theorem d_L_law_126 : decode c_L_law 126 = .ok (.iconst 0, 1) := by decide +kernel
theorem d_L_law_127 : decode c_L_law 127 = .ok (.ireturn, 1) := by decide +kernel
theorem d_L_law_128 : decode c_L_law 128 = .ok (.iload 5, 2) := by decide +kernel
theorem d_L_law_130 : decode c_L_law 130 = .ok (.ifCond .ne 15, 3) := by decide +kernel
theorem d_L_law_133 : decode c_L_law 133 = .ok (.aload_n 3, 1) := by decide +kernel
theorem d_L_law_134 : decode c_L_law 134 = .ok (.iconst 0, 1) := by decide +kernel
theorem d_L_law_135 : decode c_L_law 135 = .ok (.laload, 1) := by decide +kernel
theorem d_L_law_136 : decode c_L_law 136 = .ok (.iload 6, 2) := by decide +kernel
theorem d_L_law_138 : decode c_L_law 138 = .ok (.i2l, 1) := by decide +kernel
theorem d_L_law_139 : decode c_L_law 139 = .ok (.lcmp, 1) := by decide +kernel
theorem d_L_law_140 : decode c_L_law 140 = .ok (.ifCond .eq 5, 3) := by decide +kernel
theorem d_L_law_143 : decode c_L_law 143 = .ok (.iconst 0, 1) := by decide +kernel
theorem d_L_law_144 : decode c_L_law 144 = .ok (.ireturn, 1) := by decide +kernel
theorem d_L_law_145 : decode c_L_law 145 = .ok (.goto 492, 3) := by decide +kernel
theorem d_L_law_148 : decode c_L_law 148 = .ok (.aload_n 1, 1) := by decide +kernel
theorem d_L_law_149 : decode c_L_law 149 = .ok (.aload_n 0, 1) := by decide +kernel
theorem d_L_law_150 : decode c_L_law 150 = .ok (.iload 4, 2) := by decide +kernel
theorem d_L_law_152 : decode c_L_law 152 = .ok (.iconst 1, 1) := by decide +kernel
