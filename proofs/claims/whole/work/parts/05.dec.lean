theorem dX12_estimate_128 : decode cX12_estimate 128 = .ok (.iastore, 1) := by decide +kernel
theorem dX12_estimate_129 : decode cX12_estimate 129 = .ok (.aload_n 0, 1) := by decide +kernel
theorem dX12_estimate_130 : decode cX12_estimate 130 = .ok (.invokevirtual 159, 3) := by decide +kernel
theorem dX12_estimate_133 : decode cX12_estimate 133 = .ok (.ifCond .eq 15, 3) := by decide +kernel
theorem dX12_estimate_136 : decode cX12_estimate 136 = .ok (.aload_n 0, 1) := by decide +kernel
theorem dX12_estimate_137 : decode cX12_estimate 137 = .ok (.getfield 25, 3) := by decide +kernel
theorem dX12_estimate_140 : decode cX12_estimate 140 = .ok (.iload 8, 2) := by decide +kernel
theorem dX12_estimate_142 : decode cX12_estimate 142 = .ok (.iload 9, 2) := by decide +kernel
theorem dX12_estimate_144 : decode cX12_estimate 144 = .ok (.iastore, 1) := by decide +kernel
theorem dX12_estimate_145 : decode cX12_estimate 145 = .ok (.iinc 8 1, 3) := by decide +kernel
theorem dX12_estimate_148 : decode cX12_estimate 148 = .ok (.iinc 9 1, 3) := by decide +kernel
theorem dX12_estimate_151 : decode cX12_estimate 151 = .ok (.goto (-50), 3) := by decide +kernel
theorem dX12_estimate_154 : decode cX12_estimate 154 = .ok (.lload 4, 2) := by decide +kernel
theorem dX12_estimate_156 : decode cX12_estimate 156 = .ok (.iload 8, 2) := by decide +kernel
theorem dX12_estimate_158 : decode cX12_estimate 158 = .ok (.i2l, 1) := by decide +kernel
theorem dX12_estimate_159 : decode cX12_estimate 159 = .ok (.lmul, 1) := by decide +kernel
theorem dX12_estimate_160 : decode cX12_estimate 160 = .ok (.lstore 4, 2) := by decide +kernel
theorem dX12_estimate_162 : decode cX12_estimate 162 = .ok (.ldc2_w 181, 3) := by decide +kernel
theorem dX12_estimate_165 : decode cX12_estimate 165 = .ok (.iload 6, 2) := by decide +kernel
theorem dX12_estimate_167 : decode cX12_estimate 167 = .ok (.i2l, 1) := by decide +kernel
theorem dX12_estimate_168 : decode cX12_estimate 168 = .ok (.lmul, 1) := by decide +kernel
theorem dX12_estimate_169 : decode cX12_estimate 169 = .ok (.ldc2_w 183, 3) := by decide +kernel
theorem dX12_estimate_172 : decode cX12_estimate 172 = .ok (.ladd, 1) := by decide +kernel
theorem dX12_estimate_173 : decode cX12_estimate 173 = .ok (.ldc2_w 185, 3) := by decide +kernel
theorem dX12_estimate_176 : decode cX12_estimate 176 = .ok (.lrem, 1) := by decide +kernel
theorem dX12_estimate_177 : decode cX12_estimate 177 = .ok (.l2i, 1) := by decide +kernel
theorem dX12_estimate_178 : decode cX12_estimate 178 = .ok (.istore 6, 2) := by decide +kernel
theorem dX12_estimate_180 : decode cX12_estimate 180 = .ok (.aload_n 0, 1) := by decide +kernel
theorem dX12_estimate_181 : decode cX12_estimate 181 = .ok (.getfield 19, 3) := by decide +kernel
theorem dX12_estimate_184 : decode cX12_estimate 184 = .ok (.aload_n 0, 1) := by decide +kernel
theorem dX12_estimate_185 : decode cX12_estimate 185 = .ok (.getfield 22, 3) := by decide +kernel
theorem dX12_estimate_188 : decode cX12_estimate 188 = .ok (.iload 7, 2) := by decide +kernel
theorem dX12_estimate_190 : decode cX12_estimate 190 = .ok (.iaload, 1) := by decide +kernel
theorem dX12_estimate_191 : decode cX12_estimate 191 = .ok (.iload 8, 2) := by decide +kernel
theorem dX12_estimate_193 : decode cX12_estimate 193 = .ok (.ifCond .ne 7, 3) := by decide +kernel
theorem dX12_estimate_196 : decode cX12_estimate 196 = .ok (.iconst 0, 1) := by decide +kernel
theorem dX12_estimate_197 : decode cX12_estimate 197 = .ok (.goto 13, 3) := by decide +kernel
theorem dX12_estimate_200 : decode cX12_estimate 200 = .ok (.aload_n 0, 1) := by decide +kernel
theorem dX12_estimate_201 : decode cX12_estimate 201 = .ok (.getfield 25, 3) := by decide +kernel
theorem dX12_estimate_204 : decode cX12_estimate 204 = .ok (.iload 6, 2) := by decide +kernel
theorem dX12_estimate_206 : decode cX12_estimate 206 = .ok (.iload 8, 2) := by decide +kernel
theorem dX12_estimate_208 : decode cX12_estimate 208 = .ok (.irem, 1) := by decide +kernel
theorem dX12_estimate_209 : decode cX12_estimate 209 = .ok (.iaload, 1) := by decide +kernel
theorem dX12_estimate_210 : decode cX12_estimate 210 = .ok (.iastore, 1) := by decide +kernel
theorem dX12_estimate_211 : decode cX12_estimate 211 = .ok (.iinc 7 1, 3) := by decide +kernel
theorem dX12_estimate_214 : decode cX12_estimate 214 = .ok (.goto (-135), 3) := by decide +kernel
theorem dX12_estimate_217 : decode cX12_estimate 217 = .ok (.lload 4, 2) := by decide +kernel
theorem dX12_estimate_219 : decode cX12_estimate 219 = .ok (.lreturn, 1) := by decide +kernel
theorem dX12_ones_0 : decode cX12_ones 0 = .ok (.iconst 0, 1) := by decide +kernel
theorem dX12_ones_1 : decode cX12_ones 1 = .ok (.istore_n 1, 1) := by decide +kernel
theorem dX12_ones_2 : decode cX12_ones 2 = .ok (.iload_n 0, 1) := by decide +kernel
theorem dX12_ones_3 : decode cX12_ones 3 = .ok (.istore_n 2, 1) := by decide +kernel
theorem dX12_ones_4 : decode cX12_ones 4 = .ok (.iload_n 2, 1) := by decide +kernel
theorem dX12_ones_5 : decode cX12_ones 5 = .ok (.ifCond .le 16, 3) := by decide +kernel
theorem dX12_ones_8 : decode cX12_ones 8 = .ok (.iload_n 1, 1) := by decide +kernel
theorem dX12_ones_9 : decode cX12_ones 9 = .ok (.iload_n 2, 1) := by decide +kernel
theorem dX12_ones_10 : decode cX12_ones 10 = .ok (.iconst 2, 1) := by decide +kernel
theorem dX12_ones_11 : decode cX12_ones 11 = .ok (.irem, 1) := by decide +kernel
theorem dX12_ones_12 : decode cX12_ones 12 = .ok (.iadd, 1) := by decide +kernel
theorem dX12_ones_13 : decode cX12_ones 13 = .ok (.istore_n 1, 1) := by decide +kernel
theorem dX12_ones_14 : decode cX12_ones 14 = .ok (.iload_n 2, 1) := by decide +kernel
theorem dX12_ones_15 : decode cX12_ones 15 = .ok (.iconst 2, 1) := by decide +kernel
theorem dX12_ones_16 : decode cX12_ones 16 = .ok (.idiv, 1) := by decide +kernel
theorem dX12_ones_17 : decode cX12_ones 17 = .ok (.istore_n 2, 1) := by decide +kernel
theorem dX12_ones_18 : decode cX12_ones 18 = .ok (.goto (-14), 3) := by decide +kernel
theorem dX12_ones_21 : decode cX12_ones 21 = .ok (.iload_n 1, 1) := by decide +kernel
theorem dX12_ones_22 : decode cX12_ones 22 = .ok (.ireturn, 1) := by decide +kernel
theorem dX12_givens_0 : decode cX12_givens 0 = .ok (.aload_n 0, 1) := by decide +kernel
theorem dX12_givens_1 : decode cX12_givens 1 = .ok (.iload_n 1, 1) := by decide +kernel
theorem dX12_givens_2 : decode cX12_givens 2 = .ok (.invokevirtual 59, 3) := by decide +kernel
theorem dX12_givens_5 : decode cX12_givens 5 = .ok (.istore_n 3, 1) := by decide +kernel
theorem dX12_givens_6 : decode cX12_givens 6 = .ok (.bipush 79, 2) := by decide +kernel
theorem dX12_givens_8 : decode cX12_givens 8 = .ok (.istore 4, 2) := by decide +kernel
theorem dX12_givens_10 : decode cX12_givens 10 = .ok (.aload_n 0, 1) := by decide +kernel
theorem dX12_givens_11 : decode cX12_givens 11 = .ok (.iload_n 3, 1) := by decide +kernel
theorem dX12_givens_12 : decode cX12_givens 12 = .ok (.ifCond .ne 7, 3) := by decide +kernel
theorem dX12_givens_15 : decode cX12_givens 15 = .ok (.iconst 1, 1) := by decide +kernel
theorem dX12_givens_16 : decode cX12_givens 16 = .ok (.goto 31, 3) := by decide +kernel
theorem dX12_givens_19 : decode cX12_givens 19 = .ok (.aload_n 0, 1) := by decide +kernel
theorem dX12_givens_20 : decode cX12_givens 20 = .ok (.getfield 7, 3) := by decide +kernel
theorem dX12_givens_23 : decode cX12_givens 23 = .ok (.iload_n 1, 1) := by decide +kernel
theorem dX12_givens_24 : decode cX12_givens 24 = .ok (.iaload, 1) := by decide +kernel
theorem dX12_givens_25 : decode cX12_givens 25 = .ok (.iconst 3, 1) := by decide +kernel
theorem dX12_givens_26 : decode cX12_givens 26 = .ok (.if_icmp .gt 16, 3) := by decide +kernel
theorem dX12_givens_29 : decode cX12_givens 29 = .ok (.aload_n 0, 1) := by decide +kernel
theorem dX12_givens_30 : decode cX12_givens 30 = .ok (.iload_n 1, 1) := by decide +kernel
theorem dX12_givens_31 : decode cX12_givens 31 = .ok (.invokevirtual 118, 3) := by decide +kernel
theorem dX12_givens_34 : decode cX12_givens 34 = .ok (.iload 4, 2) := by decide +kernel
theorem dX12_givens_36 : decode cX12_givens 36 = .ok (.iand, 1) := by decide +kernel
theorem dX12_givens_37 : decode cX12_givens 37 = .ok (.iload 4, 2) := by decide +kernel
theorem dX12_givens_39 : decode cX12_givens 39 = .ok (.if_icmp .eq 7, 3) := by decide +kernel
theorem dX12_givens_42 : decode cX12_givens 42 = .ok (.iconst 2, 1) := by decide +kernel
theorem dX12_givens_43 : decode cX12_givens 43 = .ok (.goto 4, 3) := by decide +kernel
theorem dX12_givens_46 : decode cX12_givens 46 = .ok (.iconst 0, 1) := by decide +kernel
theorem dX12_givens_47 : decode cX12_givens 47 = .ok (.invokevirtual 63, 3) := by decide +kernel
theorem dX12_givens_50 : decode cX12_givens 50 = .ok (.ifCond .ne 5, 3) := by decide +kernel
theorem dX12_givens_53 : decode cX12_givens 53 = .ok (.iconst 0, 1) := by decide +kernel
theorem dX12_givens_54 : decode cX12_givens 54 = .ok (.ireturn, 1) := by decide +kernel
theorem dX12_givens_55 : decode cX12_givens 55 = .ok (.aload_n 0, 1) := by decide +kernel
theorem dX12_givens_56 : decode cX12_givens 56 = .ok (.iload_n 1, 1) := by decide +kernel
theorem dX12_givens_57 : decode cX12_givens 57 = .ok (.invokevirtual 100, 3) := by decide +kernel
theorem dX12_givens_60 : decode cX12_givens 60 = .ok (.istore 5, 2) := by decide +kernel
theorem dX12_givens_62 : decode cX12_givens 62 = .ok (.iconst 0, 1) := by decide +kernel
theorem dX12_givens_63 : decode cX12_givens 63 = .ok (.istore 6, 2) := by decide +kernel
theorem dX12_givens_65 : decode cX12_givens 65 = .ok (.iload 6, 2) := by decide +kernel
theorem dX12_givens_67 : decode cX12_givens 67 = .ok (.iload 5, 2) := by decide +kernel
theorem dX12_givens_69 : decode cX12_givens 69 = .ok (.if_icmp .gt 65, 3) := by decide +kernel
theorem dX12_givens_72 : decode cX12_givens 72 = .ok (.iconst 0, 1) := by decide +kernel
theorem dX12_givens_73 : decode cX12_givens 73 = .ok (.istore 7, 2) := by decide +kernel
theorem dX12_givens_75 : decode cX12_givens 75 = .ok (.iload 7, 2) := by decide +kernel
theorem dX12_givens_77 : decode cX12_givens 77 = .ok (.iconst 1, 1) := by decide +kernel
theorem dX12_givens_78 : decode cX12_givens 78 = .ok (.iload 5, 2) := by decide +kernel
theorem dX12_givens_80 : decode cX12_givens 80 = .ok (.ishl, 1) := by decide +kernel
theorem dX12_givens_81 : decode cX12_givens 81 = .ok (.if_icmp .ge 47, 3) := by decide +kernel
theorem dX12_givens_84 : decode cX12_givens 84 = .ok (.iload 7, 2) := by decide +kernel
theorem dX12_givens_86 : decode cX12_givens 86 = .ok (.invokestatic 187, 3) := by decide +kernel
theorem dX12_givens_89 : decode cX12_givens 89 = .ok (.iload 6, 2) := by decide +kernel
theorem dX12_givens_91 : decode cX12_givens 91 = .ok (.if_icmp .ne 31, 3) := by decide +kernel
theorem dX12_givens_94 : decode cX12_givens 94 = .ok (.aload_n 0, 1) := by decide +kernel
theorem dX12_givens_95 : decode cX12_givens 95 = .ok (.iload_n 1, 1) := by decide +kernel
theorem dX12_givens_96 : decode cX12_givens 96 = .ok (.iload 7, 2) := by decide +kernel
theorem dX12_givens_98 : decode cX12_givens 98 = .ok (.invokevirtual 173, 3) := by decide +kernel
theorem dX12_givens_101 : decode cX12_givens 101 = .ok (.aload_n 0, 1) := by decide +kernel
theorem dX12_givens_102 : decode cX12_givens 102 = .ok (.iconst 2, 1) := by decide +kernel
theorem dX12_givens_103 : decode cX12_givens 103 = .ok (.invokevirtual 178, 3) := by decide +kernel
theorem dX12_givens_106 : decode cX12_givens 106 = .ok (.iconst 1, 1) := by decide +kernel
theorem dX12_givens_107 : decode cX12_givens 107 = .ok (.if_icmp .ne 15, 3) := by decide +kernel
theorem dX12_givens_110 : decode cX12_givens 110 = .ok (.iload_n 2, 1) := by decide +kernel
theorem dX12_givens_111 : decode cX12_givens 111 = .ok (.ifCond .eq 8, 3) := by decide +kernel
theorem dX12_givens_114 : decode cX12_givens 114 = .ok (.iload 7, 2) := by decide +kernel
theorem dX12_givens_116 : decode cX12_givens 116 = .ok (.goto 5, 3) := by decide +kernel
theorem dX12_givens_119 : decode cX12_givens 119 = .ok (.iload 6, 2) := by decide +kernel
theorem dX12_givens_121 : decode cX12_givens 121 = .ok (.ireturn, 1) := by decide +kernel
theorem dX12_givens_122 : decode cX12_givens 122 = .ok (.iinc 7 1, 3) := by decide +kernel
theorem dX12_givens_125 : decode cX12_givens 125 = .ok (.goto (-50), 3) := by decide +kernel
theorem dX12_givens_128 : decode cX12_givens 128 = .ok (.iinc 6 1, 3) := by decide +kernel
theorem dX12_givens_131 : decode cX12_givens 131 = .ok (.goto (-66), 3) := by decide +kernel
theorem dX12_givens_134 : decode cX12_givens 134 = .ok (.iconst 0, 1) := by decide +kernel
theorem dX12_givens_135 : decode cX12_givens 135 = .ok (.ireturn, 1) := by decide +kernel
theorem dX12_isRight_0 : decode cX12_isRight 0 = .ok (.aload_n 0, 1) := by decide +kernel
theorem dX12_isRight_1 : decode cX12_isRight 1 = .ok (.iload_n 1, 1) := by decide +kernel
theorem dX12_isRight_2 : decode cX12_isRight 2 = .ok (.iconst 0, 1) := by decide +kernel
theorem dX12_isRight_3 : decode cX12_isRight 3 = .ok (.invokevirtual 106, 3) := by decide +kernel
theorem dX12_isRight_6 : decode cX12_isRight 6 = .ok (.ifCond .eq 24, 3) := by decide +kernel
theorem dX12_isRight_9 : decode cX12_isRight 9 = .ok (.aload_n 0, 1) := by decide +kernel
theorem dX12_isRight_10 : decode cX12_isRight 10 = .ok (.iload_n 1, 1) := by decide +kernel
theorem dX12_isRight_11 : decode cX12_isRight 11 = .ok (.iconst 1, 1) := by decide +kernel
theorem dX12_isRight_12 : decode cX12_isRight 12 = .ok (.invokevirtual 106, 3) := by decide +kernel
theorem dX12_isRight_15 : decode cX12_isRight 15 = .ok (.ifCond .eq 15, 3) := by decide +kernel
theorem dX12_isRight_18 : decode cX12_isRight 18 = .ok (.aload_n 0, 1) := by decide +kernel
theorem dX12_isRight_19 : decode cX12_isRight 19 = .ok (.iload_n 1, 1) := by decide +kernel
theorem dX12_isRight_20 : decode cX12_isRight 20 = .ok (.invokevirtual 109, 3) := by decide +kernel
theorem dX12_isRight_23 : decode cX12_isRight 23 = .ok (.ifCond .eq 7, 3) := by decide +kernel
theorem dX12_isRight_26 : decode cX12_isRight 26 = .ok (.iconst 1, 1) := by decide +kernel
theorem dX12_isRight_27 : decode cX12_isRight 27 = .ok (.goto 4, 3) := by decide +kernel
theorem dX12_isRight_30 : decode cX12_isRight 30 = .ok (.iconst 0, 1) := by decide +kernel
theorem dX12_isRight_31 : decode cX12_isRight 31 = .ok (.ireturn, 1) := by decide +kernel
theorem dX12_isSlip_0 : decode cX12_isSlip 0 = .ok (.bipush 81, 2) := by decide +kernel
theorem dX12_isSlip_2 : decode cX12_isSlip 2 = .ok (.iload_n 1, 1) := by decide +kernel
theorem dX12_isSlip_3 : decode cX12_isSlip 3 = .ok (.imul, 1) := by decide +kernel
theorem dX12_isSlip_4 : decode cX12_isSlip 4 = .ok (.iload_n 2, 1) := by decide +kernel
theorem dX12_isSlip_5 : decode cX12_isSlip 5 = .ok (.iadd, 1) := by decide +kernel
theorem dX12_isSlip_6 : decode cX12_isSlip 6 = .ok (.istore 4, 2) := by decide +kernel
theorem dX12_isSlip_8 : decode cX12_isSlip 8 = .ok (.aload_n 0, 1) := by decide +kernel
theorem dX12_isSlip_9 : decode cX12_isSlip 9 = .ok (.getfield 13, 3) := by decide +kernel
theorem dX12_isSlip_12 : decode cX12_isSlip 12 = .ok (.iload 4, 2) := by decide +kernel
theorem dX12_isSlip_14 : decode cX12_isSlip 14 = .ok (.iaload, 1) := by decide +kernel
theorem dX12_isSlip_15 : decode cX12_isSlip 15 = .ok (.istore 5, 2) := by decide +kernel
theorem dX12_isSlip_17 : decode cX12_isSlip 17 = .ok (.iload 5, 2) := by decide +kernel
theorem dX12_isSlip_19 : decode cX12_isSlip 19 = .ok (.iload_n 3, 1) := by decide +kernel
theorem dX12_isSlip_20 : decode cX12_isSlip 20 = .ok (.if_icmp .eq 14, 3) := by decide +kernel
theorem dX12_isSlip_23 : decode cX12_isSlip 23 = .ok (.iload_n 3, 1) := by decide +kernel
theorem dX12_isSlip_24 : decode cX12_isSlip 24 = .ok (.iconst 1, 1) := by decide +kernel
theorem dX12_isSlip_25 : decode cX12_isSlip 25 = .ok (.sipush 999, 3) := by decide +kernel
theorem dX12_isSlip_28 : decode cX12_isSlip 28 = .ok (.invokestatic 55, 3) := by decide +kernel
theorem dX12_isSlip_31 : decode cX12_isSlip 31 = .ok (.ifCond .ne 5, 3) := by decide +kernel
theorem dX12_isSlip_34 : decode cX12_isSlip 34 = .ok (.iconst 0, 1) := by decide +kernel
theorem dX12_isSlip_35 : decode cX12_isSlip 35 = .ok (.ireturn, 1) := by decide +kernel
theorem dX12_isSlip_36 : decode cX12_isSlip 36 = .ok (.aload_n 0, 1) := by decide +kernel
theorem dX12_isSlip_37 : decode cX12_isSlip 37 = .ok (.getfield 13, 3) := by decide +kernel
theorem dX12_isSlip_40 : decode cX12_isSlip 40 = .ok (.iload 4, 2) := by decide +kernel
theorem dX12_isSlip_42 : decode cX12_isSlip 42 = .ok (.iload_n 3, 1) := by decide +kernel
theorem dX12_isSlip_43 : decode cX12_isSlip 43 = .ok (.iastore, 1) := by decide +kernel
theorem dX12_isSlip_44 : decode cX12_isSlip 44 = .ok (.aload_n 0, 1) := by decide +kernel
theorem dX12_isSlip_45 : decode cX12_isSlip 45 = .ok (.iload_n 1, 1) := by decide +kernel
theorem dX12_isSlip_46 : decode cX12_isSlip 46 = .ok (.invokevirtual 190, 3) := by decide +kernel
theorem dX12_isSlip_49 : decode cX12_isSlip 49 = .ok (.istore 6, 2) := by decide +kernel
theorem dX12_isSlip_51 : decode cX12_isSlip 51 = .ok (.aload_n 0, 1) := by decide +kernel
theorem dX12_isSlip_52 : decode cX12_isSlip 52 = .ok (.getfield 13, 3) := by decide +kernel
theorem dX12_isSlip_55 : decode cX12_isSlip 55 = .ok (.iload 4, 2) := by decide +kernel
theorem dX12_isSlip_57 : decode cX12_isSlip 57 = .ok (.iload 5, 2) := by decide +kernel
theorem dX12_isSlip_59 : decode cX12_isSlip 59 = .ok (.iastore, 1) := by decide +kernel
theorem dX12_isSlip_60 : decode cX12_isSlip 60 = .ok (.iload 6, 2) := by decide +kernel
theorem dX12_isSlip_62 : decode cX12_isSlip 62 = .ok (.ireturn, 1) := by decide +kernel
theorem dX12_mended_0 : decode cX12_mended 0 = .ok (.iload_n 2, 1) := by decide +kernel
theorem dX12_mended_1 : decode cX12_mended 1 = .ok (.aload_n 0, 1) := by decide +kernel
theorem dX12_mended_2 : decode cX12_mended 2 = .ok (.getfield 7, 3) := by decide +kernel
theorem dX12_mended_5 : decode cX12_mended 5 = .ok (.iload_n 1, 1) := by decide +kernel
theorem dX12_mended_6 : decode cX12_mended 6 = .ok (.iaload, 1) := by decide +kernel
theorem dX12_mended_7 : decode cX12_mended 7 = .ok (.idiv, 1) := by decide +kernel
theorem dX12_mended_8 : decode cX12_mended 8 = .ok (.istore_n 3, 1) := by decide +kernel
theorem dX12_mended_9 : decode cX12_mended 9 = .ok (.aload_n 0, 1) := by decide +kernel
theorem dX12_mended_10 : decode cX12_mended 10 = .ok (.iload_n 1, 1) := by decide +kernel
theorem dX12_mended_11 : decode cX12_mended 11 = .ok (.iconst 0, 1) := by decide +kernel
theorem dX12_mended_12 : decode cX12_mended 12 = .ok (.iload_n 3, 1) := by decide +kernel
theorem dX12_mended_13 : decode cX12_mended 13 = .ok (.ifCond .ne 7, 3) := by decide +kernel
theorem dX12_mended_16 : decode cX12_mended 16 = .ok (.iconst 1, 1) := by decide +kernel
theorem dX12_mended_17 : decode cX12_mended 17 = .ok (.goto 4, 3) := by decide +kernel
theorem dX12_mended_20 : decode cX12_mended 20 = .ok (.iconst 0, 1) := by decide +kernel
theorem dX12_mended_21 : decode cX12_mended 21 = .ok (.invokevirtual 97, 3) := by decide +kernel
theorem dX12_mended_24 : decode cX12_mended 24 = .ok (.aload_n 0, 1) := by decide +kernel
theorem dX12_mended_25 : decode cX12_mended 25 = .ok (.iload_n 1, 1) := by decide +kernel
theorem dX12_mended_26 : decode cX12_mended 26 = .ok (.iconst 0, 1) := by decide +kernel
theorem dX12_mended_27 : decode cX12_mended 27 = .ok (.iload_n 3, 1) := by decide +kernel
theorem dX12_mended_28 : decode cX12_mended 28 = .ok (.invokevirtual 97, 3) := by decide +kernel
theorem dX12_mended_31 : decode cX12_mended 31 = .ok (.isub, 1) := by decide +kernel
theorem dX12_mended_32 : decode cX12_mended 32 = .ok (.aload_n 0, 1) := by decide +kernel
theorem dX12_mended_33 : decode cX12_mended 33 = .ok (.getfield 13, 3) := by decide +kernel
theorem dX12_mended_36 : decode cX12_mended 36 = .ok (.bipush 81, 2) := by decide +kernel
theorem dX12_mended_38 : decode cX12_mended 38 = .ok (.iload_n 1, 1) := by decide +kernel
theorem dX12_mended_39 : decode cX12_mended 39 = .ok (.imul, 1) := by decide +kernel
theorem dX12_mended_40 : decode cX12_mended 40 = .ok (.iload_n 2, 1) := by decide +kernel
theorem dX12_mended_41 : decode cX12_mended 41 = .ok (.iadd, 1) := by decide +kernel
theorem dX12_mended_42 : decode cX12_mended 42 = .ok (.iaload, 1) := by decide +kernel
theorem dX12_mended_43 : decode cX12_mended 43 = .ok (.iadd, 1) := by decide +kernel
theorem dX12_mended_44 : decode cX12_mended 44 = .ok (.ireturn, 1) := by decide +kernel
theorem dX12_slip_0 : decode cX12_slip 0 = .ok (.aload_n 0, 1) := by decide +kernel
theorem dX12_slip_1 : decode cX12_slip 1 = .ok (.iload_n 1, 1) := by decide +kernel
theorem dX12_slip_2 : decode cX12_slip 2 = .ok (.invokevirtual 59, 3) := by decide +kernel
theorem dX12_slip_5 : decode cX12_slip 5 = .ok (.istore_n 3, 1) := by decide +kernel
theorem dX12_slip_6 : decode cX12_slip 6 = .ok (.aload_n 0, 1) := by decide +kernel
theorem dX12_slip_7 : decode cX12_slip 7 = .ok (.iload_n 3, 1) := by decide +kernel
theorem dX12_slip_8 : decode cX12_slip 8 = .ok (.ifCond .ne 7, 3) := by decide +kernel
theorem dX12_slip_11 : decode cX12_slip 11 = .ok (.iconst 1, 1) := by decide +kernel
theorem dX12_slip_12 : decode cX12_slip 12 = .ok (.goto 17, 3) := by decide +kernel
theorem dX12_slip_15 : decode cX12_slip 15 = .ok (.iload_n 2, 1) := by decide +kernel
theorem dX12_slip_16 : decode cX12_slip 16 = .ok (.iconst 0, 1) := by decide +kernel
theorem dX12_slip_17 : decode cX12_slip 17 = .ok (.iconst 2, 1) := by decide +kernel
theorem dX12_slip_18 : decode cX12_slip 18 = .ok (.invokestatic 55, 3) := by decide +kernel
theorem dX12_slip_21 : decode cX12_slip 21 = .ok (.ifCond .ne 7, 3) := by decide +kernel
theorem dX12_slip_24 : decode cX12_slip 24 = .ok (.iconst 2, 1) := by decide +kernel
theorem dX12_slip_25 : decode cX12_slip 25 = .ok (.goto 4, 3) := by decide +kernel
theorem dX12_slip_28 : decode cX12_slip 28 = .ok (.iconst 0, 1) := by decide +kernel
theorem dX12_slip_29 : decode cX12_slip 29 = .ok (.invokevirtual 63, 3) := by decide +kernel
theorem dX12_slip_32 : decode cX12_slip 32 = .ok (.ifCond .ne 5, 3) := by decide +kernel
theorem dX12_slip_35 : decode cX12_slip 35 = .ok (.iconst 0, 1) := by decide +kernel
theorem dX12_slip_36 : decode cX12_slip 36 = .ok (.ireturn, 1) := by decide +kernel
theorem dX12_slip_37 : decode cX12_slip 37 = .ok (.iconst 0, 1) := by decide +kernel
theorem dX12_slip_38 : decode cX12_slip 38 = .ok (.istore 4, 2) := by decide +kernel
theorem dX12_slip_40 : decode cX12_slip 40 = .ok (.iconst (-1), 1) := by decide +kernel
theorem dX12_slip_41 : decode cX12_slip 41 = .ok (.istore 5, 2) := by decide +kernel
theorem dX12_slip_43 : decode cX12_slip 43 = .ok (.iconst (-1), 1) := by decide +kernel
theorem dX12_slip_44 : decode cX12_slip 44 = .ok (.istore 6, 2) := by decide +kernel
theorem dX12_slip_46 : decode cX12_slip 46 = .ok (.iconst 0, 1) := by decide +kernel
theorem dX12_slip_47 : decode cX12_slip 47 = .ok (.istore 7, 2) := by decide +kernel
theorem dX12_slip_49 : decode cX12_slip 49 = .ok (.iload 7, 2) := by decide +kernel
theorem dX12_slip_51 : decode cX12_slip 51 = .ok (.aload_n 0, 1) := by decide +kernel
theorem dX12_slip_52 : decode cX12_slip 52 = .ok (.iload_n 1, 1) := by decide +kernel
theorem dX12_slip_53 : decode cX12_slip 53 = .ok (.invokevirtual 100, 3) := by decide +kernel
theorem dX12_slip_56 : decode cX12_slip 56 = .ok (.if_icmp .ge 133, 3) := by decide +kernel
theorem dX12_slip_59 : decode cX12_slip 59 = .ok (.aload_n 0, 1) := by decide +kernel
theorem dX12_slip_60 : decode cX12_slip 60 = .ok (.getfield 7, 3) := by decide +kernel
theorem dX12_slip_63 : decode cX12_slip 63 = .ok (.iload_n 1, 1) := by decide +kernel
theorem dX12_slip_64 : decode cX12_slip 64 = .ok (.iaload, 1) := by decide +kernel
theorem dX12_slip_65 : decode cX12_slip 65 = .ok (.iconst 1, 1) := by decide +kernel
theorem dX12_slip_66 : decode cX12_slip 66 = .ok (.if_icmp .ne 7, 3) := by decide +kernel
theorem dX12_slip_69 : decode cX12_slip 69 = .ok (.iconst 1, 1) := by decide +kernel
theorem dX12_slip_70 : decode cX12_slip 70 = .ok (.goto 10, 3) := by decide +kernel
theorem dX12_slip_73 : decode cX12_slip 73 = .ok (.aload_n 0, 1) := by decide +kernel
theorem dX12_slip_74 : decode cX12_slip 74 = .ok (.iload_n 1, 1) := by decide +kernel
theorem dX12_slip_75 : decode cX12_slip 75 = .ok (.iload 7, 2) := by decide +kernel
theorem dX12_slip_77 : decode cX12_slip 77 = .ok (.invokevirtual 193, 3) := by decide +kernel
theorem dX12_slip_80 : decode cX12_slip 80 = .ok (.istore 8, 2) := by decide +kernel
theorem dX12_slip_82 : decode cX12_slip 82 = .ok (.aload_n 0, 1) := by decide +kernel
theorem dX12_slip_83 : decode cX12_slip 83 = .ok (.getfield 7, 3) := by decide +kernel
theorem dX12_slip_86 : decode cX12_slip 86 = .ok (.iload_n 1, 1) := by decide +kernel
theorem dX12_slip_87 : decode cX12_slip 87 = .ok (.iaload, 1) := by decide +kernel
theorem dX12_slip_88 : decode cX12_slip 88 = .ok (.iconst 1, 1) := by decide +kernel
theorem dX12_slip_89 : decode cX12_slip 89 = .ok (.if_icmp .ne 9, 3) := by decide +kernel
theorem dX12_slip_92 : decode cX12_slip 92 = .ok (.sipush 999, 3) := by decide +kernel
theorem dX12_slip_95 : decode cX12_slip 95 = .ok (.goto 5, 3) := by decide +kernel
theorem dX12_slip_98 : decode cX12_slip 98 = .ok (.iload 8, 2) := by decide +kernel
theorem dX12_slip_100 : decode cX12_slip 100 = .ok (.istore 9, 2) := by decide +kernel
theorem dX12_slip_102 : decode cX12_slip 102 = .ok (.iload 8, 2) := by decide +kernel
theorem dX12_slip_104 : decode cX12_slip 104 = .ok (.istore 10, 2) := by decide +kernel
theorem dX12_slip_106 : decode cX12_slip 106 = .ok (.iload 10, 2) := by decide +kernel
theorem dX12_slip_108 : decode cX12_slip 108 = .ok (.iload 9, 2) := by decide +kernel
theorem dX12_slip_110 : decode cX12_slip 110 = .ok (.if_icmp .gt 73, 3) := by decide +kernel
theorem dX12_slip_113 : decode cX12_slip 113 = .ok (.aload_n 0, 1) := by decide +kernel
theorem dX12_slip_114 : decode cX12_slip 114 = .ok (.iload_n 1, 1) := by decide +kernel
theorem dX12_slip_115 : decode cX12_slip 115 = .ok (.iload 7, 2) := by decide +kernel
theorem dX12_slip_117 : decode cX12_slip 117 = .ok (.iload 10, 2) := by decide +kernel
theorem dX12_slip_119 : decode cX12_slip 119 = .ok (.invokevirtual 196, 3) := by decide +kernel
theorem dX12_slip_122 : decode cX12_slip 122 = .ok (.istore 11, 2) := by decide +kernel
theorem dX12_slip_124 : decode cX12_slip 124 = .ok (.iload 11, 2) := by decide +kernel
theorem dX12_slip_126 : decode cX12_slip 126 = .ok (.ifCond .eq 13, 3) := by decide +kernel
theorem dX12_slip_129 : decode cX12_slip 129 = .ok (.iload 4, 2) := by decide +kernel
theorem dX12_slip_131 : decode cX12_slip 131 = .ok (.ifCond .ne 8, 3) := by decide +kernel
theorem dX12_slip_134 : decode cX12_slip 134 = .ok (.iload 7, 2) := by decide +kernel
theorem dX12_slip_136 : decode cX12_slip 136 = .ok (.goto 5, 3) := by decide +kernel
theorem dX12_slip_139 : decode cX12_slip 139 = .ok (.iload 5, 2) := by decide +kernel
theorem dX12_slip_141 : decode cX12_slip 141 = .ok (.istore 5, 2) := by decide +kernel
theorem dX12_slip_143 : decode cX12_slip 143 = .ok (.iload 11, 2) := by decide +kernel
theorem dX12_slip_145 : decode cX12_slip 145 = .ok (.ifCond .eq 13, 3) := by decide +kernel
theorem dX12_slip_148 : decode cX12_slip 148 = .ok (.iload 4, 2) := by decide +kernel
theorem dX12_slip_150 : decode cX12_slip 150 = .ok (.ifCond .ne 8, 3) := by decide +kernel
theorem dX12_slip_153 : decode cX12_slip 153 = .ok (.iload 10, 2) := by decide +kernel
theorem dX12_slip_155 : decode cX12_slip 155 = .ok (.goto 5, 3) := by decide +kernel
theorem dX12_slip_158 : decode cX12_slip 158 = .ok (.iload 6, 2) := by decide +kernel
theorem dX12_slip_160 : decode cX12_slip 160 = .ok (.istore 6, 2) := by decide +kernel
theorem dX12_slip_162 : decode cX12_slip 162 = .ok (.iload 4, 2) := by decide +kernel
theorem dX12_slip_164 : decode cX12_slip 164 = .ok (.iload 11, 2) := by decide +kernel
theorem dX12_slip_166 : decode cX12_slip 166 = .ok (.ifCond .eq 7, 3) := by decide +kernel
theorem dX12_slip_169 : decode cX12_slip 169 = .ok (.iconst 1, 1) := by decide +kernel
theorem dX12_slip_170 : decode cX12_slip 170 = .ok (.goto 4, 3) := by decide +kernel
theorem dX12_slip_173 : decode cX12_slip 173 = .ok (.iconst 0, 1) := by decide +kernel
theorem dX12_slip_174 : decode cX12_slip 174 = .ok (.iadd, 1) := by decide +kernel
theorem dX12_slip_175 : decode cX12_slip 175 = .ok (.istore 4, 2) := by decide +kernel
theorem dX12_slip_177 : decode cX12_slip 177 = .ok (.iinc 10 1, 3) := by decide +kernel
theorem dX12_slip_180 : decode cX12_slip 180 = .ok (.goto (-74), 3) := by decide +kernel
theorem dX12_slip_183 : decode cX12_slip 183 = .ok (.iinc 7 1, 3) := by decide +kernel
theorem dX12_slip_186 : decode cX12_slip 186 = .ok (.goto (-137), 3) := by decide +kernel
theorem dX12_slip_189 : decode cX12_slip 189 = .ok (.iload_n 2, 1) := by decide +kernel
theorem dX12_slip_190 : decode cX12_slip 190 = .ok (.ifCond .ne 8, 3) := by decide +kernel
theorem dX12_slip_193 : decode cX12_slip 193 = .ok (.iload 4, 2) := by decide +kernel
theorem dX12_slip_195 : decode cX12_slip 195 = .ok (.goto 15, 3) := by decide +kernel
theorem dX12_slip_198 : decode cX12_slip 198 = .ok (.iload_n 2, 1) := by decide +kernel
theorem dX12_slip_199 : decode cX12_slip 199 = .ok (.iconst 1, 1) := by decide +kernel
theorem dX12_slip_200 : decode cX12_slip 200 = .ok (.if_icmp .ne 8, 3) := by decide +kernel
theorem dX12_slip_203 : decode cX12_slip 203 = .ok (.iload 5, 2) := by decide +kernel
theorem dX12_slip_205 : decode cX12_slip 205 = .ok (.goto 5, 3) := by decide +kernel
theorem dX12_slip_208 : decode cX12_slip 208 = .ok (.iload 6, 2) := by decide +kernel
theorem dX12_slip_210 : decode cX12_slip 210 = .ok (.ireturn, 1) := by decide +kernel
theorem dX12_orthogonal_0 : decode cX12_orthogonal 0 = .ok (.aload_n 0, 1) := by decide +kernel
theorem dX12_orthogonal_1 : decode cX12_orthogonal 1 = .ok (.iload_n 1, 1) := by decide +kernel
theorem dX12_orthogonal_2 : decode cX12_orthogonal 2 = .ok (.invokevirtual 59, 3) := by decide +kernel
theorem dX12_orthogonal_5 : decode cX12_orthogonal 5 = .ok (.ifCond .eq 15, 3) := by decide +kernel
theorem dX12_orthogonal_8 : decode cX12_orthogonal 8 = .ok (.aload_n 0, 1) := by decide +kernel
theorem dX12_orthogonal_9 : decode cX12_orthogonal 9 = .ok (.iload_n 2, 1) := by decide +kernel
theorem dX12_orthogonal_10 : decode cX12_orthogonal 10 = .ok (.invokevirtual 59, 3) := by decide +kernel
theorem dX12_orthogonal_13 : decode cX12_orthogonal 13 = .ok (.ifCond .eq 7, 3) := by decide +kernel
theorem dX12_orthogonal_16 : decode cX12_orthogonal 16 = .ok (.iconst 1, 1) := by decide +kernel
theorem dX12_orthogonal_17 : decode cX12_orthogonal 17 = .ok (.goto 4, 3) := by decide +kernel
theorem dX12_orthogonal_20 : decode cX12_orthogonal 20 = .ok (.iconst 0, 1) := by decide +kernel
theorem dX12_orthogonal_21 : decode cX12_orthogonal 21 = .ok (.istore_n 3, 1) := by decide +kernel
theorem dX12_orthogonal_22 : decode cX12_orthogonal 22 = .ok (.aload_n 0, 1) := by decide +kernel
theorem dX12_orthogonal_23 : decode cX12_orthogonal 23 = .ok (.iload_n 3, 1) := by decide +kernel
theorem dX12_orthogonal_24 : decode cX12_orthogonal 24 = .ok (.ifCond .ne 7, 3) := by decide +kernel
theorem dX12_orthogonal_27 : decode cX12_orthogonal 27 = .ok (.iconst 1, 1) := by decide +kernel
theorem dX12_orthogonal_28 : decode cX12_orthogonal 28 = .ok (.goto 23, 3) := by decide +kernel
theorem dX12_orthogonal_31 : decode cX12_orthogonal 31 = .ok (.aload_n 0, 1) := by decide +kernel
theorem dX12_orthogonal_32 : decode cX12_orthogonal 32 = .ok (.getfield 7, 3) := by decide +kernel
theorem dX12_orthogonal_35 : decode cX12_orthogonal 35 = .ok (.iload_n 1, 1) := by decide +kernel
theorem dX12_orthogonal_36 : decode cX12_orthogonal 36 = .ok (.iaload, 1) := by decide +kernel
theorem dX12_orthogonal_37 : decode cX12_orthogonal 37 = .ok (.aload_n 0, 1) := by decide +kernel
theorem dX12_orthogonal_38 : decode cX12_orthogonal 38 = .ok (.getfield 7, 3) := by decide +kernel
theorem dX12_orthogonal_41 : decode cX12_orthogonal 41 = .ok (.iload_n 2, 1) := by decide +kernel
theorem dX12_orthogonal_42 : decode cX12_orthogonal 42 = .ok (.iaload, 1) := by decide +kernel
theorem dX12_orthogonal_43 : decode cX12_orthogonal 43 = .ok (.if_icmp .eq 7, 3) := by decide +kernel
theorem dX12_orthogonal_46 : decode cX12_orthogonal 46 = .ok (.iconst 2, 1) := by decide +kernel
theorem dX12_orthogonal_47 : decode cX12_orthogonal 47 = .ok (.goto 4, 3) := by decide +kernel
theorem dX12_orthogonal_50 : decode cX12_orthogonal 50 = .ok (.iconst 0, 1) := by decide +kernel
theorem dX12_orthogonal_51 : decode cX12_orthogonal 51 = .ok (.invokevirtual 63, 3) := by decide +kernel
theorem dX12_orthogonal_54 : decode cX12_orthogonal 54 = .ok (.ifCond .ne 5, 3) := by decide +kernel
theorem dX12_orthogonal_57 : decode cX12_orthogonal 57 = .ok (.iconst 0, 1) := by decide +kernel
theorem dX12_orthogonal_58 : decode cX12_orthogonal 58 = .ok (.ireturn, 1) := by decide +kernel
theorem dX12_orthogonal_59 : decode cX12_orthogonal 59 = .ok (.iconst 1, 1) := by decide +kernel
theorem dX12_orthogonal_60 : decode cX12_orthogonal 60 = .ok (.istore 4, 2) := by decide +kernel
theorem dX12_orthogonal_62 : decode cX12_orthogonal 62 = .ok (.iconst 0, 1) := by decide +kernel
theorem dX12_orthogonal_63 : decode cX12_orthogonal 63 = .ok (.istore 5, 2) := by decide +kernel
theorem dX12_orthogonal_65 : decode cX12_orthogonal 65 = .ok (.iload 5, 2) := by decide +kernel
theorem dX12_orthogonal_67 : decode cX12_orthogonal 67 = .ok (.aload_n 0, 1) := by decide +kernel
theorem dX12_orthogonal_68 : decode cX12_orthogonal 68 = .ok (.iload_n 1, 1) := by decide +kernel
theorem dX12_orthogonal_69 : decode cX12_orthogonal 69 = .ok (.invokevirtual 100, 3) := by decide +kernel
theorem dX12_orthogonal_72 : decode cX12_orthogonal 72 = .ok (.if_icmp .ge 91, 3) := by decide +kernel
theorem dX12_orthogonal_75 : decode cX12_orthogonal 75 = .ok (.iconst 0, 1) := by decide +kernel
theorem dX12_orthogonal_76 : decode cX12_orthogonal 76 = .ok (.istore 6, 2) := by decide +kernel
theorem dX12_orthogonal_78 : decode cX12_orthogonal 78 = .ok (.iload 6, 2) := by decide +kernel
theorem dX12_orthogonal_80 : decode cX12_orthogonal 80 = .ok (.iload 5, 2) := by decide +kernel
theorem dX12_orthogonal_82 : decode cX12_orthogonal 82 = .ok (.if_icmp .ge 75, 3) := by decide +kernel
theorem dX12_orthogonal_85 : decode cX12_orthogonal 85 = .ok (.iload 4, 2) := by decide +kernel
theorem dX12_orthogonal_87 : decode cX12_orthogonal 87 = .ok (.ifCond .eq 61, 3) := by decide +kernel
theorem dX12_orthogonal_90 : decode cX12_orthogonal 90 = .ok (.aload_n 0, 1) := by decide +kernel
theorem dX12_orthogonal_91 : decode cX12_orthogonal 91 = .ok (.getfield 13, 3) := by decide +kernel
theorem dX12_orthogonal_94 : decode cX12_orthogonal 94 = .ok (.bipush 81, 2) := by decide +kernel
theorem dX12_orthogonal_96 : decode cX12_orthogonal 96 = .ok (.iload_n 1, 1) := by decide +kernel
theorem dX12_orthogonal_97 : decode cX12_orthogonal 97 = .ok (.imul, 1) := by decide +kernel
theorem dX12_orthogonal_98 : decode cX12_orthogonal 98 = .ok (.iload 5, 2) := by decide +kernel
theorem dX12_orthogonal_100 : decode cX12_orthogonal 100 = .ok (.iadd, 1) := by decide +kernel
theorem dX12_orthogonal_101 : decode cX12_orthogonal 101 = .ok (.iaload, 1) := by decide +kernel
theorem dX12_orthogonal_102 : decode cX12_orthogonal 102 = .ok (.aload_n 0, 1) := by decide +kernel
theorem dX12_orthogonal_103 : decode cX12_orthogonal 103 = .ok (.getfield 13, 3) := by decide +kernel
theorem dX12_orthogonal_106 : decode cX12_orthogonal 106 = .ok (.bipush 81, 2) := by decide +kernel
theorem dX12_orthogonal_108 : decode cX12_orthogonal 108 = .ok (.iload_n 1, 1) := by decide +kernel
theorem dX12_orthogonal_109 : decode cX12_orthogonal 109 = .ok (.imul, 1) := by decide +kernel
theorem dX12_orthogonal_110 : decode cX12_orthogonal 110 = .ok (.iload 6, 2) := by decide +kernel
theorem dX12_orthogonal_112 : decode cX12_orthogonal 112 = .ok (.iadd, 1) := by decide +kernel
theorem dX12_orthogonal_113 : decode cX12_orthogonal 113 = .ok (.iaload, 1) := by decide +kernel
theorem dX12_orthogonal_114 : decode cX12_orthogonal 114 = .ok (.if_icmp .ne 30, 3) := by decide +kernel
theorem dX12_orthogonal_117 : decode cX12_orthogonal 117 = .ok (.aload_n 0, 1) := by decide +kernel
theorem dX12_orthogonal_118 : decode cX12_orthogonal 118 = .ok (.getfield 13, 3) := by decide +kernel
theorem dX12_orthogonal_121 : decode cX12_orthogonal 121 = .ok (.bipush 81, 2) := by decide +kernel
theorem dX12_orthogonal_123 : decode cX12_orthogonal 123 = .ok (.iload_n 2, 1) := by decide +kernel
theorem dX12_orthogonal_124 : decode cX12_orthogonal 124 = .ok (.imul, 1) := by decide +kernel
theorem dX12_orthogonal_125 : decode cX12_orthogonal 125 = .ok (.iload 5, 2) := by decide +kernel
theorem dX12_orthogonal_127 : decode cX12_orthogonal 127 = .ok (.iadd, 1) := by decide +kernel
theorem dX12_orthogonal_128 : decode cX12_orthogonal 128 = .ok (.iaload, 1) := by decide +kernel
theorem dX12_orthogonal_129 : decode cX12_orthogonal 129 = .ok (.aload_n 0, 1) := by decide +kernel
theorem dX12_orthogonal_130 : decode cX12_orthogonal 130 = .ok (.getfield 13, 3) := by decide +kernel
theorem dX12_orthogonal_133 : decode cX12_orthogonal 133 = .ok (.bipush 81, 2) := by decide +kernel
theorem dX12_orthogonal_135 : decode cX12_orthogonal 135 = .ok (.iload_n 2, 1) := by decide +kernel
theorem dX12_orthogonal_136 : decode cX12_orthogonal 136 = .ok (.imul, 1) := by decide +kernel
theorem dX12_orthogonal_137 : decode cX12_orthogonal 137 = .ok (.iload 6, 2) := by decide +kernel
theorem dX12_orthogonal_139 : decode cX12_orthogonal 139 = .ok (.iadd, 1) := by decide +kernel
theorem dX12_orthogonal_140 : decode cX12_orthogonal 140 = .ok (.iaload, 1) := by decide +kernel
theorem dX12_orthogonal_141 : decode cX12_orthogonal 141 = .ok (.if_icmp .eq 7, 3) := by decide +kernel
theorem dX12_orthogonal_144 : decode cX12_orthogonal 144 = .ok (.iconst 1, 1) := by decide +kernel
theorem dX12_orthogonal_145 : decode cX12_orthogonal 145 = .ok (.goto 4, 3) := by decide +kernel
theorem dX12_orthogonal_148 : decode cX12_orthogonal 148 = .ok (.iconst 0, 1) := by decide +kernel
theorem dX12_orthogonal_149 : decode cX12_orthogonal 149 = .ok (.istore 4, 2) := by decide +kernel
theorem dX12_orthogonal_151 : decode cX12_orthogonal 151 = .ok (.iinc 6 1, 3) := by decide +kernel
theorem dX12_orthogonal_154 : decode cX12_orthogonal 154 = .ok (.goto (-76), 3) := by decide +kernel
theorem dX12_orthogonal_157 : decode cX12_orthogonal 157 = .ok (.iinc 5 1, 3) := by decide +kernel
theorem dX12_orthogonal_160 : decode cX12_orthogonal 160 = .ok (.goto (-95), 3) := by decide +kernel
theorem dX12_orthogonal_163 : decode cX12_orthogonal 163 = .ok (.iload 4, 2) := by decide +kernel
theorem dX12_orthogonal_165 : decode cX12_orthogonal 165 = .ok (.ireturn, 1) := by decide +kernel
theorem dX12_isWithin_0 : decode cX12_isWithin 0 = .ok (.iconst 1, 1) := by decide +kernel
theorem dX12_isWithin_1 : decode cX12_isWithin 1 = .ok (.istore_n 3, 1) := by decide +kernel
theorem dX12_isWithin_2 : decode cX12_isWithin 2 = .ok (.iconst 0, 1) := by decide +kernel
theorem dX12_isWithin_3 : decode cX12_isWithin 3 = .ok (.istore 4, 2) := by decide +kernel
theorem dX12_isWithin_5 : decode cX12_isWithin 5 = .ok (.iload 4, 2) := by decide +kernel
theorem dX12_isWithin_7 : decode cX12_isWithin 7 = .ok (.aload_n 0, 1) := by decide +kernel
theorem dX12_isWithin_8 : decode cX12_isWithin 8 = .ok (.iload_n 1, 1) := by decide +kernel
theorem dX12_isWithin_9 : decode cX12_isWithin 9 = .ok (.invokevirtual 100, 3) := by decide +kernel
theorem dX12_isWithin_12 : decode cX12_isWithin 12 = .ok (.if_icmp .ge 39, 3) := by decide +kernel
theorem dX12_isWithin_15 : decode cX12_isWithin 15 = .ok (.iload_n 3, 1) := by decide +kernel
theorem dX12_isWithin_16 : decode cX12_isWithin 16 = .ok (.ifCond .eq 27, 3) := by decide +kernel
theorem dX12_isWithin_19 : decode cX12_isWithin 19 = .ok (.aload_n 0, 1) := by decide +kernel
theorem dX12_isWithin_20 : decode cX12_isWithin 20 = .ok (.getfield 13, 3) := by decide +kernel
theorem dX12_isWithin_23 : decode cX12_isWithin 23 = .ok (.bipush 81, 2) := by decide +kernel
theorem dX12_isWithin_25 : decode cX12_isWithin 25 = .ok (.iload_n 1, 1) := by decide +kernel
theorem dX12_isWithin_26 : decode cX12_isWithin 26 = .ok (.imul, 1) := by decide +kernel
theorem dX12_isWithin_27 : decode cX12_isWithin 27 = .ok (.iload 4, 2) := by decide +kernel
theorem dX12_isWithin_29 : decode cX12_isWithin 29 = .ok (.iadd, 1) := by decide +kernel
theorem dX12_isWithin_30 : decode cX12_isWithin 30 = .ok (.iaload, 1) := by decide +kernel
theorem dX12_isWithin_31 : decode cX12_isWithin 31 = .ok (.iconst 1, 1) := by decide +kernel
theorem dX12_isWithin_32 : decode cX12_isWithin 32 = .ok (.iload_n 2, 1) := by decide +kernel
theorem dX12_isWithin_33 : decode cX12_isWithin 33 = .ok (.invokestatic 55, 3) := by decide +kernel
theorem dX12_isWithin_36 : decode cX12_isWithin 36 = .ok (.ifCond .eq 7, 3) := by decide +kernel
theorem dX12_isWithin_39 : decode cX12_isWithin 39 = .ok (.iconst 1, 1) := by decide +kernel
theorem dX12_isWithin_40 : decode cX12_isWithin 40 = .ok (.goto 4, 3) := by decide +kernel
theorem dX12_isWithin_43 : decode cX12_isWithin 43 = .ok (.iconst 0, 1) := by decide +kernel
theorem dX12_isWithin_44 : decode cX12_isWithin 44 = .ok (.istore_n 3, 1) := by decide +kernel
theorem dX12_isWithin_45 : decode cX12_isWithin 45 = .ok (.iinc 4 1, 3) := by decide +kernel
theorem dX12_isWithin_48 : decode cX12_isWithin 48 = .ok (.goto (-43), 3) := by decide +kernel
theorem dX12_isWithin_51 : decode cX12_isWithin 51 = .ok (.iload_n 3, 1) := by decide +kernel
theorem dX12_isWithin_52 : decode cX12_isWithin 52 = .ok (.ireturn, 1) := by decide +kernel
theorem dX12_stack_0 : decode cX12_stack 0 = .ok (.aload_n 0, 1) := by decide +kernel
theorem dX12_stack_1 : decode cX12_stack 1 = .ok (.iload_n 1, 1) := by decide +kernel
theorem dX12_stack_2 : decode cX12_stack 2 = .ok (.invokevirtual 59, 3) := by decide +kernel
theorem dX12_stack_5 : decode cX12_stack 5 = .ok (.ifCond .eq 15, 3) := by decide +kernel
theorem dX12_stack_8 : decode cX12_stack 8 = .ok (.aload_n 0, 1) := by decide +kernel
theorem dX12_stack_9 : decode cX12_stack 9 = .ok (.iload_n 2, 1) := by decide +kernel
theorem dX12_stack_10 : decode cX12_stack 10 = .ok (.invokevirtual 59, 3) := by decide +kernel
theorem dX12_stack_13 : decode cX12_stack 13 = .ok (.ifCond .eq 7, 3) := by decide +kernel
theorem dX12_stack_16 : decode cX12_stack 16 = .ok (.iconst 1, 1) := by decide +kernel
theorem dX12_stack_17 : decode cX12_stack 17 = .ok (.goto 4, 3) := by decide +kernel
theorem dX12_stack_20 : decode cX12_stack 20 = .ok (.iconst 0, 1) := by decide +kernel
theorem dX12_stack_21 : decode cX12_stack 21 = .ok (.istore_n 3, 1) := by decide +kernel
theorem dX12_stack_22 : decode cX12_stack 22 = .ok (.iload_n 3, 1) := by decide +kernel
theorem dX12_stack_23 : decode cX12_stack 23 = .ok (.ifCond .eq 50, 3) := by decide +kernel
theorem dX12_stack_26 : decode cX12_stack 26 = .ok (.aload_n 0, 1) := by decide +kernel
theorem dX12_stack_27 : decode cX12_stack 27 = .ok (.getfield 7, 3) := by decide +kernel
theorem dX12_stack_30 : decode cX12_stack 30 = .ok (.iload_n 1, 1) := by decide +kernel
theorem dX12_stack_31 : decode cX12_stack 31 = .ok (.iaload, 1) := by decide +kernel
theorem dX12_stack_32 : decode cX12_stack 32 = .ok (.aload_n 0, 1) := by decide +kernel
theorem dX12_stack_33 : decode cX12_stack 33 = .ok (.getfield 7, 3) := by decide +kernel
theorem dX12_stack_36 : decode cX12_stack 36 = .ok (.iload_n 2, 1) := by decide +kernel
theorem dX12_stack_37 : decode cX12_stack 37 = .ok (.iaload, 1) := by decide +kernel
theorem dX12_stack_38 : decode cX12_stack 38 = .ok (.if_icmp .ne 35, 3) := by decide +kernel
theorem dX12_stack_41 : decode cX12_stack 41 = .ok (.aload_n 0, 1) := by decide +kernel
theorem dX12_stack_42 : decode cX12_stack 42 = .ok (.iload_n 1, 1) := by decide +kernel
theorem dX12_stack_43 : decode cX12_stack 43 = .ok (.aload_n 0, 1) := by decide +kernel
theorem dX12_stack_44 : decode cX12_stack 44 = .ok (.getfield 7, 3) := by decide +kernel
theorem dX12_stack_47 : decode cX12_stack 47 = .ok (.iload_n 1, 1) := by decide +kernel
theorem dX12_stack_48 : decode cX12_stack 48 = .ok (.iaload, 1) := by decide +kernel
theorem dX12_stack_49 : decode cX12_stack 49 = .ok (.invokevirtual 199, 3) := by decide +kernel
theorem dX12_stack_52 : decode cX12_stack 52 = .ok (.ifCond .eq 21, 3) := by decide +kernel
theorem dX12_stack_55 : decode cX12_stack 55 = .ok (.aload_n 0, 1) := by decide +kernel
theorem dX12_stack_56 : decode cX12_stack 56 = .ok (.iload_n 2, 1) := by decide +kernel
theorem dX12_stack_57 : decode cX12_stack 57 = .ok (.aload_n 0, 1) := by decide +kernel
theorem dX12_stack_58 : decode cX12_stack 58 = .ok (.getfield 7, 3) := by decide +kernel
theorem dX12_stack_61 : decode cX12_stack 61 = .ok (.iload_n 1, 1) := by decide +kernel
theorem dX12_stack_62 : decode cX12_stack 62 = .ok (.iaload, 1) := by decide +kernel
theorem dX12_stack_63 : decode cX12_stack 63 = .ok (.invokevirtual 199, 3) := by decide +kernel
theorem dX12_stack_66 : decode cX12_stack 66 = .ok (.ifCond .eq 7, 3) := by decide +kernel
theorem dX12_stack_69 : decode cX12_stack 69 = .ok (.iconst 1, 1) := by decide +kernel
theorem dX12_stack_70 : decode cX12_stack 70 = .ok (.goto 4, 3) := by decide +kernel
theorem dX12_stack_73 : decode cX12_stack 73 = .ok (.iconst 0, 1) := by decide +kernel
theorem dX12_stack_74 : decode cX12_stack 74 = .ok (.istore 4, 2) := by decide +kernel
theorem dX12_stack_76 : decode cX12_stack 76 = .ok (.aload_n 0, 1) := by decide +kernel
theorem dX12_stack_77 : decode cX12_stack 77 = .ok (.iload_n 3, 1) := by decide +kernel
theorem dX12_stack_78 : decode cX12_stack 78 = .ok (.ifCond .ne 7, 3) := by decide +kernel
theorem dX12_stack_81 : decode cX12_stack 81 = .ok (.iconst 1, 1) := by decide +kernel
theorem dX12_stack_82 : decode cX12_stack 82 = .ok (.goto 22, 3) := by decide +kernel
theorem dX12_stack_85 : decode cX12_stack 85 = .ok (.iload 4, 2) := by decide +kernel
theorem dX12_stack_87 : decode cX12_stack 87 = .ok (.ifCond .eq 12, 3) := by decide +kernel
theorem dX12_stack_90 : decode cX12_stack 90 = .ok (.aload_n 0, 1) := by decide +kernel
theorem dX12_stack_91 : decode cX12_stack 91 = .ok (.getfield 52, 3) := by decide +kernel
theorem dX12_stack_94 : decode cX12_stack 94 = .ok (.bipush 8, 2) := by decide +kernel
theorem dX12_stack_96 : decode cX12_stack 96 = .ok (.if_icmp .ne 7, 3) := by decide +kernel
theorem dX12_stack_99 : decode cX12_stack 99 = .ok (.iconst 2, 1) := by decide +kernel
theorem dX12_stack_100 : decode cX12_stack 100 = .ok (.goto 4, 3) := by decide +kernel
theorem dX12_stack_103 : decode cX12_stack 103 = .ok (.iconst 0, 1) := by decide +kernel
theorem dX12_stack_104 : decode cX12_stack 104 = .ok (.invokevirtual 63, 3) := by decide +kernel
theorem dX12_stack_107 : decode cX12_stack 107 = .ok (.ifCond .ne 5, 3) := by decide +kernel
theorem dX12_stack_110 : decode cX12_stack 110 = .ok (.iconst 0, 1) := by decide +kernel
theorem dX12_stack_111 : decode cX12_stack 111 = .ok (.ireturn, 1) := by decide +kernel
theorem dX12_stack_112 : decode cX12_stack 112 = .ok (.aload_n 0, 1) := by decide +kernel
theorem dX12_stack_113 : decode cX12_stack 113 = .ok (.invokevirtual 66, 3) := by decide +kernel
theorem dX12_stack_116 : decode cX12_stack 116 = .ok (.iconst 0, 1) := by decide +kernel
theorem dX12_stack_117 : decode cX12_stack 117 = .ok (.istore 5, 2) := by decide +kernel
theorem dX12_stack_119 : decode cX12_stack 119 = .ok (.iload 5, 2) := by decide +kernel
theorem dX12_stack_121 : decode cX12_stack 121 = .ok (.aload_n 0, 1) := by decide +kernel
theorem dX12_stack_122 : decode cX12_stack 122 = .ok (.iload_n 1, 1) := by decide +kernel
theorem dX12_stack_123 : decode cX12_stack 123 = .ok (.invokevirtual 100, 3) := by decide +kernel
theorem dX12_stack_126 : decode cX12_stack 126 = .ok (.if_icmp .ge 50, 3) := by decide +kernel
theorem dX12_stack_129 : decode cX12_stack 129 = .ok (.aload_n 0, 1) := by decide +kernel
theorem dX12_stack_130 : decode cX12_stack 130 = .ok (.getfield 16, 3) := by decide +kernel
theorem dX12_stack_133 : decode cX12_stack 133 = .ok (.iload 5, 2) := by decide +kernel
theorem dX12_stack_135 : decode cX12_stack 135 = .ok (.aload_n 0, 1) := by decide +kernel
theorem dX12_stack_136 : decode cX12_stack 136 = .ok (.getfield 7, 3) := by decide +kernel
theorem dX12_stack_139 : decode cX12_stack 139 = .ok (.iload_n 1, 1) := by decide +kernel
theorem dX12_stack_140 : decode cX12_stack 140 = .ok (.iaload, 1) := by decide +kernel
theorem dX12_stack_141 : decode cX12_stack 141 = .ok (.aload_n 0, 1) := by decide +kernel
theorem dX12_stack_142 : decode cX12_stack 142 = .ok (.getfield 13, 3) := by decide +kernel
theorem dX12_stack_145 : decode cX12_stack 145 = .ok (.bipush 81, 2) := by decide +kernel
theorem dX12_stack_147 : decode cX12_stack 147 = .ok (.iload_n 1, 1) := by decide +kernel
theorem dX12_stack_148 : decode cX12_stack 148 = .ok (.imul, 1) := by decide +kernel
theorem dX12_stack_149 : decode cX12_stack 149 = .ok (.iload 5, 2) := by decide +kernel
theorem dX12_stack_151 : decode cX12_stack 151 = .ok (.iadd, 1) := by decide +kernel
theorem dX12_stack_152 : decode cX12_stack 152 = .ok (.iaload, 1) := by decide +kernel
theorem dX12_stack_153 : decode cX12_stack 153 = .ok (.iconst 1, 1) := by decide +kernel
theorem dX12_stack_154 : decode cX12_stack 154 = .ok (.isub, 1) := by decide +kernel
theorem dX12_stack_155 : decode cX12_stack 155 = .ok (.imul, 1) := by decide +kernel
theorem dX12_stack_156 : decode cX12_stack 156 = .ok (.aload_n 0, 1) := by decide +kernel
theorem dX12_stack_157 : decode cX12_stack 157 = .ok (.getfield 13, 3) := by decide +kernel
theorem dX12_stack_160 : decode cX12_stack 160 = .ok (.bipush 81, 2) := by decide +kernel
theorem dX12_stack_162 : decode cX12_stack 162 = .ok (.iload_n 2, 1) := by decide +kernel
theorem dX12_stack_163 : decode cX12_stack 163 = .ok (.imul, 1) := by decide +kernel
theorem dX12_stack_164 : decode cX12_stack 164 = .ok (.iload 5, 2) := by decide +kernel
theorem dX12_stack_166 : decode cX12_stack 166 = .ok (.iadd, 1) := by decide +kernel
theorem dX12_stack_167 : decode cX12_stack 167 = .ok (.iaload, 1) := by decide +kernel
theorem dX12_stack_168 : decode cX12_stack 168 = .ok (.iadd, 1) := by decide +kernel
theorem dX12_stack_169 : decode cX12_stack 169 = .ok (.iastore, 1) := by decide +kernel
theorem dX12_stack_170 : decode cX12_stack 170 = .ok (.iinc 5 1, 3) := by decide +kernel
theorem dX12_stack_173 : decode cX12_stack 173 = .ok (.goto (-54), 3) := by decide +kernel
theorem dX12_stack_176 : decode cX12_stack 176 = .ok (.aload_n 0, 1) := by decide +kernel
theorem dX12_stack_177 : decode cX12_stack 177 = .ok (.aload_n 0, 1) := by decide +kernel
theorem dX12_stack_178 : decode cX12_stack 178 = .ok (.getfield 7, 3) := by decide +kernel
theorem dX12_stack_181 : decode cX12_stack 181 = .ok (.iload_n 1, 1) := by decide +kernel
theorem dX12_stack_182 : decode cX12_stack 182 = .ok (.iaload, 1) := by decide +kernel
theorem dX12_stack_183 : decode cX12_stack 183 = .ok (.invokevirtual 69, 3) := by decide +kernel
theorem dX12_stack_186 : decode cX12_stack 186 = .ok (.ireturn, 1) := by decide +kernel
theorem dX12_greatest_0 : decode cX12_greatest 0 = .ok (.iconst 0, 1) := by decide +kernel
theorem dX12_greatest_1 : decode cX12_greatest 1 = .ok (.istore_n 2, 1) := by decide +kernel
theorem dX12_greatest_2 : decode cX12_greatest 2 = .ok (.iconst 0, 1) := by decide +kernel
theorem dX12_greatest_3 : decode cX12_greatest 3 = .ok (.istore_n 3, 1) := by decide +kernel
theorem dX12_greatest_4 : decode cX12_greatest 4 = .ok (.iload_n 3, 1) := by decide +kernel
theorem dX12_greatest_5 : decode cX12_greatest 5 = .ok (.aload_n 0, 1) := by decide +kernel
theorem dX12_greatest_6 : decode cX12_greatest 6 = .ok (.iload_n 1, 1) := by decide +kernel
theorem dX12_greatest_7 : decode cX12_greatest 7 = .ok (.invokevirtual 100, 3) := by decide +kernel
theorem dX12_greatest_10 : decode cX12_greatest 10 = .ok (.if_icmp .ge 40, 3) := by decide +kernel
theorem dX12_greatest_13 : decode cX12_greatest 13 = .ok (.aload_n 0, 1) := by decide +kernel
theorem dX12_greatest_14 : decode cX12_greatest 14 = .ok (.getfield 13, 3) := by decide +kernel
theorem dX12_greatest_17 : decode cX12_greatest 17 = .ok (.bipush 81, 2) := by decide +kernel
theorem dX12_greatest_19 : decode cX12_greatest 19 = .ok (.iload_n 1, 1) := by decide +kernel
theorem dX12_greatest_20 : decode cX12_greatest 20 = .ok (.imul, 1) := by decide +kernel
theorem dX12_greatest_21 : decode cX12_greatest 21 = .ok (.iload_n 3, 1) := by decide +kernel
theorem dX12_greatest_22 : decode cX12_greatest 22 = .ok (.iadd, 1) := by decide +kernel
theorem dX12_greatest_23 : decode cX12_greatest 23 = .ok (.iaload, 1) := by decide +kernel
theorem dX12_greatest_24 : decode cX12_greatest 24 = .ok (.iload_n 2, 1) := by decide +kernel
theorem dX12_greatest_25 : decode cX12_greatest 25 = .ok (.if_icmp .le 17, 3) := by decide +kernel
theorem dX12_greatest_28 : decode cX12_greatest 28 = .ok (.aload_n 0, 1) := by decide +kernel
theorem dX12_greatest_29 : decode cX12_greatest 29 = .ok (.getfield 13, 3) := by decide +kernel
theorem dX12_greatest_32 : decode cX12_greatest 32 = .ok (.bipush 81, 2) := by decide +kernel
theorem dX12_greatest_34 : decode cX12_greatest 34 = .ok (.iload_n 1, 1) := by decide +kernel
theorem dX12_greatest_35 : decode cX12_greatest 35 = .ok (.imul, 1) := by decide +kernel
theorem dX12_greatest_36 : decode cX12_greatest 36 = .ok (.iload_n 3, 1) := by decide +kernel
theorem dX12_greatest_37 : decode cX12_greatest 37 = .ok (.iadd, 1) := by decide +kernel
theorem dX12_greatest_38 : decode cX12_greatest 38 = .ok (.iaload, 1) := by decide +kernel
theorem dX12_greatest_39 : decode cX12_greatest 39 = .ok (.goto 4, 3) := by decide +kernel
theorem dX12_greatest_42 : decode cX12_greatest 42 = .ok (.iload_n 2, 1) := by decide +kernel
theorem dX12_greatest_43 : decode cX12_greatest 43 = .ok (.istore_n 2, 1) := by decide +kernel
theorem dX12_greatest_44 : decode cX12_greatest 44 = .ok (.iinc 3 1, 3) := by decide +kernel
theorem dX12_greatest_47 : decode cX12_greatest 47 = .ok (.goto (-43), 3) := by decide +kernel
theorem dX12_greatest_50 : decode cX12_greatest 50 = .ok (.iload_n 2, 1) := by decide +kernel
theorem dX12_greatest_51 : decode cX12_greatest 51 = .ok (.ireturn, 1) := by decide +kernel
theorem dX12_product_0 : decode cX12_product 0 = .ok (.aload_n 0, 1) := by decide +kernel
theorem dX12_product_1 : decode cX12_product 1 = .ok (.iload_n 1, 1) := by decide +kernel
theorem dX12_product_2 : decode cX12_product 2 = .ok (.invokevirtual 59, 3) := by decide +kernel
theorem dX12_product_5 : decode cX12_product 5 = .ok (.ifCond .eq 15, 3) := by decide +kernel
theorem dX12_product_8 : decode cX12_product 8 = .ok (.aload_n 0, 1) := by decide +kernel
theorem dX12_product_9 : decode cX12_product 9 = .ok (.iload_n 2, 1) := by decide +kernel
theorem dX12_product_10 : decode cX12_product 10 = .ok (.invokevirtual 59, 3) := by decide +kernel
theorem dX12_product_13 : decode cX12_product 13 = .ok (.ifCond .eq 7, 3) := by decide +kernel
theorem dX12_product_16 : decode cX12_product 16 = .ok (.iconst 1, 1) := by decide +kernel
theorem dX12_product_17 : decode cX12_product 17 = .ok (.goto 4, 3) := by decide +kernel
theorem dX12_product_20 : decode cX12_product 20 = .ok (.iconst 0, 1) := by decide +kernel
theorem dX12_product_21 : decode cX12_product 21 = .ok (.istore_n 3, 1) := by decide +kernel
theorem dX12_product_22 : decode cX12_product 22 = .ok (.iload_n 3, 1) := by decide +kernel
theorem dX12_product_23 : decode cX12_product 23 = .ok (.ifCond .eq 47, 3) := by decide +kernel
theorem dX12_product_26 : decode cX12_product 26 = .ok (.aload_n 0, 1) := by decide +kernel
theorem dX12_product_27 : decode cX12_product 27 = .ok (.getfield 7, 3) := by decide +kernel
theorem dX12_product_30 : decode cX12_product 30 = .ok (.iload_n 1, 1) := by decide +kernel
theorem dX12_product_31 : decode cX12_product 31 = .ok (.iaload, 1) := by decide +kernel
theorem dX12_product_32 : decode cX12_product 32 = .ok (.aload_n 0, 1) := by decide +kernel
theorem dX12_product_33 : decode cX12_product 33 = .ok (.getfield 7, 3) := by decide +kernel
theorem dX12_product_36 : decode cX12_product 36 = .ok (.iload_n 2, 1) := by decide +kernel
theorem dX12_product_37 : decode cX12_product 37 = .ok (.iaload, 1) := by decide +kernel
theorem dX12_product_38 : decode cX12_product 38 = .ok (.imul, 1) := by decide +kernel
theorem dX12_product_39 : decode cX12_product 39 = .ok (.bipush 9, 2) := by decide +kernel
theorem dX12_product_41 : decode cX12_product 41 = .ok (.if_icmp .gt 29, 3) := by decide +kernel
theorem dX12_product_44 : decode cX12_product 44 = .ok (.aload_n 0, 1) := by decide +kernel
theorem dX12_product_45 : decode cX12_product 45 = .ok (.iload_n 1, 1) := by decide +kernel
theorem dX12_product_46 : decode cX12_product 46 = .ok (.sipush 999, 3) := by decide +kernel
theorem dX12_product_49 : decode cX12_product 49 = .ok (.invokevirtual 199, 3) := by decide +kernel
theorem dX12_product_52 : decode cX12_product 52 = .ok (.ifCond .eq 18, 3) := by decide +kernel
theorem dX12_product_55 : decode cX12_product 55 = .ok (.aload_n 0, 1) := by decide +kernel
theorem dX12_product_56 : decode cX12_product 56 = .ok (.iload_n 2, 1) := by decide +kernel
theorem dX12_product_57 : decode cX12_product 57 = .ok (.sipush 999, 3) := by decide +kernel
theorem dX12_product_60 : decode cX12_product 60 = .ok (.invokevirtual 199, 3) := by decide +kernel
theorem dX12_product_63 : decode cX12_product 63 = .ok (.ifCond .eq 7, 3) := by decide +kernel
theorem dX12_product_66 : decode cX12_product 66 = .ok (.iconst 1, 1) := by decide +kernel
theorem dX12_product_67 : decode cX12_product 67 = .ok (.goto 4, 3) := by decide +kernel
theorem dX12_product_70 : decode cX12_product 70 = .ok (.iconst 0, 1) := by decide +kernel
theorem dX12_product_71 : decode cX12_product 71 = .ok (.istore 4, 2) := by decide +kernel
theorem dX12_product_73 : decode cX12_product 73 = .ok (.iload 4, 2) := by decide +kernel
theorem dX12_product_75 : decode cX12_product 75 = .ok (.ifCond .eq 32, 3) := by decide +kernel
theorem dX12_product_78 : decode cX12_product 78 = .ok (.aload_n 0, 1) := by decide +kernel
theorem dX12_product_79 : decode cX12_product 79 = .ok (.iload_n 2, 1) := by decide +kernel
theorem dX12_product_80 : decode cX12_product 80 = .ok (.invokevirtual 100, 3) := by decide +kernel
theorem dX12_product_83 : decode cX12_product 83 = .ok (.aload_n 0, 1) := by decide +kernel
theorem dX12_product_84 : decode cX12_product 84 = .ok (.iload_n 1, 1) := by decide +kernel
theorem dX12_product_85 : decode cX12_product 85 = .ok (.invokevirtual 202, 3) := by decide +kernel
theorem dX12_product_88 : decode cX12_product 88 = .ok (.iconst 1, 1) := by decide +kernel
theorem dX12_product_89 : decode cX12_product 89 = .ok (.isub, 1) := by decide +kernel
theorem dX12_product_90 : decode cX12_product 90 = .ok (.imul, 1) := by decide +kernel
theorem dX12_product_91 : decode cX12_product 91 = .ok (.aload_n 0, 1) := by decide +kernel
theorem dX12_product_92 : decode cX12_product 92 = .ok (.iload_n 2, 1) := by decide +kernel
theorem dX12_product_93 : decode cX12_product 93 = .ok (.invokevirtual 202, 3) := by decide +kernel
theorem dX12_product_96 : decode cX12_product 96 = .ok (.iadd, 1) := by decide +kernel
theorem dX12_product_97 : decode cX12_product 97 = .ok (.sipush 999, 3) := by decide +kernel
theorem dX12_product_100 : decode cX12_product 100 = .ok (.if_icmp .gt 7, 3) := by decide +kernel
theorem dX12_product_103 : decode cX12_product 103 = .ok (.iconst 1, 1) := by decide +kernel
theorem dX12_product_104 : decode cX12_product 104 = .ok (.goto 4, 3) := by decide +kernel
theorem dX12_product_107 : decode cX12_product 107 = .ok (.iconst 0, 1) := by decide +kernel
theorem dX12_product_108 : decode cX12_product 108 = .ok (.istore 4, 2) := by decide +kernel
theorem dX12_product_110 : decode cX12_product 110 = .ok (.aload_n 0, 1) := by decide +kernel
theorem dX12_product_111 : decode cX12_product 111 = .ok (.iload_n 3, 1) := by decide +kernel
theorem dX12_product_112 : decode cX12_product 112 = .ok (.ifCond .ne 7, 3) := by decide +kernel
theorem dX12_product_115 : decode cX12_product 115 = .ok (.iconst 1, 1) := by decide +kernel
theorem dX12_product_116 : decode cX12_product 116 = .ok (.goto 22, 3) := by decide +kernel
theorem dX12_product_119 : decode cX12_product 119 = .ok (.iload 4, 2) := by decide +kernel
theorem dX12_product_121 : decode cX12_product 121 = .ok (.ifCond .eq 12, 3) := by decide +kernel
theorem dX12_product_124 : decode cX12_product 124 = .ok (.aload_n 0, 1) := by decide +kernel
theorem dX12_product_125 : decode cX12_product 125 = .ok (.getfield 52, 3) := by decide +kernel
theorem dX12_product_128 : decode cX12_product 128 = .ok (.bipush 8, 2) := by decide +kernel
theorem dX12_product_130 : decode cX12_product 130 = .ok (.if_icmp .ne 7, 3) := by decide +kernel
theorem dX12_product_133 : decode cX12_product 133 = .ok (.iconst 2, 1) := by decide +kernel
theorem dX12_product_134 : decode cX12_product 134 = .ok (.goto 4, 3) := by decide +kernel
theorem dX12_product_137 : decode cX12_product 137 = .ok (.iconst 0, 1) := by decide +kernel
theorem dX12_product_138 : decode cX12_product 138 = .ok (.invokevirtual 63, 3) := by decide +kernel
theorem dX12_product_141 : decode cX12_product 141 = .ok (.ifCond .ne 5, 3) := by decide +kernel
theorem dX12_product_144 : decode cX12_product 144 = .ok (.iconst 0, 1) := by decide +kernel
theorem dX12_product_145 : decode cX12_product 145 = .ok (.ireturn, 1) := by decide +kernel
theorem dX12_product_146 : decode cX12_product 146 = .ok (.aload_n 0, 1) := by decide +kernel
theorem dX12_product_147 : decode cX12_product 147 = .ok (.getfield 7, 3) := by decide +kernel
theorem dX12_product_150 : decode cX12_product 150 = .ok (.iload_n 2, 1) := by decide +kernel
theorem dX12_product_151 : decode cX12_product 151 = .ok (.iaload, 1) := by decide +kernel
theorem dX12_product_152 : decode cX12_product 152 = .ok (.istore 5, 2) := by decide +kernel
theorem dX12_product_154 : decode cX12_product 154 = .ok (.aload_n 0, 1) := by decide +kernel
theorem dX12_product_155 : decode cX12_product 155 = .ok (.getfield 7, 3) := by decide +kernel
theorem dX12_product_158 : decode cX12_product 158 = .ok (.iload_n 1, 1) := by decide +kernel
theorem dX12_product_159 : decode cX12_product 159 = .ok (.iaload, 1) := by decide +kernel
theorem dX12_product_160 : decode cX12_product 160 = .ok (.iload 5, 2) := by decide +kernel
theorem dX12_product_162 : decode cX12_product 162 = .ok (.imul, 1) := by decide +kernel
theorem dX12_product_163 : decode cX12_product 163 = .ok (.istore 6, 2) := by decide +kernel
theorem dX12_product_165 : decode cX12_product 165 = .ok (.aload_n 0, 1) := by decide +kernel
theorem dX12_product_166 : decode cX12_product 166 = .ok (.invokevirtual 66, 3) := by decide +kernel
theorem dX12_product_169 : decode cX12_product 169 = .ok (.iconst 0, 1) := by decide +kernel
theorem dX12_product_170 : decode cX12_product 170 = .ok (.istore 7, 2) := by decide +kernel
theorem dX12_product_172 : decode cX12_product 172 = .ok (.iload 7, 2) := by decide +kernel
theorem dX12_product_174 : decode cX12_product 174 = .ok (.iload 6, 2) := by decide +kernel
theorem dX12_product_176 : decode cX12_product 176 = .ok (.iload 6, 2) := by decide +kernel
theorem dX12_product_178 : decode cX12_product 178 = .ok (.imul, 1) := by decide +kernel
theorem dX12_product_179 : decode cX12_product 179 = .ok (.if_icmp .ge 69, 3) := by decide +kernel
theorem dX12_product_182 : decode cX12_product 182 = .ok (.iload 7, 2) := by decide +kernel
theorem dX12_product_184 : decode cX12_product 184 = .ok (.iload 6, 2) := by decide +kernel
theorem dX12_product_186 : decode cX12_product 186 = .ok (.idiv, 1) := by decide +kernel
theorem dX12_product_187 : decode cX12_product 187 = .ok (.istore 8, 2) := by decide +kernel
theorem dX12_product_189 : decode cX12_product 189 = .ok (.iload 7, 2) := by decide +kernel
theorem dX12_product_191 : decode cX12_product 191 = .ok (.iload 6, 2) := by decide +kernel
theorem dX12_product_193 : decode cX12_product 193 = .ok (.irem, 1) := by decide +kernel
theorem dX12_product_194 : decode cX12_product 194 = .ok (.istore 9, 2) := by decide +kernel
theorem dX12_product_196 : decode cX12_product 196 = .ok (.aload_n 0, 1) := by decide +kernel
theorem dX12_product_197 : decode cX12_product 197 = .ok (.getfield 16, 3) := by decide +kernel
theorem dX12_product_200 : decode cX12_product 200 = .ok (.iload 7, 2) := by decide +kernel
theorem dX12_product_202 : decode cX12_product 202 = .ok (.iload 5, 2) := by decide +kernel
theorem dX12_product_204 : decode cX12_product 204 = .ok (.iload 5, 2) := by decide +kernel
theorem dX12_product_206 : decode cX12_product 206 = .ok (.imul, 1) := by decide +kernel
theorem dX12_product_207 : decode cX12_product 207 = .ok (.aload_n 0, 1) := by decide +kernel
theorem dX12_product_208 : decode cX12_product 208 = .ok (.iload_n 1, 1) := by decide +kernel
theorem dX12_product_209 : decode cX12_product 209 = .ok (.iload 8, 2) := by decide +kernel
theorem dX12_product_211 : decode cX12_product 211 = .ok (.iload 5, 2) := by decide +kernel
theorem dX12_product_213 : decode cX12_product 213 = .ok (.idiv, 1) := by decide +kernel
theorem dX12_product_214 : decode cX12_product 214 = .ok (.iload 9, 2) := by decide +kernel
theorem dX12_product_216 : decode cX12_product 216 = .ok (.iload 5, 2) := by decide +kernel
theorem dX12_product_218 : decode cX12_product 218 = .ok (.idiv, 1) := by decide +kernel
theorem dX12_product_219 : decode cX12_product 219 = .ok (.invokevirtual 76, 3) := by decide +kernel
theorem dX12_product_222 : decode cX12_product 222 = .ok (.iconst 1, 1) := by decide +kernel
theorem dX12_product_223 : decode cX12_product 223 = .ok (.isub, 1) := by decide +kernel
theorem dX12_product_224 : decode cX12_product 224 = .ok (.imul, 1) := by decide +kernel
theorem dX12_product_225 : decode cX12_product 225 = .ok (.aload_n 0, 1) := by decide +kernel
theorem dX12_product_226 : decode cX12_product 226 = .ok (.iload_n 2, 1) := by decide +kernel
theorem dX12_product_227 : decode cX12_product 227 = .ok (.iload 8, 2) := by decide +kernel
theorem dX12_product_229 : decode cX12_product 229 = .ok (.iload 5, 2) := by decide +kernel
theorem dX12_product_231 : decode cX12_product 231 = .ok (.irem, 1) := by decide +kernel
theorem dX12_product_232 : decode cX12_product 232 = .ok (.iload 9, 2) := by decide +kernel
theorem dX12_product_234 : decode cX12_product 234 = .ok (.iload 5, 2) := by decide +kernel
theorem dX12_product_236 : decode cX12_product 236 = .ok (.irem, 1) := by decide +kernel
theorem dX12_product_237 : decode cX12_product 237 = .ok (.invokevirtual 76, 3) := by decide +kernel
theorem dX12_product_240 : decode cX12_product 240 = .ok (.iadd, 1) := by decide +kernel
theorem dX12_product_241 : decode cX12_product 241 = .ok (.iastore, 1) := by decide +kernel
theorem dX12_product_242 : decode cX12_product 242 = .ok (.iinc 7 1, 3) := by decide +kernel
theorem dX12_product_245 : decode cX12_product 245 = .ok (.goto (-73), 3) := by decide +kernel
theorem dX12_product_248 : decode cX12_product 248 = .ok (.aload_n 0, 1) := by decide +kernel
theorem dX12_product_249 : decode cX12_product 249 = .ok (.iload 6, 2) := by decide +kernel
theorem dX12_product_251 : decode cX12_product 251 = .ok (.invokevirtual 69, 3) := by decide +kernel
theorem dX12_product_254 : decode cX12_product 254 = .ok (.ireturn, 1) := by decide +kernel
theorem dX12_crossings_0 : decode cX12_crossings 0 = .ok (.aload_n 0, 1) := by decide +kernel
theorem dX12_crossings_1 : decode cX12_crossings 1 = .ok (.iload_n 1, 1) := by decide +kernel
theorem dX12_crossings_2 : decode cX12_crossings 2 = .ok (.invokevirtual 59, 3) := by decide +kernel
theorem dX12_crossings_5 : decode cX12_crossings 5 = .ok (.istore_n 3, 1) := by decide +kernel
theorem dX12_crossings_6 : decode cX12_crossings 6 = .ok (.aload_n 0, 1) := by decide +kernel
theorem dX12_crossings_7 : decode cX12_crossings 7 = .ok (.iload_n 3, 1) := by decide +kernel
theorem dX12_crossings_8 : decode cX12_crossings 8 = .ok (.ifCond .ne 7, 3) := by decide +kernel
theorem dX12_crossings_11 : decode cX12_crossings 11 = .ok (.iconst 1, 1) := by decide +kernel
theorem dX12_crossings_12 : decode cX12_crossings 12 = .ok (.goto 34, 3) := by decide +kernel
theorem dX12_crossings_15 : decode cX12_crossings 15 = .ok (.iload_n 2, 1) := by decide +kernel
theorem dX12_crossings_16 : decode cX12_crossings 16 = .ok (.iconst 0, 1) := by decide +kernel
theorem dX12_crossings_17 : decode cX12_crossings 17 = .ok (.sipush 8991, 3) := by decide +kernel
theorem dX12_crossings_20 : decode cX12_crossings 20 = .ok (.invokestatic 55, 3) := by decide +kernel
theorem dX12_crossings_23 : decode cX12_crossings 23 = .ok (.ifCond .ne 7, 3) := by decide +kernel
theorem dX12_crossings_26 : decode cX12_crossings 26 = .ok (.iconst 2, 1) := by decide +kernel
theorem dX12_crossings_27 : decode cX12_crossings 27 = .ok (.goto 19, 3) := by decide +kernel
theorem dX12_crossings_30 : decode cX12_crossings 30 = .ok (.aload_n 0, 1) := by decide +kernel
theorem dX12_crossings_31 : decode cX12_crossings 31 = .ok (.getfield 7, 3) := by decide +kernel
theorem dX12_crossings_34 : decode cX12_crossings 34 = .ok (.iload_n 1, 1) := by decide +kernel
theorem dX12_crossings_35 : decode cX12_crossings 35 = .ok (.iaload, 1) := by decide +kernel
theorem dX12_crossings_36 : decode cX12_crossings 36 = .ok (.bipush 6, 2) := by decide +kernel
theorem dX12_crossings_38 : decode cX12_crossings 38 = .ok (.if_icmp .le 7, 3) := by decide +kernel
theorem dX12_crossings_41 : decode cX12_crossings 41 = .ok (.iconst 3, 1) := by decide +kernel
theorem dX12_crossings_42 : decode cX12_crossings 42 = .ok (.goto 4, 3) := by decide +kernel
theorem dX12_crossings_45 : decode cX12_crossings 45 = .ok (.iconst 0, 1) := by decide +kernel
theorem dX12_crossings_46 : decode cX12_crossings 46 = .ok (.invokevirtual 63, 3) := by decide +kernel
theorem dX12_crossings_49 : decode cX12_crossings 49 = .ok (.ifCond .ne 5, 3) := by decide +kernel
theorem dX12_crossings_52 : decode cX12_crossings 52 = .ok (.iconst 0, 1) := by decide +kernel
theorem dX12_crossings_53 : decode cX12_crossings 53 = .ok (.ireturn, 1) := by decide +kernel
theorem dX12_crossings_54 : decode cX12_crossings 54 = .ok (.aload_n 0, 1) := by decide +kernel
theorem dX12_crossings_55 : decode cX12_crossings 55 = .ok (.getfield 7, 3) := by decide +kernel
theorem dX12_crossings_58 : decode cX12_crossings 58 = .ok (.iload_n 1, 1) := by decide +kernel
theorem dX12_crossings_59 : decode cX12_crossings 59 = .ok (.iaload, 1) := by decide +kernel
theorem dX12_crossings_60 : decode cX12_crossings 60 = .ok (.istore 4, 2) := by decide +kernel
theorem dX12_crossings_62 : decode cX12_crossings 62 = .ok (.iconst 0, 1) := by decide +kernel
theorem dX12_crossings_63 : decode cX12_crossings 63 = .ok (.istore 5, 2) := by decide +kernel
theorem dX12_crossings_65 : decode cX12_crossings 65 = .ok (.iconst 0, 1) := by decide +kernel
theorem dX12_crossings_66 : decode cX12_crossings 66 = .ok (.istore 6, 2) := by decide +kernel
theorem dX12_crossings_68 : decode cX12_crossings 68 = .ok (.iconst 0, 1) := by decide +kernel
theorem dX12_crossings_69 : decode cX12_crossings 69 = .ok (.istore 7, 2) := by decide +kernel
theorem dX12_crossings_71 : decode cX12_crossings 71 = .ok (.iconst 0, 1) := by decide +kernel
theorem dX12_crossings_72 : decode cX12_crossings 72 = .ok (.istore 8, 2) := by decide +kernel
theorem dX12_crossings_74 : decode cX12_crossings 74 = .ok (.aload_n 0, 1) := by decide +kernel
theorem dX12_crossings_75 : decode cX12_crossings 75 = .ok (.getfield 31, 3) := by decide +kernel
theorem dX12_crossings_78 : decode cX12_crossings 78 = .ok (.iconst 0, 1) := by decide +kernel
theorem dX12_crossings_79 : decode cX12_crossings 79 = .ok (.iconst (-1), 1) := by decide +kernel
theorem dX12_crossings_80 : decode cX12_crossings 80 = .ok (.iastore, 1) := by decide +kernel
theorem dX12_crossings_81 : decode cX12_crossings 81 = .ok (.iload 8, 2) := by decide +kernel
theorem dX12_crossings_83 : decode cX12_crossings 83 = .ok (.ifCond .lt 168, 3) := by decide +kernel
theorem dX12_crossings_86 : decode cX12_crossings 86 = .ok (.aload_n 0, 1) := by decide +kernel
theorem dX12_crossings_87 : decode cX12_crossings 87 = .ok (.getfield 31, 3) := by decide +kernel
theorem dX12_crossings_90 : decode cX12_crossings 90 = .ok (.iload 8, 2) := by decide +kernel
theorem dX12_crossings_92 : decode cX12_crossings 92 = .ok (.iaload, 1) := by decide +kernel
theorem dX12_crossings_93 : decode cX12_crossings 93 = .ok (.ifCond .lt 36, 3) := by decide +kernel
theorem dX12_crossings_96 : decode cX12_crossings 96 = .ok (.iload 6, 2) := by decide +kernel
theorem dX12_crossings_98 : decode cX12_crossings 98 = .ok (.iconst 1, 1) := by decide +kernel
theorem dX12_crossings_99 : decode cX12_crossings 99 = .ok (.aload_n 0, 1) := by decide +kernel
theorem dX12_crossings_100 : decode cX12_crossings 100 = .ok (.getfield 31, 3) := by decide +kernel
theorem dX12_crossings_103 : decode cX12_crossings 103 = .ok (.iload 8, 2) := by decide +kernel
theorem dX12_crossings_105 : decode cX12_crossings 105 = .ok (.iaload, 1) := by decide +kernel
theorem dX12_crossings_106 : decode cX12_crossings 106 = .ok (.ishl, 1) := by decide +kernel
theorem dX12_crossings_107 : decode cX12_crossings 107 = .ok (.isub, 1) := by decide +kernel
theorem dX12_crossings_108 : decode cX12_crossings 108 = .ok (.istore 6, 2) := by decide +kernel
theorem dX12_crossings_110 : decode cX12_crossings 110 = .ok (.iload 7, 2) := by decide +kernel
theorem dX12_crossings_112 : decode cX12_crossings 112 = .ok (.aload_n 0, 1) := by decide +kernel
theorem dX12_crossings_113 : decode cX12_crossings 113 = .ok (.iload_n 1, 1) := by decide +kernel
theorem dX12_crossings_114 : decode cX12_crossings 114 = .ok (.iload 8, 2) := by decide +kernel
theorem dX12_crossings_116 : decode cX12_crossings 116 = .ok (.aload_n 0, 1) := by decide +kernel
theorem dX12_crossings_117 : decode cX12_crossings 117 = .ok (.getfield 31, 3) := by decide +kernel
theorem dX12_crossings_120 : decode cX12_crossings 120 = .ok (.iload 8, 2) := by decide +kernel
theorem dX12_crossings_122 : decode cX12_crossings 122 = .ok (.iaload, 1) := by decide +kernel
theorem dX12_crossings_123 : decode cX12_crossings 123 = .ok (.invokevirtual 76, 3) := by decide +kernel
theorem dX12_crossings_126 : decode cX12_crossings 126 = .ok (.isub, 1) := by decide +kernel
theorem dX12_crossings_127 : decode cX12_crossings 127 = .ok (.istore 7, 2) := by decide +kernel
theorem dX12_crossings_129 : decode cX12_crossings 129 = .ok (.aload_n 0, 1) := by decide +kernel
theorem dX12_crossings_130 : decode cX12_crossings 130 = .ok (.getfield 31, 3) := by decide +kernel
theorem dX12_crossings_133 : decode cX12_crossings 133 = .ok (.iload 8, 2) := by decide +kernel
theorem dX12_crossings_135 : decode cX12_crossings 135 = .ok (.iaload, 1) := by decide +kernel
theorem dX12_crossings_136 : decode cX12_crossings 136 = .ok (.iconst 1, 1) := by decide +kernel
theorem dX12_crossings_137 : decode cX12_crossings 137 = .ok (.iadd, 1) := by decide +kernel
theorem dX12_crossings_138 : decode cX12_crossings 138 = .ok (.istore 9, 2) := by decide +kernel
theorem dX12_crossings_140 : decode cX12_crossings 140 = .ok (.iload 9, 2) := by decide +kernel
theorem dX12_crossings_142 : decode cX12_crossings 142 = .ok (.iload 4, 2) := by decide +kernel
theorem dX12_crossings_144 : decode cX12_crossings 144 = .ok (.if_icmp .ge 20, 3) := by decide +kernel
theorem dX12_crossings_147 : decode cX12_crossings 147 = .ok (.iload 6, 2) := by decide +kernel
theorem dX12_crossings_149 : decode cX12_crossings 149 = .ok (.iload 9, 2) := by decide +kernel
theorem dX12_crossings_151 : decode cX12_crossings 151 = .ok (.ishr, 1) := by decide +kernel
theorem dX12_crossings_152 : decode cX12_crossings 152 = .ok (.iconst 1, 1) := by decide +kernel
theorem dX12_crossings_153 : decode cX12_crossings 153 = .ok (.iand, 1) := by decide +kernel
theorem dX12_crossings_154 : decode cX12_crossings 154 = .ok (.iconst 1, 1) := by decide +kernel
theorem dX12_crossings_155 : decode cX12_crossings 155 = .ok (.if_icmp .ne 9, 3) := by decide +kernel
theorem dX12_crossings_158 : decode cX12_crossings 158 = .ok (.iinc 9 1, 3) := by decide +kernel
theorem dX12_crossings_161 : decode cX12_crossings 161 = .ok (.goto (-21), 3) := by decide +kernel
theorem dX12_crossings_164 : decode cX12_crossings 164 = .ok (.iload 9, 2) := by decide +kernel
theorem dX12_crossings_166 : decode cX12_crossings 166 = .ok (.iload 4, 2) := by decide +kernel
theorem dX12_crossings_168 : decode cX12_crossings 168 = .ok (.if_icmp .ne 9, 3) := by decide +kernel
theorem dX12_crossings_171 : decode cX12_crossings 171 = .ok (.iinc 8 (-1), 3) := by decide +kernel
theorem dX12_crossings_174 : decode cX12_crossings 174 = .ok (.goto 74, 3) := by decide +kernel
theorem dX12_crossings_177 : decode cX12_crossings 177 = .ok (.aload_n 0, 1) := by decide +kernel
theorem dX12_crossings_178 : decode cX12_crossings 178 = .ok (.getfield 31, 3) := by decide +kernel
theorem dX12_crossings_181 : decode cX12_crossings 181 = .ok (.iload 8, 2) := by decide +kernel
theorem dX12_crossings_183 : decode cX12_crossings 183 = .ok (.iload 9, 2) := by decide +kernel
theorem dX12_crossings_185 : decode cX12_crossings 185 = .ok (.iastore, 1) := by decide +kernel
theorem dX12_crossings_186 : decode cX12_crossings 186 = .ok (.iload 6, 2) := by decide +kernel
theorem dX12_crossings_188 : decode cX12_crossings 188 = .ok (.iconst 1, 1) := by decide +kernel
theorem dX12_crossings_189 : decode cX12_crossings 189 = .ok (.iload 9, 2) := by decide +kernel
theorem dX12_crossings_191 : decode cX12_crossings 191 = .ok (.ishl, 1) := by decide +kernel
theorem dX12_crossings_192 : decode cX12_crossings 192 = .ok (.iadd, 1) := by decide +kernel
theorem dX12_crossings_193 : decode cX12_crossings 193 = .ok (.istore 6, 2) := by decide +kernel
theorem dX12_crossings_195 : decode cX12_crossings 195 = .ok (.iload 7, 2) := by decide +kernel
theorem dX12_crossings_197 : decode cX12_crossings 197 = .ok (.aload_n 0, 1) := by decide +kernel
theorem dX12_crossings_198 : decode cX12_crossings 198 = .ok (.iload_n 1, 1) := by decide +kernel
theorem dX12_crossings_199 : decode cX12_crossings 199 = .ok (.iload 8, 2) := by decide +kernel
theorem dX12_crossings_201 : decode cX12_crossings 201 = .ok (.iload 9, 2) := by decide +kernel
theorem dX12_crossings_203 : decode cX12_crossings 203 = .ok (.invokevirtual 76, 3) := by decide +kernel
theorem dX12_crossings_206 : decode cX12_crossings 206 = .ok (.iadd, 1) := by decide +kernel
theorem dX12_crossings_207 : decode cX12_crossings 207 = .ok (.istore 7, 2) := by decide +kernel
theorem dX12_crossings_209 : decode cX12_crossings 209 = .ok (.iload 8, 2) := by decide +kernel
theorem dX12_crossings_211 : decode cX12_crossings 211 = .ok (.iload 4, 2) := by decide +kernel
theorem dX12_crossings_213 : decode cX12_crossings 213 = .ok (.iconst 1, 1) := by decide +kernel
theorem dX12_crossings_214 : decode cX12_crossings 214 = .ok (.isub, 1) := by decide +kernel
theorem dX12_crossings_215 : decode cX12_crossings 215 = .ok (.if_icmp .ne 22, 3) := by decide +kernel
theorem dX12_crossings_218 : decode cX12_crossings 218 = .ok (.iload 5, 2) := by decide +kernel
theorem dX12_crossings_220 : decode cX12_crossings 220 = .ok (.iload 7, 2) := by decide +kernel
theorem dX12_crossings_222 : decode cX12_crossings 222 = .ok (.iload_n 2, 1) := by decide +kernel
theorem dX12_crossings_223 : decode cX12_crossings 223 = .ok (.if_icmp .ne 7, 3) := by decide +kernel
theorem dX12_crossings_226 : decode cX12_crossings 226 = .ok (.iconst 1, 1) := by decide +kernel
theorem dX12_crossings_227 : decode cX12_crossings 227 = .ok (.goto 4, 3) := by decide +kernel
theorem dX12_crossings_230 : decode cX12_crossings 230 = .ok (.iconst 0, 1) := by decide +kernel
theorem dX12_crossings_231 : decode cX12_crossings 231 = .ok (.iadd, 1) := by decide +kernel
theorem dX12_crossings_232 : decode cX12_crossings 232 = .ok (.istore 5, 2) := by decide +kernel
theorem dX12_crossings_234 : decode cX12_crossings 234 = .ok (.goto 14, 3) := by decide +kernel
theorem dX12_crossings_237 : decode cX12_crossings 237 = .ok (.iinc 8 1, 3) := by decide +kernel
theorem dX12_crossings_240 : decode cX12_crossings 240 = .ok (.aload_n 0, 1) := by decide +kernel
theorem dX12_crossings_241 : decode cX12_crossings 241 = .ok (.getfield 31, 3) := by decide +kernel
theorem dX12_crossings_244 : decode cX12_crossings 244 = .ok (.iload 8, 2) := by decide +kernel
theorem dX12_crossings_246 : decode cX12_crossings 246 = .ok (.iconst (-1), 1) := by decide +kernel
theorem dX12_crossings_247 : decode cX12_crossings 247 = .ok (.iastore, 1) := by decide +kernel
theorem dX12_crossings_248 : decode cX12_crossings 248 = .ok (.goto (-167), 3) := by decide +kernel
theorem dX12_crossings_251 : decode cX12_crossings 251 = .ok (.iload 5, 2) := by decide +kernel
theorem dX12_crossings_253 : decode cX12_crossings 253 = .ok (.ireturn, 1) := by decide +kernel
theorem dX12_power_0 : decode cX12_power 0 = .ok (.lconst 1, 1) := by decide +kernel
theorem dX12_power_1 : decode cX12_power 1 = .ok (.lstore 4, 2) := by decide +kernel
theorem dX12_power_3 : decode cX12_power 3 = .ok (.lload_n 0, 1) := by decide +kernel
theorem dX12_power_4 : decode cX12_power 4 = .ok (.lstore 6, 2) := by decide +kernel
theorem dX12_power_6 : decode cX12_power 6 = .ok (.lload_n 2, 1) := by decide +kernel
theorem dX12_power_7 : decode cX12_power 7 = .ok (.lstore 8, 2) := by decide +kernel
theorem dX12_power_9 : decode cX12_power 9 = .ok (.lload 8, 2) := by decide +kernel
theorem dX12_power_11 : decode cX12_power 11 = .ok (.lconst 0, 1) := by decide +kernel
theorem dX12_power_12 : decode cX12_power 12 = .ok (.lcmp, 1) := by decide +kernel
theorem dX12_power_13 : decode cX12_power 13 = .ok (.ifCond .le 52, 3) := by decide +kernel
theorem dX12_power_16 : decode cX12_power 16 = .ok (.lload 8, 2) := by decide +kernel
theorem dX12_power_18 : decode cX12_power 18 = .ok (.ldc2_w 205, 3) := by decide +kernel
theorem dX12_power_21 : decode cX12_power 21 = .ok (.lrem, 1) := by decide +kernel
theorem dX12_power_22 : decode cX12_power 22 = .ok (.lconst 1, 1) := by decide +kernel
theorem dX12_power_23 : decode cX12_power 23 = .ok (.lcmp, 1) := by decide +kernel
theorem dX12_power_24 : decode cX12_power 24 = .ok (.ifCond .ne 15, 3) := by decide +kernel
theorem dX12_power_27 : decode cX12_power 27 = .ok (.lload 4, 2) := by decide +kernel
theorem dX12_power_29 : decode cX12_power 29 = .ok (.lload 6, 2) := by decide +kernel
theorem dX12_power_31 : decode cX12_power 31 = .ok (.lmul, 1) := by decide +kernel
theorem dX12_power_32 : decode cX12_power 32 = .ok (.ldc2_w 207, 3) := by decide +kernel
theorem dX12_power_35 : decode cX12_power 35 = .ok (.lrem, 1) := by decide +kernel
theorem dX12_power_36 : decode cX12_power 36 = .ok (.goto 5, 3) := by decide +kernel
theorem dX12_power_39 : decode cX12_power 39 = .ok (.lload 4, 2) := by decide +kernel
theorem dX12_power_41 : decode cX12_power 41 = .ok (.lstore 4, 2) := by decide +kernel
theorem dX12_power_43 : decode cX12_power 43 = .ok (.lload 6, 2) := by decide +kernel
theorem dX12_power_45 : decode cX12_power 45 = .ok (.lload 6, 2) := by decide +kernel
theorem dX12_power_47 : decode cX12_power 47 = .ok (.lmul, 1) := by decide +kernel
theorem dX12_power_48 : decode cX12_power 48 = .ok (.ldc2_w 207, 3) := by decide +kernel
theorem dX12_power_51 : decode cX12_power 51 = .ok (.lrem, 1) := by decide +kernel
theorem dX12_power_52 : decode cX12_power 52 = .ok (.lstore 6, 2) := by decide +kernel
theorem dX12_power_54 : decode cX12_power 54 = .ok (.lload 8, 2) := by decide +kernel
theorem dX12_power_56 : decode cX12_power 56 = .ok (.ldc2_w 205, 3) := by decide +kernel
theorem dX12_power_59 : decode cX12_power 59 = .ok (.ldiv, 1) := by decide +kernel
theorem dX12_power_60 : decode cX12_power 60 = .ok (.lstore 8, 2) := by decide +kernel
theorem dX12_power_62 : decode cX12_power 62 = .ok (.goto (-53), 3) := by decide +kernel
theorem dX12_power_65 : decode cX12_power 65 = .ok (.lload 4, 2) := by decide +kernel
theorem dX12_power_67 : decode cX12_power 67 = .ok (.lreturn, 1) := by decide +kernel
theorem dX12_independent_0 : decode cX12_independent 0 = .ok (.iconst 0, 1) := by decide +kernel
theorem dX12_independent_1 : decode cX12_independent 1 = .ok (.istore_n 1, 1) := by decide +kernel
theorem dX12_independent_2 : decode cX12_independent 2 = .ok (.iload_n 1, 1) := by decide +kernel
theorem dX12_independent_3 : decode cX12_independent 3 = .ok (.bipush 36, 2) := by decide +kernel
theorem dX12_independent_5 : decode cX12_independent 5 = .ok (.if_icmp .ge 36, 3) := by decide +kernel
theorem dX12_independent_8 : decode cX12_independent 8 = .ok (.aload_n 0, 1) := by decide +kernel
theorem dX12_independent_9 : decode cX12_independent 9 = .ok (.getfield 34, 3) := by decide +kernel
theorem dX12_independent_12 : decode cX12_independent 12 = .ok (.iload_n 1, 1) := by decide +kernel
theorem dX12_independent_13 : decode cX12_independent 13 = .ok (.aload_n 0, 1) := by decide +kernel
theorem dX12_independent_14 : decode cX12_independent 14 = .ok (.getfield 34, 3) := by decide +kernel
theorem dX12_independent_17 : decode cX12_independent 17 = .ok (.iload_n 1, 1) := by decide +kernel
theorem dX12_independent_18 : decode cX12_independent 18 = .ok (.laload, 1) := by decide +kernel
theorem dX12_independent_19 : decode cX12_independent 19 = .ok (.aload_n 0, 1) := by decide +kernel
theorem dX12_independent_20 : decode cX12_independent 20 = .ok (.getfield 38, 3) := by decide +kernel
theorem dX12_independent_23 : decode cX12_independent 23 = .ok (.iload_n 1, 1) := by decide +kernel
theorem dX12_independent_24 : decode cX12_independent 24 = .ok (.laload, 1) := by decide +kernel
theorem dX12_independent_25 : decode cX12_independent 25 = .ok (.lsub, 1) := by decide +kernel
theorem dX12_independent_26 : decode cX12_independent 26 = .ok (.ldc2_w 207, 3) := by decide +kernel
theorem dX12_independent_29 : decode cX12_independent 29 = .ok (.ladd, 1) := by decide +kernel
theorem dX12_independent_30 : decode cX12_independent 30 = .ok (.ldc2_w 207, 3) := by decide +kernel
theorem dX12_independent_33 : decode cX12_independent 33 = .ok (.lrem, 1) := by decide +kernel
theorem dX12_independent_34 : decode cX12_independent 34 = .ok (.lastore, 1) := by decide +kernel
theorem dX12_independent_35 : decode cX12_independent 35 = .ok (.iinc 1 1, 3) := by decide +kernel
theorem dX12_independent_38 : decode cX12_independent 38 = .ok (.goto (-36), 3) := by decide +kernel
theorem dX12_independent_41 : decode cX12_independent 41 = .ok (.iconst 0, 1) := by decide +kernel
theorem dX12_independent_42 : decode cX12_independent 42 = .ok (.istore_n 1, 1) := by decide +kernel
theorem dX12_independent_43 : decode cX12_independent 43 = .ok (.iload_n 1, 1) := by decide +kernel
theorem dX12_independent_44 : decode cX12_independent 44 = .ok (.bipush 36, 2) := by decide +kernel
theorem dX12_independent_46 : decode cX12_independent 46 = .ok (.if_icmp .ge 153, 3) := by decide +kernel
theorem dX12_independent_49 : decode cX12_independent 49 = .ok (.aload_n 0, 1) := by decide +kernel
theorem dX12_independent_50 : decode cX12_independent 50 = .ok (.getfield 34, 3) := by decide +kernel
theorem dX12_independent_53 : decode cX12_independent 53 = .ok (.iload_n 1, 1) := by decide +kernel
theorem dX12_independent_54 : decode cX12_independent 54 = .ok (.laload, 1) := by decide +kernel
theorem dX12_independent_55 : decode cX12_independent 55 = .ok (.lconst 0, 1) := by decide +kernel
theorem dX12_independent_56 : decode cX12_independent 56 = .ok (.lcmp, 1) := by decide +kernel
theorem dX12_independent_57 : decode cX12_independent 57 = .ok (.ifCond .eq 136, 3) := by decide +kernel
theorem dX12_independent_60 : decode cX12_independent 60 = .ok (.aload_n 0, 1) := by decide +kernel
theorem dX12_independent_61 : decode cX12_independent 61 = .ok (.getfield 34, 3) := by decide +kernel
theorem dX12_independent_64 : decode cX12_independent 64 = .ok (.iload_n 1, 1) := by decide +kernel
theorem dX12_independent_65 : decode cX12_independent 65 = .ok (.laload, 1) := by decide +kernel
theorem dX12_independent_66 : decode cX12_independent 66 = .ok (.lstore_n 2, 1) := by decide +kernel
theorem dX12_independent_67 : decode cX12_independent 67 = .ok (.aload_n 0, 1) := by decide +kernel
theorem dX12_independent_68 : decode cX12_independent 68 = .ok (.getfield 44, 3) := by decide +kernel
theorem dX12_independent_71 : decode cX12_independent 71 = .ok (.iload_n 1, 1) := by decide +kernel
theorem dX12_independent_72 : decode cX12_independent 72 = .ok (.baload, 1) := by decide +kernel
theorem dX12_independent_73 : decode cX12_independent 73 = .ok (.ifCond .ne 63, 3) := by decide +kernel
theorem dX12_independent_76 : decode cX12_independent 76 = .ok (.lload_n 2, 1) := by decide +kernel
theorem dX12_independent_77 : decode cX12_independent 77 = .ok (.ldc2_w 209, 3) := by decide +kernel
theorem dX12_independent_80 : decode cX12_independent 80 = .ok (.invokestatic 211, 3) := by decide +kernel
theorem dX12_independent_83 : decode cX12_independent 83 = .ok (.lstore 4, 2) := by decide +kernel
theorem dX12_independent_85 : decode cX12_independent 85 = .ok (.iconst 0, 1) := by decide +kernel
theorem dX12_independent_86 : decode cX12_independent 86 = .ok (.istore 6, 2) := by decide +kernel
theorem dX12_independent_88 : decode cX12_independent 88 = .ok (.iload 6, 2) := by decide +kernel
theorem dX12_independent_90 : decode cX12_independent 90 = .ok (.bipush 36, 2) := by decide +kernel
theorem dX12_independent_92 : decode cX12_independent 92 = .ok (.if_icmp .ge 35, 3) := by decide +kernel
theorem dX12_independent_95 : decode cX12_independent 95 = .ok (.aload_n 0, 1) := by decide +kernel
theorem dX12_independent_96 : decode cX12_independent 96 = .ok (.getfield 41, 3) := by decide +kernel
theorem dX12_independent_99 : decode cX12_independent 99 = .ok (.bipush 36, 2) := by decide +kernel
theorem dX12_independent_101 : decode cX12_independent 101 = .ok (.iload_n 1, 1) := by decide +kernel
theorem dX12_independent_102 : decode cX12_independent 102 = .ok (.imul, 1) := by decide +kernel
theorem dX12_independent_103 : decode cX12_independent 103 = .ok (.iload 6, 2) := by decide +kernel
theorem dX12_independent_105 : decode cX12_independent 105 = .ok (.iadd, 1) := by decide +kernel
theorem dX12_independent_106 : decode cX12_independent 106 = .ok (.aload_n 0, 1) := by decide +kernel
theorem dX12_independent_107 : decode cX12_independent 107 = .ok (.getfield 34, 3) := by decide +kernel
theorem dX12_independent_110 : decode cX12_independent 110 = .ok (.iload 6, 2) := by decide +kernel
theorem dX12_independent_112 : decode cX12_independent 112 = .ok (.laload, 1) := by decide +kernel
theorem dX12_independent_113 : decode cX12_independent 113 = .ok (.lload 4, 2) := by decide +kernel
theorem dX12_independent_115 : decode cX12_independent 115 = .ok (.lmul, 1) := by decide +kernel
theorem dX12_independent_116 : decode cX12_independent 116 = .ok (.ldc2_w 207, 3) := by decide +kernel
theorem dX12_independent_119 : decode cX12_independent 119 = .ok (.lrem, 1) := by decide +kernel
theorem dX12_independent_120 : decode cX12_independent 120 = .ok (.lastore, 1) := by decide +kernel
theorem dX12_independent_121 : decode cX12_independent 121 = .ok (.iinc 6 1, 3) := by decide +kernel
theorem dX12_independent_124 : decode cX12_independent 124 = .ok (.goto (-36), 3) := by decide +kernel
theorem dX12_independent_127 : decode cX12_independent 127 = .ok (.aload_n 0, 1) := by decide +kernel
theorem dX12_independent_128 : decode cX12_independent 128 = .ok (.getfield 44, 3) := by decide +kernel
theorem dX12_independent_131 : decode cX12_independent 131 = .ok (.iload_n 1, 1) := by decide +kernel
theorem dX12_independent_132 : decode cX12_independent 132 = .ok (.iconst 1, 1) := by decide +kernel
theorem dX12_independent_133 : decode cX12_independent 133 = .ok (.bastore, 1) := by decide +kernel
theorem dX12_independent_134 : decode cX12_independent 134 = .ok (.iconst 1, 1) := by decide +kernel
theorem dX12_independent_135 : decode cX12_independent 135 = .ok (.ireturn, 1) := by decide +kernel
theorem dX12_independent_136 : decode cX12_independent 136 = .ok (.iconst 0, 1) := by decide +kernel
theorem dX12_independent_137 : decode cX12_independent 137 = .ok (.istore 4, 2) := by decide +kernel
theorem dX12_independent_139 : decode cX12_independent 139 = .ok (.iload 4, 2) := by decide +kernel
theorem dX12_independent_141 : decode cX12_independent 141 = .ok (.bipush 36, 2) := by decide +kernel
theorem dX12_independent_143 : decode cX12_independent 143 = .ok (.if_icmp .ge 50, 3) := by decide +kernel
theorem dX12_independent_146 : decode cX12_independent 146 = .ok (.aload_n 0, 1) := by decide +kernel
theorem dX12_independent_147 : decode cX12_independent 147 = .ok (.getfield 34, 3) := by decide +kernel
theorem dX12_independent_150 : decode cX12_independent 150 = .ok (.iload 4, 2) := by decide +kernel
theorem dX12_independent_152 : decode cX12_independent 152 = .ok (.aload_n 0, 1) := by decide +kernel
theorem dX12_independent_153 : decode cX12_independent 153 = .ok (.getfield 34, 3) := by decide +kernel
theorem dX12_independent_156 : decode cX12_independent 156 = .ok (.iload 4, 2) := by decide +kernel
theorem dX12_independent_158 : decode cX12_independent 158 = .ok (.laload, 1) := by decide +kernel
theorem dX12_independent_159 : decode cX12_independent 159 = .ok (.ldc2_w 207, 3) := by decide +kernel
theorem dX12_independent_162 : decode cX12_independent 162 = .ok (.ladd, 1) := by decide +kernel
theorem dX12_independent_163 : decode cX12_independent 163 = .ok (.lload_n 2, 1) := by decide +kernel
theorem dX12_independent_164 : decode cX12_independent 164 = .ok (.aload_n 0, 1) := by decide +kernel
theorem dX12_independent_165 : decode cX12_independent 165 = .ok (.getfield 41, 3) := by decide +kernel
theorem dX12_independent_168 : decode cX12_independent 168 = .ok (.bipush 36, 2) := by decide +kernel
theorem dX12_independent_170 : decode cX12_independent 170 = .ok (.iload_n 1, 1) := by decide +kernel
theorem dX12_independent_171 : decode cX12_independent 171 = .ok (.imul, 1) := by decide +kernel
theorem dX12_independent_172 : decode cX12_independent 172 = .ok (.iload 4, 2) := by decide +kernel
theorem dX12_independent_174 : decode cX12_independent 174 = .ok (.iadd, 1) := by decide +kernel
theorem dX12_independent_175 : decode cX12_independent 175 = .ok (.laload, 1) := by decide +kernel
theorem dX12_independent_176 : decode cX12_independent 176 = .ok (.lmul, 1) := by decide +kernel
theorem dX12_independent_177 : decode cX12_independent 177 = .ok (.ldc2_w 207, 3) := by decide +kernel
theorem dX12_independent_180 : decode cX12_independent 180 = .ok (.lrem, 1) := by decide +kernel
theorem dX12_independent_181 : decode cX12_independent 181 = .ok (.lsub, 1) := by decide +kernel
theorem dX12_independent_182 : decode cX12_independent 182 = .ok (.ldc2_w 207, 3) := by decide +kernel
theorem dX12_independent_185 : decode cX12_independent 185 = .ok (.lrem, 1) := by decide +kernel
theorem dX12_independent_186 : decode cX12_independent 186 = .ok (.lastore, 1) := by decide +kernel
theorem dX12_independent_187 : decode cX12_independent 187 = .ok (.iinc 4 1, 3) := by decide +kernel
theorem dX12_independent_190 : decode cX12_independent 190 = .ok (.goto (-51), 3) := by decide +kernel
theorem dX12_independent_193 : decode cX12_independent 193 = .ok (.iinc 1 1, 3) := by decide +kernel
theorem dX12_independent_196 : decode cX12_independent 196 = .ok (.goto (-153), 3) := by decide +kernel
theorem dX12_independent_199 : decode cX12_independent 199 = .ok (.iconst 0, 1) := by decide +kernel
theorem dX12_independent_200 : decode cX12_independent 200 = .ok (.ireturn, 1) := by decide +kernel
theorem dX12_begin_0 : decode cX12_begin 0 = .ok (.iconst 0, 1) := by decide +kernel
theorem dX12_begin_1 : decode cX12_begin 1 = .ok (.istore_n 2, 1) := by decide +kernel
theorem dX12_begin_2 : decode cX12_begin 2 = .ok (.iload_n 2, 1) := by decide +kernel
theorem dX12_begin_3 : decode cX12_begin 3 = .ok (.bipush 36, 2) := by decide +kernel
theorem dX12_begin_5 : decode cX12_begin 5 = .ok (.if_icmp .ge 13, 3) := by decide +kernel
theorem dX12_begin_8 : decode cX12_begin 8 = .ok (.aload_n 1, 1) := by decide +kernel
theorem dX12_begin_9 : decode cX12_begin 9 = .ok (.iload_n 2, 1) := by decide +kernel
theorem dX12_begin_10 : decode cX12_begin 10 = .ok (.lconst 0, 1) := by decide +kernel
theorem dX12_begin_11 : decode cX12_begin 11 = .ok (.lastore, 1) := by decide +kernel
theorem dX12_begin_12 : decode cX12_begin 12 = .ok (.iinc 2 1, 3) := by decide +kernel
theorem dX12_begin_15 : decode cX12_begin 15 = .ok (.goto (-13), 3) := by decide +kernel
theorem dX12_begin_18 : decode cX12_begin 18 = .ok (.return_, 1) := by decide +kernel
theorem dX12_layLine_0 : decode cX12_layLine 0 = .ok (.aload_n 0, 1) := by decide +kernel
theorem dX12_layLine_1 : decode cX12_layLine 1 = .ok (.aload_n 1, 1) := by decide +kernel
theorem dX12_layLine_2 : decode cX12_layLine 2 = .ok (.invokevirtual 215, 3) := by decide +kernel
theorem dX12_layLine_5 : decode cX12_layLine 5 = .ok (.iconst 0, 1) := by decide +kernel
theorem dX12_layLine_6 : decode cX12_layLine 6 = .ok (.istore 5, 2) := by decide +kernel
theorem dX12_layLine_8 : decode cX12_layLine 8 = .ok (.iload 5, 2) := by decide +kernel
theorem dX12_layLine_10 : decode cX12_layLine 10 = .ok (.iload_n 2, 1) := by decide +kernel
theorem dX12_layLine_11 : decode cX12_layLine 11 = .ok (.if_icmp .ge 77, 3) := by decide +kernel
theorem dX12_layLine_14 : decode cX12_layLine 14 = .ok (.iload_n 3, 1) := by decide +kernel
theorem dX12_layLine_15 : decode cX12_layLine 15 = .ok (.ifCond .ne 8, 3) := by decide +kernel
theorem dX12_layLine_18 : decode cX12_layLine 18 = .ok (.iload 4, 2) := by decide +kernel
theorem dX12_layLine_20 : decode cX12_layLine 20 = .ok (.goto 5, 3) := by decide +kernel
theorem dX12_layLine_23 : decode cX12_layLine 23 = .ok (.iload 5, 2) := by decide +kernel
theorem dX12_layLine_25 : decode cX12_layLine 25 = .ok (.istore 6, 2) := by decide +kernel
theorem dX12_layLine_27 : decode cX12_layLine 27 = .ok (.iload_n 3, 1) := by decide +kernel
theorem dX12_layLine_28 : decode cX12_layLine 28 = .ok (.ifCond .ne 8, 3) := by decide +kernel
theorem dX12_layLine_31 : decode cX12_layLine 31 = .ok (.iload 5, 2) := by decide +kernel
theorem dX12_layLine_33 : decode cX12_layLine 33 = .ok (.goto 37, 3) := by decide +kernel
theorem dX12_layLine_36 : decode cX12_layLine 36 = .ok (.iload_n 3, 1) := by decide +kernel
theorem dX12_layLine_37 : decode cX12_layLine 37 = .ok (.iconst 1, 1) := by decide +kernel
theorem dX12_layLine_38 : decode cX12_layLine 38 = .ok (.if_icmp .ne 8, 3) := by decide +kernel
theorem dX12_layLine_41 : decode cX12_layLine 41 = .ok (.iload 4, 2) := by decide +kernel
theorem dX12_layLine_43 : decode cX12_layLine 43 = .ok (.goto 27, 3) := by decide +kernel
theorem dX12_layLine_46 : decode cX12_layLine 46 = .ok (.iload_n 3, 1) := by decide +kernel
theorem dX12_layLine_47 : decode cX12_layLine 47 = .ok (.iconst 2, 1) := by decide +kernel
theorem dX12_layLine_48 : decode cX12_layLine 48 = .ok (.if_icmp .ne 13, 3) := by decide +kernel
theorem dX12_layLine_51 : decode cX12_layLine 51 = .ok (.iload 4, 2) := by decide +kernel
theorem dX12_layLine_53 : decode cX12_layLine 53 = .ok (.iload 5, 2) := by decide +kernel
theorem dX12_layLine_55 : decode cX12_layLine 55 = .ok (.iadd, 1) := by decide +kernel
theorem dX12_layLine_56 : decode cX12_layLine 56 = .ok (.iload_n 2, 1) := by decide +kernel
theorem dX12_layLine_57 : decode cX12_layLine 57 = .ok (.irem, 1) := by decide +kernel
theorem dX12_layLine_58 : decode cX12_layLine 58 = .ok (.goto 12, 3) := by decide +kernel
theorem dX12_layLine_61 : decode cX12_layLine 61 = .ok (.iload 4, 2) := by decide +kernel
theorem dX12_layLine_63 : decode cX12_layLine 63 = .ok (.iload 5, 2) := by decide +kernel
theorem dX12_layLine_65 : decode cX12_layLine 65 = .ok (.isub, 1) := by decide +kernel
theorem dX12_layLine_66 : decode cX12_layLine 66 = .ok (.iload_n 2, 1) := by decide +kernel
theorem dX12_layLine_67 : decode cX12_layLine 67 = .ok (.iadd, 1) := by decide +kernel
theorem dX12_layLine_68 : decode cX12_layLine 68 = .ok (.iload_n 2, 1) := by decide +kernel
theorem dX12_layLine_69 : decode cX12_layLine 69 = .ok (.irem, 1) := by decide +kernel
theorem dX12_layLine_70 : decode cX12_layLine 70 = .ok (.istore 7, 2) := by decide +kernel
theorem dX12_layLine_72 : decode cX12_layLine 72 = .ok (.aload_n 1, 1) := by decide +kernel
theorem dX12_layLine_73 : decode cX12_layLine 73 = .ok (.iload_n 2, 1) := by decide +kernel
theorem dX12_layLine_74 : decode cX12_layLine 74 = .ok (.iload 6, 2) := by decide +kernel
theorem dX12_layLine_76 : decode cX12_layLine 76 = .ok (.imul, 1) := by decide +kernel
theorem dX12_layLine_77 : decode cX12_layLine 77 = .ok (.iload 7, 2) := by decide +kernel
theorem dX12_layLine_79 : decode cX12_layLine 79 = .ok (.iadd, 1) := by decide +kernel
theorem dX12_layLine_80 : decode cX12_layLine 80 = .ok (.lconst 1, 1) := by decide +kernel
theorem dX12_layLine_81 : decode cX12_layLine 81 = .ok (.lastore, 1) := by decide +kernel
theorem dX12_layLine_82 : decode cX12_layLine 82 = .ok (.iinc 5 1, 3) := by decide +kernel
theorem dX12_layLine_85 : decode cX12_layLine 85 = .ok (.goto (-77), 3) := by decide +kernel
theorem dX12_layLine_88 : decode cX12_layLine 88 = .ok (.return_, 1) := by decide +kernel
theorem dX12_isOfLaws_0 : decode cX12_isOfLaws 0 = .ok (.iload_n 2, 1) := by decide +kernel
theorem dX12_isOfLaws_1 : decode cX12_isOfLaws 1 = .ok (.iconst 2, 1) := by decide +kernel
theorem dX12_isOfLaws_2 : decode cX12_isOfLaws 2 = .ok (.if_icmp .ge 23, 3) := by decide +kernel
theorem dX12_isOfLaws_5 : decode cX12_isOfLaws 5 = .ok (.iload_n 1, 1) := by decide +kernel
theorem dX12_isOfLaws_6 : decode cX12_isOfLaws 6 = .ok (.iload_n 2, 1) := by decide +kernel
theorem dX12_isOfLaws_7 : decode cX12_isOfLaws 7 = .ok (.ifCond .ne 7, 3) := by decide +kernel
theorem dX12_isOfLaws_10 : decode cX12_isOfLaws 10 = .ok (.iconst 2, 1) := by decide +kernel
theorem dX12_isOfLaws_11 : decode cX12_isOfLaws 11 = .ok (.goto 4, 3) := by decide +kernel
theorem dX12_isOfLaws_14 : decode cX12_isOfLaws 14 = .ok (.iconst 4, 1) := by decide +kernel
theorem dX12_isOfLaws_15 : decode cX12_isOfLaws 15 = .ok (.iand, 1) := by decide +kernel
theorem dX12_isOfLaws_16 : decode cX12_isOfLaws 16 = .ok (.ifCond .eq 7, 3) := by decide +kernel
theorem dX12_isOfLaws_19 : decode cX12_isOfLaws 19 = .ok (.iconst 1, 1) := by decide +kernel
theorem dX12_isOfLaws_20 : decode cX12_isOfLaws 20 = .ok (.goto 4, 3) := by decide +kernel
theorem dX12_isOfLaws_23 : decode cX12_isOfLaws 23 = .ok (.iconst 0, 1) := by decide +kernel
theorem dX12_isOfLaws_24 : decode cX12_isOfLaws 24 = .ok (.ireturn, 1) := by decide +kernel
theorem dX12_isOfLaws_25 : decode cX12_isOfLaws 25 = .ok (.iload_n 3, 1) := by decide +kernel
theorem dX12_isOfLaws_26 : decode cX12_isOfLaws 26 = .ok (.iload_n 2, 1) := by decide +kernel
theorem dX12_isOfLaws_27 : decode cX12_isOfLaws 27 = .ok (.iconst 2, 1) := by decide +kernel
theorem dX12_isOfLaws_28 : decode cX12_isOfLaws 28 = .ok (.if_icmp .ne 7, 3) := by decide +kernel
theorem dX12_isOfLaws_31 : decode cX12_isOfLaws 31 = .ok (.iconst 0, 1) := by decide +kernel
theorem dX12_isOfLaws_32 : decode cX12_isOfLaws 32 = .ok (.goto 6, 3) := by decide +kernel
theorem dX12_isOfLaws_35 : decode cX12_isOfLaws 35 = .ok (.iload_n 0, 1) := by decide +kernel
theorem dX12_isOfLaws_36 : decode cX12_isOfLaws 36 = .ok (.iconst 1, 1) := by decide +kernel
theorem dX12_isOfLaws_37 : decode cX12_isOfLaws 37 = .ok (.isub, 1) := by decide +kernel
theorem dX12_isOfLaws_38 : decode cX12_isOfLaws 38 = .ok (.if_icmp .ne 7, 3) := by decide +kernel
theorem dX12_isOfLaws_41 : decode cX12_isOfLaws 41 = .ok (.iconst 1, 1) := by decide +kernel
theorem dX12_isOfLaws_42 : decode cX12_isOfLaws 42 = .ok (.goto 4, 3) := by decide +kernel
theorem dX12_isOfLaws_45 : decode cX12_isOfLaws 45 = .ok (.iconst 0, 1) := by decide +kernel
theorem dX12_isOfLaws_46 : decode cX12_isOfLaws 46 = .ok (.istore 4, 2) := by decide +kernel
theorem dX12_isOfLaws_48 : decode cX12_isOfLaws 48 = .ok (.iload_n 1, 1) := by decide +kernel
theorem dX12_isOfLaws_49 : decode cX12_isOfLaws 49 = .ok (.bipush 16, 2) := by decide +kernel
theorem dX12_isOfLaws_51 : decode cX12_isOfLaws 51 = .ok (.iand, 1) := by decide +kernel
theorem dX12_isOfLaws_52 : decode cX12_isOfLaws 52 = .ok (.ifCond .ne 15, 3) := by decide +kernel
theorem dX12_isOfLaws_55 : decode cX12_isOfLaws 55 = .ok (.iload_n 1, 1) := by decide +kernel
theorem dX12_isOfLaws_56 : decode cX12_isOfLaws 56 = .ok (.bipush 8, 2) := by decide +kernel
theorem dX12_isOfLaws_58 : decode cX12_isOfLaws 58 = .ok (.iand, 1) := by decide +kernel
theorem dX12_isOfLaws_59 : decode cX12_isOfLaws 59 = .ok (.ifCond .eq 12, 3) := by decide +kernel
theorem dX12_isOfLaws_62 : decode cX12_isOfLaws 62 = .ok (.iload 4, 2) := by decide +kernel
theorem dX12_isOfLaws_64 : decode cX12_isOfLaws 64 = .ok (.ifCond .eq 7, 3) := by decide +kernel
theorem dX12_isOfLaws_67 : decode cX12_isOfLaws 67 = .ok (.iconst 1, 1) := by decide +kernel
theorem dX12_isOfLaws_68 : decode cX12_isOfLaws 68 = .ok (.goto 4, 3) := by decide +kernel
theorem dX12_isOfLaws_71 : decode cX12_isOfLaws 71 = .ok (.iconst 0, 1) := by decide +kernel
theorem dX12_isOfLaws_72 : decode cX12_isOfLaws 72 = .ok (.ireturn, 1) := by decide +kernel
theorem dX12_dimension_0 : decode cX12_dimension 0 = .ok (.bipush 62, 2) := by decide +kernel
theorem dX12_dimension_2 : decode cX12_dimension 2 = .ok (.istore_n 3, 1) := by decide +kernel
theorem dX12_dimension_3 : decode cX12_dimension 3 = .ok (.aload_n 0, 1) := by decide +kernel
theorem dX12_dimension_4 : decode cX12_dimension 4 = .ok (.iload_n 1, 1) := by decide +kernel
theorem dX12_dimension_5 : decode cX12_dimension 5 = .ok (.iconst 1, 1) := by decide +kernel
theorem dX12_dimension_6 : decode cX12_dimension 6 = .ok (.bipush 6, 2) := by decide +kernel
theorem dX12_dimension_8 : decode cX12_dimension 8 = .ok (.invokestatic 55, 3) := by decide +kernel
theorem dX12_dimension_11 : decode cX12_dimension 11 = .ok (.ifCond .eq 15, 3) := by decide +kernel
theorem dX12_dimension_14 : decode cX12_dimension 14 = .ok (.iload_n 2, 1) := by decide +kernel
theorem dX12_dimension_15 : decode cX12_dimension 15 = .ok (.iload_n 3, 1) := by decide +kernel
theorem dX12_dimension_16 : decode cX12_dimension 16 = .ok (.iconst (-1), 1) := by decide +kernel
theorem dX12_dimension_17 : decode cX12_dimension 17 = .ok (.ixor, 1) := by decide +kernel
theorem dX12_dimension_18 : decode cX12_dimension 18 = .ok (.iand, 1) := by decide +kernel
theorem dX12_dimension_19 : decode cX12_dimension 19 = .ok (.ifCond .ne 7, 3) := by decide +kernel
theorem dX12_dimension_22 : decode cX12_dimension 22 = .ok (.iconst 0, 1) := by decide +kernel
theorem dX12_dimension_23 : decode cX12_dimension 23 = .ok (.goto 4, 3) := by decide +kernel
theorem dX12_dimension_26 : decode cX12_dimension 26 = .ok (.iconst 1, 1) := by decide +kernel
theorem dX12_dimension_27 : decode cX12_dimension 27 = .ok (.invokevirtual 63, 3) := by decide +kernel
theorem dX12_dimension_30 : decode cX12_dimension 30 = .ok (.ifCond .ne 5, 3) := by decide +kernel
theorem dX12_dimension_33 : decode cX12_dimension 33 = .ok (.iconst 0, 1) := by decide +kernel
theorem dX12_dimension_34 : decode cX12_dimension 34 = .ok (.ireturn, 1) := by decide +kernel
theorem dX12_dimension_35 : decode cX12_dimension 35 = .ok (.iconst 0, 1) := by decide +kernel
theorem dX12_dimension_36 : decode cX12_dimension 36 = .ok (.istore 4, 2) := by decide +kernel
theorem dX12_dimension_38 : decode cX12_dimension 38 = .ok (.iload 4, 2) := by decide +kernel
theorem dX12_dimension_40 : decode cX12_dimension 40 = .ok (.bipush 36, 2) := by decide +kernel
theorem dX12_dimension_42 : decode cX12_dimension 42 = .ok (.if_icmp .ge 17, 3) := by decide +kernel
theorem dX12_dimension_45 : decode cX12_dimension 45 = .ok (.aload_n 0, 1) := by decide +kernel
theorem dX12_dimension_46 : decode cX12_dimension 46 = .ok (.getfield 44, 3) := by decide +kernel
theorem dX12_dimension_49 : decode cX12_dimension 49 = .ok (.iload 4, 2) := by decide +kernel
theorem dX12_dimension_51 : decode cX12_dimension 51 = .ok (.iconst 0, 1) := by decide +kernel
theorem dX12_dimension_52 : decode cX12_dimension 52 = .ok (.bastore, 1) := by decide +kernel
theorem dX12_dimension_53 : decode cX12_dimension 53 = .ok (.iinc 4 1, 3) := by decide +kernel
theorem dX12_dimension_56 : decode cX12_dimension 56 = .ok (.goto (-18), 3) := by decide +kernel
theorem dX12_dimension_59 : decode cX12_dimension 59 = .ok (.iconst 0, 1) := by decide +kernel
theorem dX12_dimension_60 : decode cX12_dimension 60 = .ok (.istore 4, 2) := by decide +kernel
theorem dX12_dimension_62 : decode cX12_dimension 62 = .ok (.iconst 1, 1) := by decide +kernel
theorem dX12_dimension_63 : decode cX12_dimension 63 = .ok (.istore 5, 2) := by decide +kernel
theorem dX12_dimension_65 : decode cX12_dimension 65 = .ok (.iconst 0, 1) := by decide +kernel
theorem dX12_dimension_66 : decode cX12_dimension 66 = .ok (.istore 6, 2) := by decide +kernel
theorem dX12_dimension_68 : decode cX12_dimension 68 = .ok (.iload 6, 2) := by decide +kernel
theorem dX12_dimension_70 : decode cX12_dimension 70 = .ok (.iconst 4, 1) := by decide +kernel
theorem dX12_dimension_71 : decode cX12_dimension 71 = .ok (.iload_n 1, 1) := by decide +kernel
theorem dX12_dimension_72 : decode cX12_dimension 72 = .ok (.imul, 1) := by decide +kernel
theorem dX12_dimension_73 : decode cX12_dimension 73 = .ok (.if_icmp .ge 79, 3) := by decide +kernel
theorem dX12_dimension_76 : decode cX12_dimension 76 = .ok (.iload_n 1, 1) := by decide +kernel
theorem dX12_dimension_77 : decode cX12_dimension 77 = .ok (.iload_n 2, 1) := by decide +kernel
theorem dX12_dimension_78 : decode cX12_dimension 78 = .ok (.iload 6, 2) := by decide +kernel
theorem dX12_dimension_80 : decode cX12_dimension 80 = .ok (.iload_n 1, 1) := by decide +kernel
theorem dX12_dimension_81 : decode cX12_dimension 81 = .ok (.idiv, 1) := by decide +kernel
theorem dX12_dimension_82 : decode cX12_dimension 82 = .ok (.iload 6, 2) := by decide +kernel
theorem dX12_dimension_84 : decode cX12_dimension 84 = .ok (.iload_n 1, 1) := by decide +kernel
theorem dX12_dimension_85 : decode cX12_dimension 85 = .ok (.irem, 1) := by decide +kernel
theorem dX12_dimension_86 : decode cX12_dimension 86 = .ok (.invokestatic 219, 3) := by decide +kernel
theorem dX12_dimension_89 : decode cX12_dimension 89 = .ok (.ifCond .eq 57, 3) := by decide +kernel
theorem dX12_dimension_92 : decode cX12_dimension 92 = .ok (.iload 5, 2) := by decide +kernel
theorem dX12_dimension_94 : decode cX12_dimension 94 = .ok (.ifCond .eq 23, 3) := by decide +kernel
theorem dX12_dimension_97 : decode cX12_dimension 97 = .ok (.aload_n 0, 1) := by decide +kernel
theorem dX12_dimension_98 : decode cX12_dimension 98 = .ok (.aload_n 0, 1) := by decide +kernel
theorem dX12_dimension_99 : decode cX12_dimension 99 = .ok (.getfield 38, 3) := by decide +kernel
theorem dX12_dimension_102 : decode cX12_dimension 102 = .ok (.iload_n 1, 1) := by decide +kernel
theorem dX12_dimension_103 : decode cX12_dimension 103 = .ok (.iload 6, 2) := by decide +kernel
theorem dX12_dimension_105 : decode cX12_dimension 105 = .ok (.iload_n 1, 1) := by decide +kernel
theorem dX12_dimension_106 : decode cX12_dimension 106 = .ok (.idiv, 1) := by decide +kernel
theorem dX12_dimension_107 : decode cX12_dimension 107 = .ok (.iload 6, 2) := by decide +kernel
theorem dX12_dimension_109 : decode cX12_dimension 109 = .ok (.iload_n 1, 1) := by decide +kernel
theorem dX12_dimension_110 : decode cX12_dimension 110 = .ok (.irem, 1) := by decide +kernel
theorem dX12_dimension_111 : decode cX12_dimension 111 = .ok (.invokevirtual 223, 3) := by decide +kernel
theorem dX12_dimension_114 : decode cX12_dimension 114 = .ok (.goto 29, 3) := by decide +kernel
theorem dX12_dimension_117 : decode cX12_dimension 117 = .ok (.aload_n 0, 1) := by decide +kernel
theorem dX12_dimension_118 : decode cX12_dimension 118 = .ok (.aload_n 0, 1) := by decide +kernel
theorem dX12_dimension_119 : decode cX12_dimension 119 = .ok (.getfield 34, 3) := by decide +kernel
theorem dX12_dimension_122 : decode cX12_dimension 122 = .ok (.iload_n 1, 1) := by decide +kernel
theorem dX12_dimension_123 : decode cX12_dimension 123 = .ok (.iload 6, 2) := by decide +kernel
theorem dX12_dimension_125 : decode cX12_dimension 125 = .ok (.iload_n 1, 1) := by decide +kernel
theorem dX12_dimension_126 : decode cX12_dimension 126 = .ok (.idiv, 1) := by decide +kernel
theorem dX12_dimension_127 : decode cX12_dimension 127 = .ok (.iload 6, 2) := by decide +kernel
theorem dX12_dimension_129 : decode cX12_dimension 129 = .ok (.iload_n 1, 1) := by decide +kernel
theorem dX12_dimension_130 : decode cX12_dimension 130 = .ok (.irem, 1) := by decide +kernel
theorem dX12_dimension_131 : decode cX12_dimension 131 = .ok (.invokevirtual 223, 3) := by decide +kernel
theorem dX12_dimension_134 : decode cX12_dimension 134 = .ok (.iload 4, 2) := by decide +kernel
theorem dX12_dimension_136 : decode cX12_dimension 136 = .ok (.aload_n 0, 1) := by decide +kernel
theorem dX12_dimension_137 : decode cX12_dimension 137 = .ok (.invokevirtual 227, 3) := by decide +kernel
theorem dX12_dimension_140 : decode cX12_dimension 140 = .ok (.iadd, 1) := by decide +kernel
theorem dX12_dimension_141 : decode cX12_dimension 141 = .ok (.istore 4, 2) := by decide +kernel
theorem dX12_dimension_143 : decode cX12_dimension 143 = .ok (.iconst 0, 1) := by decide +kernel
theorem dX12_dimension_144 : decode cX12_dimension 144 = .ok (.istore 5, 2) := by decide +kernel
theorem dX12_dimension_146 : decode cX12_dimension 146 = .ok (.iinc 6 1, 3) := by decide +kernel
theorem dX12_dimension_149 : decode cX12_dimension 149 = .ok (.goto (-81), 3) := by decide +kernel
theorem dX12_dimension_152 : decode cX12_dimension 152 = .ok (.iload_n 1, 1) := by decide +kernel
theorem dX12_dimension_153 : decode cX12_dimension 153 = .ok (.iload_n 1, 1) := by decide +kernel
theorem dX12_dimension_154 : decode cX12_dimension 154 = .ok (.imul, 1) := by decide +kernel
theorem dX12_dimension_155 : decode cX12_dimension 155 = .ok (.iconst 1, 1) := by decide +kernel
theorem dX12_dimension_156 : decode cX12_dimension 156 = .ok (.isub, 1) := by decide +kernel
theorem dX12_dimension_157 : decode cX12_dimension 157 = .ok (.istore 6, 2) := by decide +kernel
theorem dX12_dimension_159 : decode cX12_dimension 159 = .ok (.iconst 0, 1) := by decide +kernel
theorem dX12_dimension_160 : decode cX12_dimension 160 = .ok (.istore 7, 2) := by decide +kernel
theorem dX12_dimension_162 : decode cX12_dimension 162 = .ok (.iload 7, 2) := by decide +kernel
theorem dX12_dimension_164 : decode cX12_dimension 164 = .ok (.iload 6, 2) := by decide +kernel
theorem dX12_dimension_166 : decode cX12_dimension 166 = .ok (.if_icmp .gt 96, 3) := by decide +kernel
theorem dX12_dimension_169 : decode cX12_dimension 169 = .ok (.iload_n 2, 1) := by decide +kernel
theorem dX12_dimension_170 : decode cX12_dimension 170 = .ok (.bipush 32, 2) := by decide +kernel
theorem dX12_dimension_172 : decode cX12_dimension 172 = .ok (.iand, 1) := by decide +kernel
theorem dX12_dimension_173 : decode cX12_dimension 173 = .ok (.ifCond .eq 89, 3) := by decide +kernel
theorem dX12_dimension_176 : decode cX12_dimension 176 = .ok (.aload_n 0, 1) := by decide +kernel
theorem dX12_dimension_177 : decode cX12_dimension 177 = .ok (.aload_n 0, 1) := by decide +kernel
theorem dX12_dimension_178 : decode cX12_dimension 178 = .ok (.getfield 34, 3) := by decide +kernel
theorem dX12_dimension_181 : decode cX12_dimension 181 = .ok (.invokevirtual 215, 3) := by decide +kernel
theorem dX12_dimension_184 : decode cX12_dimension 184 = .ok (.aload_n 0, 1) := by decide +kernel
theorem dX12_dimension_185 : decode cX12_dimension 185 = .ok (.getfield 34, 3) := by decide +kernel
theorem dX12_dimension_188 : decode cX12_dimension 188 = .ok (.iload 7, 2) := by decide +kernel
theorem dX12_dimension_190 : decode cX12_dimension 190 = .ok (.dup2, 1) := by decide +kernel
theorem dX12_dimension_191 : decode cX12_dimension 191 = .ok (.laload, 1) := by decide +kernel
theorem dX12_dimension_192 : decode cX12_dimension 192 = .ok (.lconst 1, 1) := by decide +kernel
theorem dX12_dimension_193 : decode cX12_dimension 193 = .ok (.ladd, 1) := by decide +kernel
theorem dX12_dimension_194 : decode cX12_dimension 194 = .ok (.lastore, 1) := by decide +kernel
theorem dX12_dimension_195 : decode cX12_dimension 195 = .ok (.aload_n 0, 1) := by decide +kernel
theorem dX12_dimension_196 : decode cX12_dimension 196 = .ok (.getfield 34, 3) := by decide +kernel
theorem dX12_dimension_199 : decode cX12_dimension 199 = .ok (.iload 6, 2) := by decide +kernel
theorem dX12_dimension_201 : decode cX12_dimension 201 = .ok (.iload 7, 2) := by decide +kernel
theorem dX12_dimension_203 : decode cX12_dimension 203 = .ok (.isub, 1) := by decide +kernel
theorem dX12_dimension_204 : decode cX12_dimension 204 = .ok (.dup2, 1) := by decide +kernel
theorem dX12_dimension_205 : decode cX12_dimension 205 = .ok (.laload, 1) := by decide +kernel
theorem dX12_dimension_206 : decode cX12_dimension 206 = .ok (.lconst 1, 1) := by decide +kernel
theorem dX12_dimension_207 : decode cX12_dimension 207 = .ok (.ladd, 1) := by decide +kernel
theorem dX12_dimension_208 : decode cX12_dimension 208 = .ok (.lastore, 1) := by decide +kernel
theorem dX12_dimension_209 : decode cX12_dimension 209 = .ok (.iload 7, 2) := by decide +kernel
theorem dX12_dimension_211 : decode cX12_dimension 211 = .ok (.ifCond .ne 36, 3) := by decide +kernel
theorem dX12_dimension_214 : decode cX12_dimension 214 = .ok (.iconst 0, 1) := by decide +kernel
theorem dX12_dimension_215 : decode cX12_dimension 215 = .ok (.istore 8, 2) := by decide +kernel
theorem dX12_dimension_217 : decode cX12_dimension 217 = .ok (.iload 8, 2) := by decide +kernel
theorem dX12_dimension_219 : decode cX12_dimension 219 = .ok (.bipush 36, 2) := by decide +kernel
theorem dX12_dimension_221 : decode cX12_dimension 221 = .ok (.if_icmp .ge 23, 3) := by decide +kernel
theorem dX12_dimension_224 : decode cX12_dimension 224 = .ok (.aload_n 0, 1) := by decide +kernel
theorem dX12_dimension_225 : decode cX12_dimension 225 = .ok (.getfield 38, 3) := by decide +kernel
theorem dX12_dimension_228 : decode cX12_dimension 228 = .ok (.iload 8, 2) := by decide +kernel
theorem dX12_dimension_230 : decode cX12_dimension 230 = .ok (.aload_n 0, 1) := by decide +kernel
theorem dX12_dimension_231 : decode cX12_dimension 231 = .ok (.getfield 34, 3) := by decide +kernel
theorem dX12_dimension_234 : decode cX12_dimension 234 = .ok (.iload 8, 2) := by decide +kernel
theorem dX12_dimension_236 : decode cX12_dimension 236 = .ok (.laload, 1) := by decide +kernel
theorem dX12_dimension_237 : decode cX12_dimension 237 = .ok (.lastore, 1) := by decide +kernel
theorem dX12_dimension_238 : decode cX12_dimension 238 = .ok (.iinc 8 1, 3) := by decide +kernel
theorem dX12_dimension_241 : decode cX12_dimension 241 = .ok (.goto (-24), 3) := by decide +kernel
theorem dX12_dimension_244 : decode cX12_dimension 244 = .ok (.goto 12, 3) := by decide +kernel
theorem dX12_dimension_247 : decode cX12_dimension 247 = .ok (.iload 4, 2) := by decide +kernel
theorem dX12_dimension_249 : decode cX12_dimension 249 = .ok (.aload_n 0, 1) := by decide +kernel
theorem dX12_dimension_250 : decode cX12_dimension 250 = .ok (.invokevirtual 227, 3) := by decide +kernel
theorem dX12_dimension_253 : decode cX12_dimension 253 = .ok (.iadd, 1) := by decide +kernel
theorem dX12_dimension_254 : decode cX12_dimension 254 = .ok (.istore 4, 2) := by decide +kernel
theorem dX12_dimension_256 : decode cX12_dimension 256 = .ok (.iinc 7 1, 3) := by decide +kernel
theorem dX12_dimension_259 : decode cX12_dimension 259 = .ok (.goto (-97), 3) := by decide +kernel
theorem dX12_dimension_262 : decode cX12_dimension 262 = .ok (.iload_n 1, 1) := by decide +kernel
theorem dX12_dimension_263 : decode cX12_dimension 263 = .ok (.iload_n 1, 1) := by decide +kernel
theorem dX12_dimension_264 : decode cX12_dimension 264 = .ok (.imul, 1) := by decide +kernel
theorem dX12_dimension_265 : decode cX12_dimension 265 = .ok (.iload 4, 2) := by decide +kernel
theorem dX12_dimension_267 : decode cX12_dimension 267 = .ok (.isub, 1) := by decide +kernel
theorem dX12_dimension_268 : decode cX12_dimension 268 = .ok (.ireturn, 1) := by decide +kernel
theorem dJ6_bitCount_0f7a4_0 : decode cJ6_bitCount_0f7a4 0 = .ok (.iload_n 0, 1) := by decide +kernel
theorem dJ6_bitCount_0f7a4_1 : decode cJ6_bitCount_0f7a4 1 = .ok (.iload_n 0, 1) := by decide +kernel
theorem dJ6_bitCount_0f7a4_2 : decode cJ6_bitCount_0f7a4 2 = .ok (.iconst 1, 1) := by decide +kernel
theorem dJ6_bitCount_0f7a4_3 : decode cJ6_bitCount_0f7a4 3 = .ok (.iushr, 1) := by decide +kernel
theorem dJ6_bitCount_0f7a4_4 : decode cJ6_bitCount_0f7a4 4 = .ok (.ldc_w 265, 3) := by decide +kernel
theorem dJ6_bitCount_0f7a4_7 : decode cJ6_bitCount_0f7a4 7 = .ok (.iand, 1) := by decide +kernel
theorem dJ6_bitCount_0f7a4_8 : decode cJ6_bitCount_0f7a4 8 = .ok (.isub, 1) := by decide +kernel
theorem dJ6_bitCount_0f7a4_9 : decode cJ6_bitCount_0f7a4 9 = .ok (.istore_n 0, 1) := by decide +kernel
theorem dJ6_bitCount_0f7a4_10 : decode cJ6_bitCount_0f7a4 10 = .ok (.iload_n 0, 1) := by decide +kernel
theorem dJ6_bitCount_0f7a4_11 : decode cJ6_bitCount_0f7a4 11 = .ok (.ldc_w 266, 3) := by decide +kernel
theorem dJ6_bitCount_0f7a4_14 : decode cJ6_bitCount_0f7a4 14 = .ok (.iand, 1) := by decide +kernel
theorem dJ6_bitCount_0f7a4_15 : decode cJ6_bitCount_0f7a4 15 = .ok (.iload_n 0, 1) := by decide +kernel
theorem dJ6_bitCount_0f7a4_16 : decode cJ6_bitCount_0f7a4 16 = .ok (.iconst 2, 1) := by decide +kernel
theorem dJ6_bitCount_0f7a4_17 : decode cJ6_bitCount_0f7a4 17 = .ok (.iushr, 1) := by decide +kernel
theorem dJ6_bitCount_0f7a4_18 : decode cJ6_bitCount_0f7a4 18 = .ok (.ldc_w 266, 3) := by decide +kernel
theorem dJ6_bitCount_0f7a4_21 : decode cJ6_bitCount_0f7a4 21 = .ok (.iand, 1) := by decide +kernel
theorem dJ6_bitCount_0f7a4_22 : decode cJ6_bitCount_0f7a4 22 = .ok (.iadd, 1) := by decide +kernel
theorem dJ6_bitCount_0f7a4_23 : decode cJ6_bitCount_0f7a4 23 = .ok (.istore_n 0, 1) := by decide +kernel
theorem dJ6_bitCount_0f7a4_24 : decode cJ6_bitCount_0f7a4 24 = .ok (.iload_n 0, 1) := by decide +kernel
theorem dJ6_bitCount_0f7a4_25 : decode cJ6_bitCount_0f7a4 25 = .ok (.iload_n 0, 1) := by decide +kernel
theorem dJ6_bitCount_0f7a4_26 : decode cJ6_bitCount_0f7a4 26 = .ok (.iconst 4, 1) := by decide +kernel
theorem dJ6_bitCount_0f7a4_27 : decode cJ6_bitCount_0f7a4 27 = .ok (.iushr, 1) := by decide +kernel
theorem dJ6_bitCount_0f7a4_28 : decode cJ6_bitCount_0f7a4 28 = .ok (.iadd, 1) := by decide +kernel
theorem dJ6_bitCount_0f7a4_29 : decode cJ6_bitCount_0f7a4 29 = .ok (.ldc_w 267, 3) := by decide +kernel
theorem dJ6_bitCount_0f7a4_32 : decode cJ6_bitCount_0f7a4 32 = .ok (.iand, 1) := by decide +kernel
theorem dJ6_bitCount_0f7a4_33 : decode cJ6_bitCount_0f7a4 33 = .ok (.istore_n 0, 1) := by decide +kernel
theorem dJ6_bitCount_0f7a4_34 : decode cJ6_bitCount_0f7a4 34 = .ok (.iload_n 0, 1) := by decide +kernel
theorem dJ6_bitCount_0f7a4_35 : decode cJ6_bitCount_0f7a4 35 = .ok (.iload_n 0, 1) := by decide +kernel
theorem dJ6_bitCount_0f7a4_36 : decode cJ6_bitCount_0f7a4 36 = .ok (.bipush 8, 2) := by decide +kernel
theorem dJ6_bitCount_0f7a4_38 : decode cJ6_bitCount_0f7a4 38 = .ok (.iushr, 1) := by decide +kernel
theorem dJ6_bitCount_0f7a4_39 : decode cJ6_bitCount_0f7a4 39 = .ok (.iadd, 1) := by decide +kernel
theorem dJ6_bitCount_0f7a4_40 : decode cJ6_bitCount_0f7a4 40 = .ok (.istore_n 0, 1) := by decide +kernel
theorem dJ6_bitCount_0f7a4_41 : decode cJ6_bitCount_0f7a4 41 = .ok (.iload_n 0, 1) := by decide +kernel
theorem dJ6_bitCount_0f7a4_42 : decode cJ6_bitCount_0f7a4 42 = .ok (.iload_n 0, 1) := by decide +kernel
theorem dJ6_bitCount_0f7a4_43 : decode cJ6_bitCount_0f7a4 43 = .ok (.bipush 16, 2) := by decide +kernel
theorem dJ6_bitCount_0f7a4_45 : decode cJ6_bitCount_0f7a4 45 = .ok (.iushr, 1) := by decide +kernel
theorem dJ6_bitCount_0f7a4_46 : decode cJ6_bitCount_0f7a4 46 = .ok (.iadd, 1) := by decide +kernel
theorem dJ6_bitCount_0f7a4_47 : decode cJ6_bitCount_0f7a4 47 = .ok (.istore_n 0, 1) := by decide +kernel
theorem dJ6_bitCount_0f7a4_48 : decode cJ6_bitCount_0f7a4 48 = .ok (.iload_n 0, 1) := by decide +kernel
theorem dJ6_bitCount_0f7a4_49 : decode cJ6_bitCount_0f7a4 49 = .ok (.bipush 63, 2) := by decide +kernel
theorem dJ6_bitCount_0f7a4_51 : decode cJ6_bitCount_0f7a4 51 = .ok (.iand, 1) := by decide +kernel
theorem dJ6_bitCount_0f7a4_52 : decode cJ6_bitCount_0f7a4 52 = .ok (.ireturn, 1) := by decide +kernel
theorem dJ9_floorMod_7cf53_0 : decode cJ9_floorMod_7cf53 0 = .ok (.iload_n 0, 1) := by decide +kernel
theorem dJ9_floorMod_7cf53_1 : decode cJ9_floorMod_7cf53 1 = .ok (.iload_n 1, 1) := by decide +kernel
theorem dJ9_floorMod_7cf53_2 : decode cJ9_floorMod_7cf53 2 = .ok (.irem, 1) := by decide +kernel
theorem dJ9_floorMod_7cf53_3 : decode cJ9_floorMod_7cf53 3 = .ok (.istore_n 2, 1) := by decide +kernel
theorem dJ9_floorMod_7cf53_4 : decode cJ9_floorMod_7cf53 4 = .ok (.iload_n 0, 1) := by decide +kernel
theorem dJ9_floorMod_7cf53_5 : decode cJ9_floorMod_7cf53 5 = .ok (.iload_n 1, 1) := by decide +kernel
theorem dJ9_floorMod_7cf53_6 : decode cJ9_floorMod_7cf53 6 = .ok (.ixor, 1) := by decide +kernel
theorem dJ9_floorMod_7cf53_7 : decode cJ9_floorMod_7cf53 7 = .ok (.ifCond .ge 11, 3) := by decide +kernel
theorem dJ9_floorMod_7cf53_10 : decode cJ9_floorMod_7cf53 10 = .ok (.iload_n 2, 1) := by decide +kernel
theorem dJ9_floorMod_7cf53_11 : decode cJ9_floorMod_7cf53 11 = .ok (.ifCond .eq 7, 3) := by decide +kernel
theorem dJ9_floorMod_7cf53_14 : decode cJ9_floorMod_7cf53 14 = .ok (.iload_n 2, 1) := by decide +kernel
theorem dJ9_floorMod_7cf53_15 : decode cJ9_floorMod_7cf53 15 = .ok (.iload_n 1, 1) := by decide +kernel
theorem dJ9_floorMod_7cf53_16 : decode cJ9_floorMod_7cf53 16 = .ok (.iadd, 1) := by decide +kernel
theorem dJ9_floorMod_7cf53_17 : decode cJ9_floorMod_7cf53 17 = .ok (.ireturn, 1) := by decide +kernel
theorem dJ9_floorMod_7cf53_18 : decode cJ9_floorMod_7cf53 18 = .ok (.iload_n 2, 1) := by decide +kernel
theorem dJ9_floorMod_7cf53_19 : decode cJ9_floorMod_7cf53 19 = .ok (.ireturn, 1) := by decide +kernel
theorem dJ9_floorMod_f86c9_0 : decode cJ9_floorMod_f86c9 0 = .ok (.lload_n 0, 1) := by decide +kernel
theorem dJ9_floorMod_f86c9_1 : decode cJ9_floorMod_f86c9 1 = .ok (.lload_n 2, 1) := by decide +kernel
theorem dJ9_floorMod_f86c9_2 : decode cJ9_floorMod_f86c9 2 = .ok (.lrem, 1) := by decide +kernel
theorem dJ9_floorMod_f86c9_3 : decode cJ9_floorMod_f86c9 3 = .ok (.lstore 4, 2) := by decide +kernel
theorem dJ9_floorMod_f86c9_5 : decode cJ9_floorMod_f86c9 5 = .ok (.lload_n 0, 1) := by decide +kernel
theorem dJ9_floorMod_f86c9_6 : decode cJ9_floorMod_f86c9 6 = .ok (.lload_n 2, 1) := by decide +kernel
theorem dJ9_floorMod_f86c9_7 : decode cJ9_floorMod_f86c9 7 = .ok (.lxor, 1) := by decide +kernel
theorem dJ9_floorMod_f86c9_8 : decode cJ9_floorMod_f86c9 8 = .ok (.lconst 0, 1) := by decide +kernel
theorem dJ9_floorMod_f86c9_9 : decode cJ9_floorMod_f86c9 9 = .ok (.lcmp, 1) := by decide +kernel
theorem dJ9_floorMod_f86c9_10 : decode cJ9_floorMod_f86c9 10 = .ok (.ifCond .ge 15, 3) := by decide +kernel
theorem dJ9_floorMod_f86c9_13 : decode cJ9_floorMod_f86c9 13 = .ok (.lload 4, 2) := by decide +kernel
theorem dJ9_floorMod_f86c9_15 : decode cJ9_floorMod_f86c9 15 = .ok (.lconst 0, 1) := by decide +kernel
theorem dJ9_floorMod_f86c9_16 : decode cJ9_floorMod_f86c9 16 = .ok (.lcmp, 1) := by decide +kernel
theorem dJ9_floorMod_f86c9_17 : decode cJ9_floorMod_f86c9 17 = .ok (.ifCond .eq 8, 3) := by decide +kernel
theorem dJ9_floorMod_f86c9_20 : decode cJ9_floorMod_f86c9 20 = .ok (.lload 4, 2) := by decide +kernel
theorem dJ9_floorMod_f86c9_22 : decode cJ9_floorMod_f86c9 22 = .ok (.lload_n 2, 1) := by decide +kernel
theorem dJ9_floorMod_f86c9_23 : decode cJ9_floorMod_f86c9 23 = .ok (.ladd, 1) := by decide +kernel
theorem dJ9_floorMod_f86c9_24 : decode cJ9_floorMod_f86c9 24 = .ok (.lreturn, 1) := by decide +kernel
theorem dJ9_floorMod_f86c9_25 : decode cJ9_floorMod_f86c9 25 = .ok (.lload 4, 2) := by decide +kernel
theorem dJ9_floorMod_f86c9_27 : decode cJ9_floorMod_f86c9 27 = .ok (.lreturn, 1) := by decide +kernel
theorem dJ9_max_7cf53_0 : decode cJ9_max_7cf53 0 = .ok (.iload_n 0, 1) := by decide +kernel
theorem dJ9_max_7cf53_1 : decode cJ9_max_7cf53 1 = .ok (.iload_n 1, 1) := by decide +kernel
theorem dJ9_max_7cf53_2 : decode cJ9_max_7cf53 2 = .ok (.if_icmp .lt 7, 3) := by decide +kernel
theorem dJ9_max_7cf53_5 : decode cJ9_max_7cf53 5 = .ok (.iload_n 0, 1) := by decide +kernel
theorem dJ9_max_7cf53_6 : decode cJ9_max_7cf53 6 = .ok (.goto 4, 3) := by decide +kernel
theorem dJ9_max_7cf53_9 : decode cJ9_max_7cf53 9 = .ok (.iload_n 1, 1) := by decide +kernel
theorem dJ9_max_7cf53_10 : decode cJ9_max_7cf53 10 = .ok (.ireturn, 1) := by decide +kernel
theorem dJ9_min_7cf53_0 : decode cJ9_min_7cf53 0 = .ok (.iload_n 0, 1) := by decide +kernel
theorem dJ9_min_7cf53_1 : decode cJ9_min_7cf53 1 = .ok (.iload_n 1, 1) := by decide +kernel
theorem dJ9_min_7cf53_2 : decode cJ9_min_7cf53 2 = .ok (.if_icmp .gt 7, 3) := by decide +kernel
theorem dJ9_min_7cf53_5 : decode cJ9_min_7cf53 5 = .ok (.iload_n 0, 1) := by decide +kernel
theorem dJ9_min_7cf53_6 : decode cJ9_min_7cf53 6 = .ok (.goto 4, 3) := by decide +kernel
theorem dJ9_min_7cf53_9 : decode cJ9_min_7cf53 9 = .ok (.iload_n 1, 1) := by decide +kernel
theorem dJ9_min_7cf53_10 : decode cJ9_min_7cf53 10 = .ok (.ireturn, 1) := by decide +kernel
theorem dL_square_0 : decode cL_square 0 = .ok (.aload_n 2, 1) := by decide +kernel
theorem dL_square_1 : decode cL_square 1 = .ok (.iconst 0, 1) := by decide +kernel
theorem dL_square_2 : decode cL_square 2 = .ok (.aload_n 0, 1) := by decide +kernel
theorem dL_square_3 : decode cL_square 3 = .ok (.iload_n 1, 1) := by decide +kernel
theorem dL_square_4 : decode cL_square 4 = .ok (.invokevirtual 7, 3) := by decide +kernel
theorem dL_square_7 : decode cL_square 7 = .ok (.i2l, 1) := by decide +kernel
theorem dL_square_8 : decode cL_square 8 = .ok (.lastore, 1) := by decide +kernel
theorem dL_square_9 : decode cL_square 9 = .ok (.goto 9, 3) := by decide +kernel
theorem dL_square_12 : decode cL_square 12 = .ok (.astore_n 3, 1) := by decide +kernel
theorem dL_square_13 : decode cL_square 13 = .ok (.iconst 1, 1) := by decide +kernel
theorem dL_square_14 : decode cL_square 14 = .ok (.ireturn, 1) := by decide +kernel
theorem dL_square_15 : decode cL_square 15 = .ok (.astore_n 3, 1) := by decide +kernel
theorem dL_square_16 : decode cL_square 16 = .ok (.iconst 2, 1) := by decide +kernel
theorem dL_square_17 : decode cL_square 17 = .ok (.ireturn, 1) := by decide +kernel
theorem dL_square_18 : decode cL_square 18 = .ok (.iconst 0, 1) := by decide +kernel
theorem dL_square_19 : decode cL_square 19 = .ok (.ireturn, 1) := by decide +kernel
theorem dL_put_0 : decode cL_put 0 = .ok (.aload 5, 2) := by decide +kernel
theorem dL_put_2 : decode cL_put 2 = .ok (.iconst 0, 1) := by decide +kernel
theorem dL_put_3 : decode cL_put 3 = .ok (.aload_n 0, 1) := by decide +kernel
theorem dL_put_4 : decode cL_put 4 = .ok (.iload_n 1, 1) := by decide +kernel
theorem dL_put_5 : decode cL_put 5 = .ok (.iload_n 2, 1) := by decide +kernel
theorem dL_put_6 : decode cL_put 6 = .ok (.iload_n 3, 1) := by decide +kernel
theorem dL_put_7 : decode cL_put 7 = .ok (.iload 4, 2) := by decide +kernel
theorem dL_put_9 : decode cL_put 9 = .ok (.invokevirtual 17, 3) := by decide +kernel
theorem dL_put_12 : decode cL_put 12 = .ok (.i2l, 1) := by decide +kernel
theorem dL_put_13 : decode cL_put 13 = .ok (.lastore, 1) := by decide +kernel
theorem dL_put_14 : decode cL_put 14 = .ok (.goto 11, 3) := by decide +kernel
theorem dL_put_17 : decode cL_put 17 = .ok (.astore 6, 2) := by decide +kernel
theorem dL_put_19 : decode cL_put 19 = .ok (.iconst 1, 1) := by decide +kernel
theorem dL_put_20 : decode cL_put 20 = .ok (.ireturn, 1) := by decide +kernel
theorem dL_put_21 : decode cL_put 21 = .ok (.astore 6, 2) := by decide +kernel
theorem dL_put_23 : decode cL_put 23 = .ok (.iconst 2, 1) := by decide +kernel
theorem dL_put_24 : decode cL_put 24 = .ok (.ireturn, 1) := by decide +kernel
theorem dL_put_25 : decode cL_put 25 = .ok (.iconst 0, 1) := by decide +kernel
theorem dL_put_26 : decode cL_put 26 = .ok (.ireturn, 1) := by decide +kernel
theorem dL_at_0 : decode cL_at 0 = .ok (.aload 4, 2) := by decide +kernel
theorem dL_at_2 : decode cL_at 2 = .ok (.iconst 0, 1) := by decide +kernel
theorem dL_at_3 : decode cL_at 3 = .ok (.aload_n 0, 1) := by decide +kernel
theorem dL_at_4 : decode cL_at 4 = .ok (.iload_n 1, 1) := by decide +kernel
theorem dL_at_5 : decode cL_at 5 = .ok (.iload_n 2, 1) := by decide +kernel
theorem dL_at_6 : decode cL_at 6 = .ok (.iload_n 3, 1) := by decide +kernel
theorem dL_at_7 : decode cL_at 7 = .ok (.invokevirtual 23, 3) := by decide +kernel
theorem dL_at_10 : decode cL_at 10 = .ok (.i2l, 1) := by decide +kernel
theorem dL_at_11 : decode cL_at 11 = .ok (.lastore, 1) := by decide +kernel
theorem dL_at_12 : decode cL_at 12 = .ok (.goto 7, 3) := by decide +kernel
theorem dL_at_15 : decode cL_at 15 = .ok (.astore 5, 2) := by decide +kernel
theorem dL_at_17 : decode cL_at 17 = .ok (.iconst 1, 1) := by decide +kernel
theorem dL_at_18 : decode cL_at 18 = .ok (.ireturn, 1) := by decide +kernel
theorem dL_at_19 : decode cL_at 19 = .ok (.iconst 0, 1) := by decide +kernel
theorem dL_at_20 : decode cL_at 20 = .ok (.ireturn, 1) := by decide +kernel
theorem dL_make_0 : decode cL_make 0 = .ok (.aload_n 3, 1) := by decide +kernel
theorem dL_make_1 : decode cL_make 1 = .ok (.iconst 0, 1) := by decide +kernel
theorem dL_make_2 : decode cL_make 2 = .ok (.aload_n 0, 1) := by decide +kernel
theorem dL_make_3 : decode cL_make 3 = .ok (.iload_n 1, 1) := by decide +kernel
theorem dL_make_4 : decode cL_make 4 = .ok (.iload_n 2, 1) := by decide +kernel
theorem dL_make_5 : decode cL_make 5 = .ok (.invokevirtual 27, 3) := by decide +kernel
theorem dL_make_8 : decode cL_make 8 = .ok (.i2l, 1) := by decide +kernel
theorem dL_make_9 : decode cL_make 9 = .ok (.lastore, 1) := by decide +kernel
theorem dL_make_10 : decode cL_make 10 = .ok (.goto 11, 3) := by decide +kernel
theorem dL_make_13 : decode cL_make 13 = .ok (.astore 4, 2) := by decide +kernel
theorem dL_make_15 : decode cL_make 15 = .ok (.iconst 1, 1) := by decide +kernel
theorem dL_make_16 : decode cL_make 16 = .ok (.ireturn, 1) := by decide +kernel
theorem dL_make_17 : decode cL_make 17 = .ok (.astore 4, 2) := by decide +kernel
theorem dL_make_19 : decode cL_make 19 = .ok (.iconst 2, 1) := by decide +kernel
theorem dL_make_20 : decode cL_make 20 = .ok (.ireturn, 1) := by decide +kernel
theorem dL_make_21 : decode cL_make 21 = .ok (.iconst 0, 1) := by decide +kernel
theorem dL_make_22 : decode cL_make 22 = .ok (.ireturn, 1) := by decide +kernel
theorem dL_laws_0 : decode cL_laws 0 = .ok (.aload_n 2, 1) := by decide +kernel
theorem dL_laws_1 : decode cL_laws 1 = .ok (.iconst 0, 1) := by decide +kernel
theorem dL_laws_2 : decode cL_laws 2 = .ok (.aload_n 0, 1) := by decide +kernel
theorem dL_laws_3 : decode cL_laws 3 = .ok (.iload_n 1, 1) := by decide +kernel
theorem dL_laws_4 : decode cL_laws 4 = .ok (.invokevirtual 31, 3) := by decide +kernel
theorem dL_laws_7 : decode cL_laws 7 = .ok (.i2l, 1) := by decide +kernel
theorem dL_laws_8 : decode cL_laws 8 = .ok (.lastore, 1) := by decide +kernel
theorem dL_laws_9 : decode cL_laws 9 = .ok (.goto 6, 3) := by decide +kernel
theorem dL_laws_12 : decode cL_laws 12 = .ok (.astore_n 3, 1) := by decide +kernel
theorem dL_laws_13 : decode cL_laws 13 = .ok (.iconst 1, 1) := by decide +kernel
theorem dL_laws_14 : decode cL_laws 14 = .ok (.ireturn, 1) := by decide +kernel
theorem dL_laws_15 : decode cL_laws 15 = .ok (.iconst 0, 1) := by decide +kernel
theorem dL_laws_16 : decode cL_laws 16 = .ok (.ireturn, 1) := by decide +kernel
theorem dL_sum_0 : decode cL_sum 0 = .ok (.aload 4, 2) := by decide +kernel
theorem dL_sum_2 : decode cL_sum 2 = .ok (.iconst 0, 1) := by decide +kernel
theorem dL_sum_3 : decode cL_sum 3 = .ok (.aload_n 0, 1) := by decide +kernel
theorem dL_sum_4 : decode cL_sum 4 = .ok (.iload_n 1, 1) := by decide +kernel
theorem dL_sum_5 : decode cL_sum 5 = .ok (.iload_n 2, 1) := by decide +kernel
theorem dL_sum_6 : decode cL_sum 6 = .ok (.iload_n 3, 1) := by decide +kernel
theorem dL_sum_7 : decode cL_sum 7 = .ok (.invokevirtual 34, 3) := by decide +kernel
theorem dL_sum_10 : decode cL_sum 10 = .ok (.i2l, 1) := by decide +kernel
theorem dL_sum_11 : decode cL_sum 11 = .ok (.lastore, 1) := by decide +kernel
theorem dL_sum_12 : decode cL_sum 12 = .ok (.goto 11, 3) := by decide +kernel
theorem dL_sum_15 : decode cL_sum 15 = .ok (.astore 5, 2) := by decide +kernel
theorem dL_sum_17 : decode cL_sum 17 = .ok (.iconst 1, 1) := by decide +kernel
theorem dL_sum_18 : decode cL_sum 18 = .ok (.ireturn, 1) := by decide +kernel
theorem dL_sum_19 : decode cL_sum 19 = .ok (.astore 5, 2) := by decide +kernel
theorem dL_sum_21 : decode cL_sum 21 = .ok (.iconst 2, 1) := by decide +kernel
theorem dL_sum_22 : decode cL_sum 22 = .ok (.ireturn, 1) := by decide +kernel
theorem dL_sum_23 : decode cL_sum 23 = .ok (.iconst 0, 1) := by decide +kernel
theorem dL_sum_24 : decode cL_sum 24 = .ok (.ireturn, 1) := by decide +kernel
theorem dL_change_0 : decode cL_change 0 = .ok (.aload 4, 2) := by decide +kernel
theorem dL_change_2 : decode cL_change 2 = .ok (.iconst 0, 1) := by decide +kernel
theorem dL_change_3 : decode cL_change 3 = .ok (.aload_n 0, 1) := by decide +kernel
theorem dL_change_4 : decode cL_change 4 = .ok (.iload_n 1, 1) := by decide +kernel
theorem dL_change_5 : decode cL_change 5 = .ok (.iload_n 2, 1) := by decide +kernel
theorem dL_change_6 : decode cL_change 6 = .ok (.iload_n 3, 1) := by decide +kernel
theorem dL_change_7 : decode cL_change 7 = .ok (.invokevirtual 37, 3) := by decide +kernel
theorem dL_change_10 : decode cL_change 10 = .ok (.i2l, 1) := by decide +kernel
theorem dL_change_11 : decode cL_change 11 = .ok (.lastore, 1) := by decide +kernel
theorem dL_change_12 : decode cL_change 12 = .ok (.goto 15, 3) := by decide +kernel
theorem dL_change_15 : decode cL_change 15 = .ok (.astore 5, 2) := by decide +kernel
theorem dL_change_17 : decode cL_change 17 = .ok (.iconst 1, 1) := by decide +kernel
theorem dL_change_18 : decode cL_change 18 = .ok (.ireturn, 1) := by decide +kernel
theorem dL_change_19 : decode cL_change 19 = .ok (.astore 5, 2) := by decide +kernel
theorem dL_change_21 : decode cL_change 21 = .ok (.iconst 2, 1) := by decide +kernel
theorem dL_change_22 : decode cL_change 22 = .ok (.ireturn, 1) := by decide +kernel
theorem dL_change_23 : decode cL_change 23 = .ok (.astore 5, 2) := by decide +kernel
theorem dL_change_25 : decode cL_change 25 = .ok (.iconst 3, 1) := by decide +kernel
theorem dL_change_26 : decode cL_change 26 = .ok (.ireturn, 1) := by decide +kernel
theorem dL_change_27 : decode cL_change 27 = .ok (.iconst 0, 1) := by decide +kernel
theorem dL_change_28 : decode cL_change 28 = .ok (.ireturn, 1) := by decide +kernel
theorem dL_same_0 : decode cL_same 0 = .ok (.aload_n 3, 1) := by decide +kernel
theorem dL_same_1 : decode cL_same 1 = .ok (.iconst 0, 1) := by decide +kernel
theorem dL_same_2 : decode cL_same 2 = .ok (.aload_n 0, 1) := by decide +kernel
theorem dL_same_3 : decode cL_same 3 = .ok (.iload_n 1, 1) := by decide +kernel
theorem dL_same_4 : decode cL_same 4 = .ok (.iload_n 2, 1) := by decide +kernel
theorem dL_same_5 : decode cL_same 5 = .ok (.invokevirtual 40, 3) := by decide +kernel
theorem dL_same_8 : decode cL_same 8 = .ok (.ifCond .eq 7, 3) := by decide +kernel
theorem dL_same_11 : decode cL_same 11 = .ok (.lconst 1, 1) := by decide +kernel
theorem dL_same_12 : decode cL_same 12 = .ok (.goto 4, 3) := by decide +kernel
theorem dL_same_15 : decode cL_same 15 = .ok (.lconst 0, 1) := by decide +kernel
theorem dL_same_16 : decode cL_same 16 = .ok (.lastore, 1) := by decide +kernel
theorem dL_same_17 : decode cL_same 17 = .ok (.goto 7, 3) := by decide +kernel
theorem dL_same_20 : decode cL_same 20 = .ok (.astore 4, 2) := by decide +kernel
theorem dL_same_22 : decode cL_same 22 = .ok (.iconst 1, 1) := by decide +kernel
theorem dL_same_23 : decode cL_same 23 = .ok (.ireturn, 1) := by decide +kernel
theorem dL_same_24 : decode cL_same 24 = .ok (.iconst 0, 1) := by decide +kernel
theorem dL_same_25 : decode cL_same 25 = .ok (.ireturn, 1) := by decide +kernel
theorem dL_least_0 : decode cL_least 0 = .ok (.aload 4, 2) := by decide +kernel
theorem dL_least_2 : decode cL_least 2 = .ok (.iconst 0, 1) := by decide +kernel
theorem dL_least_3 : decode cL_least 3 = .ok (.aload_n 0, 1) := by decide +kernel
theorem dL_least_4 : decode cL_least 4 = .ok (.iload_n 1, 1) := by decide +kernel
theorem dL_least_5 : decode cL_least 5 = .ok (.iload_n 2, 1) := by decide +kernel
theorem dL_least_6 : decode cL_least 6 = .ok (.iload_n 3, 1) := by decide +kernel
theorem dL_least_7 : decode cL_least 7 = .ok (.invokevirtual 44, 3) := by decide +kernel
theorem dL_least_10 : decode cL_least 10 = .ok (.i2l, 1) := by decide +kernel
theorem dL_least_11 : decode cL_least 11 = .ok (.lastore, 1) := by decide +kernel
theorem dL_least_12 : decode cL_least 12 = .ok (.goto 7, 3) := by decide +kernel
theorem dL_least_15 : decode cL_least 15 = .ok (.astore 5, 2) := by decide +kernel
theorem dL_least_17 : decode cL_least 17 = .ok (.iconst 1, 1) := by decide +kernel
theorem dL_least_18 : decode cL_least 18 = .ok (.ireturn, 1) := by decide +kernel
theorem dL_least_19 : decode cL_least 19 = .ok (.iconst 0, 1) := by decide +kernel
theorem dL_least_20 : decode cL_least 20 = .ok (.ireturn, 1) := by decide +kernel
theorem dL_kin_0 : decode cL_kin 0 = .ok (.aload_n 2, 1) := by decide +kernel
theorem dL_kin_1 : decode cL_kin 1 = .ok (.iconst 0, 1) := by decide +kernel
theorem dL_kin_2 : decode cL_kin 2 = .ok (.aload_n 0, 1) := by decide +kernel
theorem dL_kin_3 : decode cL_kin 3 = .ok (.iload_n 1, 1) := by decide +kernel
theorem dL_kin_4 : decode cL_kin 4 = .ok (.invokevirtual 47, 3) := by decide +kernel
theorem dL_kin_7 : decode cL_kin 7 = .ok (.i2l, 1) := by decide +kernel
theorem dL_kin_8 : decode cL_kin 8 = .ok (.lastore, 1) := by decide +kernel
theorem dL_kin_9 : decode cL_kin 9 = .ok (.goto 6, 3) := by decide +kernel
theorem dL_kin_12 : decode cL_kin 12 = .ok (.astore_n 3, 1) := by decide +kernel
theorem dL_kin_13 : decode cL_kin 13 = .ok (.iconst 1, 1) := by decide +kernel
theorem dL_kin_14 : decode cL_kin 14 = .ok (.ireturn, 1) := by decide +kernel
theorem dL_kin_15 : decode cL_kin 15 = .ok (.iconst 0, 1) := by decide +kernel
theorem dL_kin_16 : decode cL_kin 16 = .ok (.ireturn, 1) := by decide +kernel
theorem dL_completions_0 : decode cL_completions 0 = .ok (.aload_n 2, 1) := by decide +kernel
theorem dL_completions_1 : decode cL_completions 1 = .ok (.iconst 0, 1) := by decide +kernel
theorem dL_completions_2 : decode cL_completions 2 = .ok (.aload_n 0, 1) := by decide +kernel
theorem dL_completions_3 : decode cL_completions 3 = .ok (.iload_n 1, 1) := by decide +kernel
theorem dL_completions_4 : decode cL_completions 4 = .ok (.invokevirtual 50, 3) := by decide +kernel
theorem dL_completions_7 : decode cL_completions 7 = .ok (.i2l, 1) := by decide +kernel
theorem dL_completions_8 : decode cL_completions 8 = .ok (.lastore, 1) := by decide +kernel
theorem dL_completions_9 : decode cL_completions 9 = .ok (.goto 9, 3) := by decide +kernel
theorem dL_completions_12 : decode cL_completions 12 = .ok (.astore_n 3, 1) := by decide +kernel
theorem dL_completions_13 : decode cL_completions 13 = .ok (.iconst 1, 1) := by decide +kernel
theorem dL_completions_14 : decode cL_completions 14 = .ok (.ireturn, 1) := by decide +kernel
theorem dL_completions_15 : decode cL_completions 15 = .ok (.astore_n 3, 1) := by decide +kernel
theorem dL_completions_16 : decode cL_completions 16 = .ok (.iconst 2, 1) := by decide +kernel
theorem dL_completions_17 : decode cL_completions 17 = .ok (.ireturn, 1) := by decide +kernel
theorem dL_completions_18 : decode cL_completions 18 = .ok (.iconst 0, 1) := by decide +kernel
theorem dL_completions_19 : decode cL_completions 19 = .ok (.ireturn, 1) := by decide +kernel
theorem dL_completion_0 : decode cL_completion 0 = .ok (.aload 5, 2) := by decide +kernel
theorem dL_completion_2 : decode cL_completion 2 = .ok (.iconst 0, 1) := by decide +kernel
theorem dL_completion_3 : decode cL_completion 3 = .ok (.aload_n 0, 1) := by decide +kernel
theorem dL_completion_4 : decode cL_completion 4 = .ok (.iload_n 1, 1) := by decide +kernel
theorem dL_completion_5 : decode cL_completion 5 = .ok (.iload_n 2, 1) := by decide +kernel
theorem dL_completion_6 : decode cL_completion 6 = .ok (.iload_n 3, 1) := by decide +kernel
theorem dL_completion_7 : decode cL_completion 7 = .ok (.iload 4, 2) := by decide +kernel
theorem dL_completion_9 : decode cL_completion 9 = .ok (.invokevirtual 53, 3) := by decide +kernel
theorem dL_completion_12 : decode cL_completion 12 = .ok (.i2l, 1) := by decide +kernel
theorem dL_completion_13 : decode cL_completion 13 = .ok (.lastore, 1) := by decide +kernel
theorem dL_completion_14 : decode cL_completion 14 = .ok (.goto 15, 3) := by decide +kernel
theorem dL_completion_17 : decode cL_completion 17 = .ok (.astore 6, 2) := by decide +kernel
theorem dL_completion_19 : decode cL_completion 19 = .ok (.iconst 1, 1) := by decide +kernel
theorem dL_completion_20 : decode cL_completion 20 = .ok (.ireturn, 1) := by decide +kernel
theorem dL_completion_21 : decode cL_completion 21 = .ok (.astore 6, 2) := by decide +kernel
theorem dL_completion_23 : decode cL_completion 23 = .ok (.iconst 2, 1) := by decide +kernel
theorem dL_completion_24 : decode cL_completion 24 = .ok (.ireturn, 1) := by decide +kernel
theorem dL_completion_25 : decode cL_completion 25 = .ok (.astore 6, 2) := by decide +kernel
theorem dL_completion_27 : decode cL_completion 27 = .ok (.iconst 3, 1) := by decide +kernel
theorem dL_completion_28 : decode cL_completion 28 = .ok (.ireturn, 1) := by decide +kernel
theorem dL_completion_29 : decode cL_completion 29 = .ok (.iconst 0, 1) := by decide +kernel
theorem dL_completion_30 : decode cL_completion 30 = .ok (.ireturn, 1) := by decide +kernel
theorem dL_estimate_0 : decode cL_estimate 0 = .ok (.aload_n 3, 1) := by decide +kernel
theorem dL_estimate_1 : decode cL_estimate 1 = .ok (.iconst 0, 1) := by decide +kernel
theorem dL_estimate_2 : decode cL_estimate 2 = .ok (.aload_n 0, 1) := by decide +kernel
theorem dL_estimate_3 : decode cL_estimate 3 = .ok (.iload_n 1, 1) := by decide +kernel
theorem dL_estimate_4 : decode cL_estimate 4 = .ok (.iload_n 2, 1) := by decide +kernel
theorem dL_estimate_5 : decode cL_estimate 5 = .ok (.invokevirtual 56, 3) := by decide +kernel
theorem dL_estimate_8 : decode cL_estimate 8 = .ok (.lastore, 1) := by decide +kernel
theorem dL_estimate_9 : decode cL_estimate 9 = .ok (.goto 15, 3) := by decide +kernel
theorem dL_estimate_12 : decode cL_estimate 12 = .ok (.astore 4, 2) := by decide +kernel
theorem dL_estimate_14 : decode cL_estimate 14 = .ok (.iconst 1, 1) := by decide +kernel
theorem dL_estimate_15 : decode cL_estimate 15 = .ok (.ireturn, 1) := by decide +kernel
theorem dL_estimate_16 : decode cL_estimate 16 = .ok (.astore 4, 2) := by decide +kernel
theorem dL_estimate_18 : decode cL_estimate 18 = .ok (.iconst 2, 1) := by decide +kernel
theorem dL_estimate_19 : decode cL_estimate 19 = .ok (.ireturn, 1) := by decide +kernel
theorem dL_estimate_20 : decode cL_estimate 20 = .ok (.astore 4, 2) := by decide +kernel
theorem dL_estimate_22 : decode cL_estimate 22 = .ok (.iconst 3, 1) := by decide +kernel
theorem dL_estimate_23 : decode cL_estimate 23 = .ok (.ireturn, 1) := by decide +kernel
theorem dL_estimate_24 : decode cL_estimate 24 = .ok (.iconst 0, 1) := by decide +kernel
theorem dL_estimate_25 : decode cL_estimate 25 = .ok (.ireturn, 1) := by decide +kernel
theorem dL_givens_0 : decode cL_givens 0 = .ok (.aload_n 3, 1) := by decide +kernel
theorem dL_givens_1 : decode cL_givens 1 = .ok (.iconst 0, 1) := by decide +kernel
theorem dL_givens_2 : decode cL_givens 2 = .ok (.aload_n 0, 1) := by decide +kernel
theorem dL_givens_3 : decode cL_givens 3 = .ok (.iload_n 1, 1) := by decide +kernel
theorem dL_givens_4 : decode cL_givens 4 = .ok (.iload_n 2, 1) := by decide +kernel
theorem dL_givens_5 : decode cL_givens 5 = .ok (.invokevirtual 60, 3) := by decide +kernel
theorem dL_givens_8 : decode cL_givens 8 = .ok (.i2l, 1) := by decide +kernel
theorem dL_givens_9 : decode cL_givens 9 = .ok (.lastore, 1) := by decide +kernel
theorem dL_givens_10 : decode cL_givens 10 = .ok (.goto 11, 3) := by decide +kernel
theorem dL_givens_13 : decode cL_givens 13 = .ok (.astore 4, 2) := by decide +kernel
theorem dL_givens_15 : decode cL_givens 15 = .ok (.iconst 1, 1) := by decide +kernel
theorem dL_givens_16 : decode cL_givens 16 = .ok (.ireturn, 1) := by decide +kernel
theorem dL_givens_17 : decode cL_givens 17 = .ok (.astore 4, 2) := by decide +kernel
theorem dL_givens_19 : decode cL_givens 19 = .ok (.iconst 2, 1) := by decide +kernel
theorem dL_givens_20 : decode cL_givens 20 = .ok (.ireturn, 1) := by decide +kernel
theorem dL_givens_21 : decode cL_givens 21 = .ok (.iconst 0, 1) := by decide +kernel
theorem dL_givens_22 : decode cL_givens 22 = .ok (.ireturn, 1) := by decide +kernel
theorem dL_slip_0 : decode cL_slip 0 = .ok (.aload_n 3, 1) := by decide +kernel
theorem dL_slip_1 : decode cL_slip 1 = .ok (.iconst 0, 1) := by decide +kernel
theorem dL_slip_2 : decode cL_slip 2 = .ok (.aload_n 0, 1) := by decide +kernel
theorem dL_slip_3 : decode cL_slip 3 = .ok (.iload_n 1, 1) := by decide +kernel
theorem dL_slip_4 : decode cL_slip 4 = .ok (.iload_n 2, 1) := by decide +kernel
theorem dL_slip_5 : decode cL_slip 5 = .ok (.invokevirtual 64, 3) := by decide +kernel
theorem dL_slip_8 : decode cL_slip 8 = .ok (.i2l, 1) := by decide +kernel
theorem dL_slip_9 : decode cL_slip 9 = .ok (.lastore, 1) := by decide +kernel
theorem dL_slip_10 : decode cL_slip 10 = .ok (.goto 11, 3) := by decide +kernel
theorem dL_slip_13 : decode cL_slip 13 = .ok (.astore 4, 2) := by decide +kernel
theorem dL_slip_15 : decode cL_slip 15 = .ok (.iconst 1, 1) := by decide +kernel
theorem dL_slip_16 : decode cL_slip 16 = .ok (.ireturn, 1) := by decide +kernel
theorem dL_slip_17 : decode cL_slip 17 = .ok (.astore 4, 2) := by decide +kernel
theorem dL_slip_19 : decode cL_slip 19 = .ok (.iconst 2, 1) := by decide +kernel
theorem dL_slip_20 : decode cL_slip 20 = .ok (.ireturn, 1) := by decide +kernel
theorem dL_slip_21 : decode cL_slip 21 = .ok (.iconst 0, 1) := by decide +kernel
theorem dL_slip_22 : decode cL_slip 22 = .ok (.ireturn, 1) := by decide +kernel
theorem dL_orthogonal_0 : decode cL_orthogonal 0 = .ok (.aload_n 3, 1) := by decide +kernel
theorem dL_orthogonal_1 : decode cL_orthogonal 1 = .ok (.iconst 0, 1) := by decide +kernel
theorem dL_orthogonal_2 : decode cL_orthogonal 2 = .ok (.aload_n 0, 1) := by decide +kernel
theorem dL_orthogonal_3 : decode cL_orthogonal 3 = .ok (.iload_n 1, 1) := by decide +kernel
theorem dL_orthogonal_4 : decode cL_orthogonal 4 = .ok (.iload_n 2, 1) := by decide +kernel
theorem dL_orthogonal_5 : decode cL_orthogonal 5 = .ok (.invokevirtual 67, 3) := by decide +kernel
theorem dL_orthogonal_8 : decode cL_orthogonal 8 = .ok (.ifCond .eq 7, 3) := by decide +kernel
theorem dL_orthogonal_11 : decode cL_orthogonal 11 = .ok (.lconst 1, 1) := by decide +kernel
theorem dL_orthogonal_12 : decode cL_orthogonal 12 = .ok (.goto 4, 3) := by decide +kernel
theorem dL_orthogonal_15 : decode cL_orthogonal 15 = .ok (.lconst 0, 1) := by decide +kernel
theorem dL_orthogonal_16 : decode cL_orthogonal 16 = .ok (.lastore, 1) := by decide +kernel
theorem dL_orthogonal_17 : decode cL_orthogonal 17 = .ok (.goto 11, 3) := by decide +kernel
theorem dL_orthogonal_20 : decode cL_orthogonal 20 = .ok (.astore 4, 2) := by decide +kernel
theorem dL_orthogonal_22 : decode cL_orthogonal 22 = .ok (.iconst 1, 1) := by decide +kernel
theorem dL_orthogonal_23 : decode cL_orthogonal 23 = .ok (.ireturn, 1) := by decide +kernel
theorem dL_orthogonal_24 : decode cL_orthogonal 24 = .ok (.astore 4, 2) := by decide +kernel
theorem dL_orthogonal_26 : decode cL_orthogonal 26 = .ok (.iconst 2, 1) := by decide +kernel
theorem dL_orthogonal_27 : decode cL_orthogonal 27 = .ok (.ireturn, 1) := by decide +kernel
theorem dL_orthogonal_28 : decode cL_orthogonal 28 = .ok (.iconst 0, 1) := by decide +kernel
theorem dL_orthogonal_29 : decode cL_orthogonal 29 = .ok (.ireturn, 1) := by decide +kernel
theorem dL_stack_0 : decode cL_stack 0 = .ok (.aload_n 3, 1) := by decide +kernel
theorem dL_stack_1 : decode cL_stack 1 = .ok (.iconst 0, 1) := by decide +kernel
theorem dL_stack_2 : decode cL_stack 2 = .ok (.aload_n 0, 1) := by decide +kernel
theorem dL_stack_3 : decode cL_stack 3 = .ok (.iload_n 1, 1) := by decide +kernel
theorem dL_stack_4 : decode cL_stack 4 = .ok (.iload_n 2, 1) := by decide +kernel
theorem dL_stack_5 : decode cL_stack 5 = .ok (.invokevirtual 70, 3) := by decide +kernel
theorem dL_stack_8 : decode cL_stack 8 = .ok (.i2l, 1) := by decide +kernel
theorem dL_stack_9 : decode cL_stack 9 = .ok (.lastore, 1) := by decide +kernel
theorem dL_stack_10 : decode cL_stack 10 = .ok (.goto 11, 3) := by decide +kernel
theorem dL_stack_13 : decode cL_stack 13 = .ok (.astore 4, 2) := by decide +kernel
theorem dL_stack_15 : decode cL_stack 15 = .ok (.iconst 1, 1) := by decide +kernel
theorem dL_stack_16 : decode cL_stack 16 = .ok (.ireturn, 1) := by decide +kernel
theorem dL_stack_17 : decode cL_stack 17 = .ok (.astore 4, 2) := by decide +kernel
theorem dL_stack_19 : decode cL_stack 19 = .ok (.iconst 2, 1) := by decide +kernel
theorem dL_stack_20 : decode cL_stack 20 = .ok (.ireturn, 1) := by decide +kernel
theorem dL_stack_21 : decode cL_stack 21 = .ok (.iconst 0, 1) := by decide +kernel
theorem dL_stack_22 : decode cL_stack 22 = .ok (.ireturn, 1) := by decide +kernel
theorem dL_product_0 : decode cL_product 0 = .ok (.aload_n 3, 1) := by decide +kernel
theorem dL_product_1 : decode cL_product 1 = .ok (.iconst 0, 1) := by decide +kernel
theorem dL_product_2 : decode cL_product 2 = .ok (.aload_n 0, 1) := by decide +kernel
theorem dL_product_3 : decode cL_product 3 = .ok (.iload_n 1, 1) := by decide +kernel
theorem dL_product_4 : decode cL_product 4 = .ok (.iload_n 2, 1) := by decide +kernel
theorem dL_product_5 : decode cL_product 5 = .ok (.invokevirtual 73, 3) := by decide +kernel
theorem dL_product_8 : decode cL_product 8 = .ok (.i2l, 1) := by decide +kernel
theorem dL_product_9 : decode cL_product 9 = .ok (.lastore, 1) := by decide +kernel
theorem dL_product_10 : decode cL_product 10 = .ok (.goto 11, 3) := by decide +kernel
theorem dL_product_13 : decode cL_product 13 = .ok (.astore 4, 2) := by decide +kernel
theorem dL_product_15 : decode cL_product 15 = .ok (.iconst 1, 1) := by decide +kernel
theorem dL_product_16 : decode cL_product 16 = .ok (.ireturn, 1) := by decide +kernel
theorem dL_product_17 : decode cL_product 17 = .ok (.astore 4, 2) := by decide +kernel
theorem dL_product_19 : decode cL_product 19 = .ok (.iconst 2, 1) := by decide +kernel
theorem dL_product_20 : decode cL_product 20 = .ok (.ireturn, 1) := by decide +kernel
theorem dL_product_21 : decode cL_product 21 = .ok (.iconst 0, 1) := by decide +kernel
theorem dL_product_22 : decode cL_product 22 = .ok (.ireturn, 1) := by decide +kernel
theorem dL_crossings_0 : decode cL_crossings 0 = .ok (.aload_n 3, 1) := by decide +kernel
theorem dL_crossings_1 : decode cL_crossings 1 = .ok (.iconst 0, 1) := by decide +kernel
theorem dL_crossings_2 : decode cL_crossings 2 = .ok (.aload_n 0, 1) := by decide +kernel
theorem dL_crossings_3 : decode cL_crossings 3 = .ok (.iload_n 1, 1) := by decide +kernel
theorem dL_crossings_4 : decode cL_crossings 4 = .ok (.iload_n 2, 1) := by decide +kernel
theorem dL_crossings_5 : decode cL_crossings 5 = .ok (.invokevirtual 76, 3) := by decide +kernel
theorem dL_crossings_8 : decode cL_crossings 8 = .ok (.i2l, 1) := by decide +kernel
theorem dL_crossings_9 : decode cL_crossings 9 = .ok (.lastore, 1) := by decide +kernel
theorem dL_crossings_10 : decode cL_crossings 10 = .ok (.goto 15, 3) := by decide +kernel
theorem dL_crossings_13 : decode cL_crossings 13 = .ok (.astore 4, 2) := by decide +kernel
theorem dL_crossings_15 : decode cL_crossings 15 = .ok (.iconst 1, 1) := by decide +kernel
theorem dL_crossings_16 : decode cL_crossings 16 = .ok (.ireturn, 1) := by decide +kernel
theorem dL_crossings_17 : decode cL_crossings 17 = .ok (.astore 4, 2) := by decide +kernel
theorem dL_crossings_19 : decode cL_crossings 19 = .ok (.iconst 2, 1) := by decide +kernel
theorem dL_crossings_20 : decode cL_crossings 20 = .ok (.ireturn, 1) := by decide +kernel
theorem dL_crossings_21 : decode cL_crossings 21 = .ok (.astore 4, 2) := by decide +kernel
theorem dL_crossings_23 : decode cL_crossings 23 = .ok (.iconst 3, 1) := by decide +kernel
theorem dL_crossings_24 : decode cL_crossings 24 = .ok (.ireturn, 1) := by decide +kernel
theorem dL_crossings_25 : decode cL_crossings 25 = .ok (.iconst 0, 1) := by decide +kernel
theorem dL_crossings_26 : decode cL_crossings 26 = .ok (.ireturn, 1) := by decide +kernel
theorem dL_dimension_0 : decode cL_dimension 0 = .ok (.aload_n 3, 1) := by decide +kernel
theorem dL_dimension_1 : decode cL_dimension 1 = .ok (.iconst 0, 1) := by decide +kernel
theorem dL_dimension_2 : decode cL_dimension 2 = .ok (.aload_n 0, 1) := by decide +kernel
theorem dL_dimension_3 : decode cL_dimension 3 = .ok (.iload_n 1, 1) := by decide +kernel
theorem dL_dimension_4 : decode cL_dimension 4 = .ok (.iload_n 2, 1) := by decide +kernel
theorem dL_dimension_5 : decode cL_dimension 5 = .ok (.invokevirtual 79, 3) := by decide +kernel
theorem dL_dimension_8 : decode cL_dimension 8 = .ok (.i2l, 1) := by decide +kernel
theorem dL_dimension_9 : decode cL_dimension 9 = .ok (.lastore, 1) := by decide +kernel
theorem dL_dimension_10 : decode cL_dimension 10 = .ok (.goto 7, 3) := by decide +kernel
theorem dL_dimension_13 : decode cL_dimension 13 = .ok (.astore 4, 2) := by decide +kernel
theorem dL_dimension_15 : decode cL_dimension 15 = .ok (.iconst 1, 1) := by decide +kernel
theorem dL_dimension_16 : decode cL_dimension 16 = .ok (.ireturn, 1) := by decide +kernel
theorem dL_dimension_17 : decode cL_dimension 17 = .ok (.iconst 0, 1) := by decide +kernel
theorem dL_dimension_18 : decode cL_dimension 18 = .ok (.ireturn, 1) := by decide +kernel
theorem dL_law_0 : decode cL_law 0 = .ok (.new 8, 3) := by decide +kernel
theorem dL_law_3 : decode cL_law 3 = .ok (.dup, 1) := by decide +kernel
theorem dL_law_4 : decode cL_law 4 = .ok (.invokespecial 82, 3) := by decide +kernel
theorem dL_law_7 : decode cL_law 7 = .ok (.astore_n 1, 1) := by decide +kernel
theorem dL_law_8 : decode cL_law 8 = .ok (.new 83, 3) := by decide +kernel
theorem dL_law_11 : decode cL_law 11 = .ok (.dup, 1) := by decide +kernel
theorem dL_law_12 : decode cL_law 12 = .ok (.invokespecial 85, 3) := by decide +kernel
theorem dL_law_15 : decode cL_law 15 = .ok (.astore_n 2, 1) := by decide +kernel
theorem dL_law_16 : decode cL_law 16 = .ok (.iconst 1, 1) := by decide +kernel
theorem dL_law_17 : decode cL_law 17 = .ok (.newarray .long, 2) := by decide +kernel
theorem dL_law_19 : decode cL_law 19 = .ok (.astore_n 3, 1) := by decide +kernel
theorem dL_law_20 : decode cL_law 20 = .ok (.iconst 0, 1) := by decide +kernel
theorem dL_law_21 : decode cL_law 21 = .ok (.istore 4, 2) := by decide +kernel
theorem dL_law_23 : decode cL_law 23 = .ok (.iload 4, 2) := by decide +kernel
theorem dL_law_25 : decode cL_law 25 = .ok (.aload_n 0, 1) := by decide +kernel
theorem dL_law_26 : decode cL_law 26 = .ok (.arraylength, 1) := by decide +kernel
theorem dL_law_27 : decode cL_law 27 = .ok (.iconst 5, 1) := by decide +kernel
theorem dL_law_28 : decode cL_law 28 = .ok (.isub, 1) := by decide +kernel
theorem dL_law_29 : decode cL_law 29 = .ok (.if_icmp .gt 1563, 3) := by decide +kernel
theorem dL_law_32 : decode cL_law 32 = .ok (.aload_n 0, 1) := by decide +kernel
theorem dL_law_33 : decode cL_law 33 = .ok (.iload 4, 2) := by decide +kernel
theorem dL_law_35 : decode cL_law 35 = .ok (.iaload, 1) := by decide +kernel
theorem dL_law_36 : decode cL_law 36 = .ok (.bipush 31, 2) := by decide +kernel
theorem dL_law_38 : decode cL_law 38 = .ok (.iand, 1) := by decide +kernel
theorem dL_law_39 : decode cL_law 39 = .ok (.tableswitch 1547 0 20 #[97, 153, 245, 325, 393, 449, 529, 609, 684, 764, 820, 833, 889, 981, 1048, 1132, 1200, 1275, 1343, 1411, 1479], 97) := by decide +kernel
theorem dL_law_136 : decode cL_law 136 = .ok (.aload_n 1, 1) := by decide +kernel
theorem dL_law_137 : decode cL_law 137 = .ok (.aload_n 0, 1) := by decide +kernel
theorem dL_law_138 : decode cL_law 138 = .ok (.iload 4, 2) := by decide +kernel
theorem dL_law_140 : decode cL_law 140 = .ok (.iconst 1, 1) := by decide +kernel
theorem dL_law_141 : decode cL_law 141 = .ok (.iadd, 1) := by decide +kernel
theorem dL_law_142 : decode cL_law 142 = .ok (.iaload, 1) := by decide +kernel
theorem dL_law_143 : decode cL_law 143 = .ok (.aload_n 3, 1) := by decide +kernel
theorem dL_law_144 : decode cL_law 144 = .ok (.invokestatic 86, 3) := by decide +kernel
theorem dL_law_147 : decode cL_law 147 = .ok (.istore 5, 2) := by decide +kernel
theorem dL_law_149 : decode cL_law 149 = .ok (.aload_n 2, 1) := by decide +kernel
theorem dL_law_150 : decode cL_law 150 = .ok (.aload_n 0, 1) := by decide +kernel
theorem dL_law_151 : decode cL_law 151 = .ok (.iload 4, 2) := by decide +kernel
theorem dL_law_153 : decode cL_law 153 = .ok (.iconst 1, 1) := by decide +kernel
theorem dL_law_154 : decode cL_law 154 = .ok (.iadd, 1) := by decide +kernel
theorem dL_law_155 : decode cL_law 155 = .ok (.iaload, 1) := by decide +kernel
theorem dL_law_156 : decode cL_law 156 = .ok (.invokevirtual 91, 3) := by decide +kernel
theorem dL_law_159 : decode cL_law 159 = .ok (.istore 6, 2) := by decide +kernel
theorem dL_law_161 : decode cL_law 161 = .ok (.aload_n 2, 1) := by decide +kernel
theorem dL_law_162 : decode cL_law 162 = .ok (.invokevirtual 92, 3) := by decide +kernel
theorem dL_law_165 : decode cL_law 165 = .ok (.iload 5, 2) := by decide +kernel
theorem dL_law_167 : decode cL_law 167 = .ok (.if_icmp .eq 5, 3) := by decide +kernel
theorem dL_law_170 : decode cL_law 170 = .ok (.iconst 0, 1) := by decide +kernel
theorem dL_law_171 : decode cL_law 171 = .ok (.ireturn, 1) := by decide +kernel
theorem dL_law_172 : decode cL_law 172 = .ok (.iload 5, 2) := by decide +kernel
theorem dL_law_174 : decode cL_law 174 = .ok (.ifCond .ne 15, 3) := by decide +kernel
theorem dL_law_177 : decode cL_law 177 = .ok (.aload_n 3, 1) := by decide +kernel
theorem dL_law_178 : decode cL_law 178 = .ok (.iconst 0, 1) := by decide +kernel
theorem dL_law_179 : decode cL_law 179 = .ok (.laload, 1) := by decide +kernel
theorem dL_law_180 : decode cL_law 180 = .ok (.iload 6, 2) := by decide +kernel
theorem dL_law_182 : decode cL_law 182 = .ok (.i2l, 1) := by decide +kernel
theorem dL_law_183 : decode cL_law 183 = .ok (.lcmp, 1) := by decide +kernel
theorem dL_law_184 : decode cL_law 184 = .ok (.ifCond .eq 5, 3) := by decide +kernel
theorem dL_law_187 : decode cL_law 187 = .ok (.iconst 0, 1) := by decide +kernel
theorem dL_law_188 : decode cL_law 188 = .ok (.ireturn, 1) := by decide +kernel
theorem dL_law_189 : decode cL_law 189 = .ok (.goto 1397, 3) := by decide +kernel
theorem dL_law_192 : decode cL_law 192 = .ok (.aload_n 1, 1) := by decide +kernel
theorem dL_law_193 : decode cL_law 193 = .ok (.aload_n 0, 1) := by decide +kernel
theorem dL_law_194 : decode cL_law 194 = .ok (.iload 4, 2) := by decide +kernel
theorem dL_law_196 : decode cL_law 196 = .ok (.iconst 1, 1) := by decide +kernel
theorem dL_law_197 : decode cL_law 197 = .ok (.iadd, 1) := by decide +kernel
theorem dL_law_198 : decode cL_law 198 = .ok (.iaload, 1) := by decide +kernel
theorem dL_law_199 : decode cL_law 199 = .ok (.aload_n 0, 1) := by decide +kernel
theorem dL_law_200 : decode cL_law 200 = .ok (.iload 4, 2) := by decide +kernel
theorem dL_law_202 : decode cL_law 202 = .ok (.iconst 2, 1) := by decide +kernel
theorem dL_law_203 : decode cL_law 203 = .ok (.iadd, 1) := by decide +kernel
theorem dL_law_204 : decode cL_law 204 = .ok (.iaload, 1) := by decide +kernel
theorem dL_law_205 : decode cL_law 205 = .ok (.aload_n 0, 1) := by decide +kernel
theorem dL_law_206 : decode cL_law 206 = .ok (.iload 4, 2) := by decide +kernel
theorem dL_law_208 : decode cL_law 208 = .ok (.iconst 3, 1) := by decide +kernel
theorem dL_law_209 : decode cL_law 209 = .ok (.iadd, 1) := by decide +kernel
theorem dL_law_210 : decode cL_law 210 = .ok (.iaload, 1) := by decide +kernel
theorem dL_law_211 : decode cL_law 211 = .ok (.aload_n 0, 1) := by decide +kernel
theorem dL_law_212 : decode cL_law 212 = .ok (.iload 4, 2) := by decide +kernel
theorem dL_law_214 : decode cL_law 214 = .ok (.iconst 4, 1) := by decide +kernel
theorem dL_law_215 : decode cL_law 215 = .ok (.iadd, 1) := by decide +kernel
theorem dL_law_216 : decode cL_law 216 = .ok (.iaload, 1) := by decide +kernel
theorem dL_law_217 : decode cL_law 217 = .ok (.aload_n 3, 1) := by decide +kernel
theorem dL_law_218 : decode cL_law 218 = .ok (.invokestatic 96, 3) := by decide +kernel
theorem dL_law_221 : decode cL_law 221 = .ok (.istore 5, 2) := by decide +kernel
theorem dL_law_223 : decode cL_law 223 = .ok (.aload_n 2, 1) := by decide +kernel
theorem dL_law_224 : decode cL_law 224 = .ok (.aload_n 0, 1) := by decide +kernel
theorem dL_law_225 : decode cL_law 225 = .ok (.iload 4, 2) := by decide +kernel
theorem dL_law_227 : decode cL_law 227 = .ok (.iconst 1, 1) := by decide +kernel
theorem dL_law_228 : decode cL_law 228 = .ok (.iadd, 1) := by decide +kernel
theorem dL_law_229 : decode cL_law 229 = .ok (.iaload, 1) := by decide +kernel
theorem dL_law_230 : decode cL_law 230 = .ok (.aload_n 0, 1) := by decide +kernel
theorem dL_law_231 : decode cL_law 231 = .ok (.iload 4, 2) := by decide +kernel
theorem dL_law_233 : decode cL_law 233 = .ok (.iconst 2, 1) := by decide +kernel
theorem dL_law_234 : decode cL_law 234 = .ok (.iadd, 1) := by decide +kernel
theorem dL_law_235 : decode cL_law 235 = .ok (.iaload, 1) := by decide +kernel
theorem dL_law_236 : decode cL_law 236 = .ok (.aload_n 0, 1) := by decide +kernel
theorem dL_law_237 : decode cL_law 237 = .ok (.iload 4, 2) := by decide +kernel
theorem dL_law_239 : decode cL_law 239 = .ok (.iconst 3, 1) := by decide +kernel
theorem dL_law_240 : decode cL_law 240 = .ok (.iadd, 1) := by decide +kernel
theorem dL_law_241 : decode cL_law 241 = .ok (.iaload, 1) := by decide +kernel
theorem dL_law_242 : decode cL_law 242 = .ok (.aload_n 0, 1) := by decide +kernel
theorem dL_law_243 : decode cL_law 243 = .ok (.iload 4, 2) := by decide +kernel
theorem dL_law_245 : decode cL_law 245 = .ok (.iconst 4, 1) := by decide +kernel
theorem dL_law_246 : decode cL_law 246 = .ok (.iadd, 1) := by decide +kernel
theorem dL_law_247 : decode cL_law 247 = .ok (.iaload, 1) := by decide +kernel
theorem dL_law_248 : decode cL_law 248 = .ok (.invokevirtual 99, 3) := by decide +kernel
theorem dL_law_251 : decode cL_law 251 = .ok (.istore 6, 2) := by decide +kernel
theorem dL_law_253 : decode cL_law 253 = .ok (.aload_n 2, 1) := by decide +kernel
theorem dL_law_254 : decode cL_law 254 = .ok (.invokevirtual 92, 3) := by decide +kernel
theorem dL_law_257 : decode cL_law 257 = .ok (.iload 5, 2) := by decide +kernel
theorem dL_law_259 : decode cL_law 259 = .ok (.if_icmp .eq 5, 3) := by decide +kernel
theorem dL_law_262 : decode cL_law 262 = .ok (.iconst 0, 1) := by decide +kernel
theorem dL_law_263 : decode cL_law 263 = .ok (.ireturn, 1) := by decide +kernel
theorem dL_law_264 : decode cL_law 264 = .ok (.iload 5, 2) := by decide +kernel
theorem dL_law_266 : decode cL_law 266 = .ok (.ifCond .ne 15, 3) := by decide +kernel
theorem dL_law_269 : decode cL_law 269 = .ok (.aload_n 3, 1) := by decide +kernel
theorem dL_law_270 : decode cL_law 270 = .ok (.iconst 0, 1) := by decide +kernel
theorem dL_law_271 : decode cL_law 271 = .ok (.laload, 1) := by decide +kernel
theorem dL_law_272 : decode cL_law 272 = .ok (.iload 6, 2) := by decide +kernel
theorem dL_law_274 : decode cL_law 274 = .ok (.i2l, 1) := by decide +kernel
theorem dL_law_275 : decode cL_law 275 = .ok (.lcmp, 1) := by decide +kernel
theorem dL_law_276 : decode cL_law 276 = .ok (.ifCond .eq 5, 3) := by decide +kernel
theorem dL_law_279 : decode cL_law 279 = .ok (.iconst 0, 1) := by decide +kernel
theorem dL_law_280 : decode cL_law 280 = .ok (.ireturn, 1) := by decide +kernel
theorem dL_law_281 : decode cL_law 281 = .ok (.goto 1305, 3) := by decide +kernel
theorem dL_law_284 : decode cL_law 284 = .ok (.aload_n 1, 1) := by decide +kernel
theorem dL_law_285 : decode cL_law 285 = .ok (.aload_n 0, 1) := by decide +kernel
theorem dL_law_286 : decode cL_law 286 = .ok (.iload 4, 2) := by decide +kernel
theorem dL_law_288 : decode cL_law 288 = .ok (.iconst 1, 1) := by decide +kernel
theorem dL_law_289 : decode cL_law 289 = .ok (.iadd, 1) := by decide +kernel
theorem dL_law_290 : decode cL_law 290 = .ok (.iaload, 1) := by decide +kernel
theorem dL_law_291 : decode cL_law 291 = .ok (.aload_n 0, 1) := by decide +kernel
theorem dL_law_292 : decode cL_law 292 = .ok (.iload 4, 2) := by decide +kernel
theorem dL_law_294 : decode cL_law 294 = .ok (.iconst 2, 1) := by decide +kernel
theorem dL_law_295 : decode cL_law 295 = .ok (.iadd, 1) := by decide +kernel
theorem dL_law_296 : decode cL_law 296 = .ok (.iaload, 1) := by decide +kernel
theorem dL_law_297 : decode cL_law 297 = .ok (.aload_n 0, 1) := by decide +kernel
theorem dL_law_298 : decode cL_law 298 = .ok (.iload 4, 2) := by decide +kernel
theorem dL_law_300 : decode cL_law 300 = .ok (.iconst 3, 1) := by decide +kernel
theorem dL_law_301 : decode cL_law 301 = .ok (.iadd, 1) := by decide +kernel
theorem dL_law_302 : decode cL_law 302 = .ok (.iaload, 1) := by decide +kernel
theorem dL_law_303 : decode cL_law 303 = .ok (.aload_n 3, 1) := by decide +kernel
theorem dL_law_304 : decode cL_law 304 = .ok (.invokestatic 100, 3) := by decide +kernel
theorem dL_law_307 : decode cL_law 307 = .ok (.istore 5, 2) := by decide +kernel
theorem dL_law_309 : decode cL_law 309 = .ok (.aload_n 2, 1) := by decide +kernel
theorem dL_law_310 : decode cL_law 310 = .ok (.aload_n 0, 1) := by decide +kernel
theorem dL_law_311 : decode cL_law 311 = .ok (.iload 4, 2) := by decide +kernel
theorem dL_law_313 : decode cL_law 313 = .ok (.iconst 1, 1) := by decide +kernel
theorem dL_law_314 : decode cL_law 314 = .ok (.iadd, 1) := by decide +kernel
theorem dL_law_315 : decode cL_law 315 = .ok (.iaload, 1) := by decide +kernel
theorem dL_law_316 : decode cL_law 316 = .ok (.aload_n 0, 1) := by decide +kernel
theorem dL_law_317 : decode cL_law 317 = .ok (.iload 4, 2) := by decide +kernel
theorem dL_law_319 : decode cL_law 319 = .ok (.iconst 2, 1) := by decide +kernel
theorem dL_law_320 : decode cL_law 320 = .ok (.iadd, 1) := by decide +kernel
theorem dL_law_321 : decode cL_law 321 = .ok (.iaload, 1) := by decide +kernel
theorem dL_law_322 : decode cL_law 322 = .ok (.aload_n 0, 1) := by decide +kernel
theorem dL_law_323 : decode cL_law 323 = .ok (.iload 4, 2) := by decide +kernel
theorem dL_law_325 : decode cL_law 325 = .ok (.iconst 3, 1) := by decide +kernel
theorem dL_law_326 : decode cL_law 326 = .ok (.iadd, 1) := by decide +kernel
theorem dL_law_327 : decode cL_law 327 = .ok (.iaload, 1) := by decide +kernel
theorem dL_law_328 : decode cL_law 328 = .ok (.invokevirtual 103, 3) := by decide +kernel
theorem dL_law_331 : decode cL_law 331 = .ok (.istore 6, 2) := by decide +kernel
theorem dL_law_333 : decode cL_law 333 = .ok (.aload_n 2, 1) := by decide +kernel
theorem dL_law_334 : decode cL_law 334 = .ok (.invokevirtual 92, 3) := by decide +kernel
theorem dL_law_337 : decode cL_law 337 = .ok (.iload 5, 2) := by decide +kernel
theorem dL_law_339 : decode cL_law 339 = .ok (.if_icmp .eq 5, 3) := by decide +kernel
theorem dL_law_342 : decode cL_law 342 = .ok (.iconst 0, 1) := by decide +kernel
theorem dL_law_343 : decode cL_law 343 = .ok (.ireturn, 1) := by decide +kernel
theorem dL_law_344 : decode cL_law 344 = .ok (.iload 5, 2) := by decide +kernel
theorem dL_law_346 : decode cL_law 346 = .ok (.ifCond .ne 15, 3) := by decide +kernel
theorem dL_law_349 : decode cL_law 349 = .ok (.aload_n 3, 1) := by decide +kernel
theorem dL_law_350 : decode cL_law 350 = .ok (.iconst 0, 1) := by decide +kernel
theorem dL_law_351 : decode cL_law 351 = .ok (.laload, 1) := by decide +kernel
theorem dL_law_352 : decode cL_law 352 = .ok (.iload 6, 2) := by decide +kernel
theorem dL_law_354 : decode cL_law 354 = .ok (.i2l, 1) := by decide +kernel
theorem dL_law_355 : decode cL_law 355 = .ok (.lcmp, 1) := by decide +kernel
theorem dL_law_356 : decode cL_law 356 = .ok (.ifCond .eq 5, 3) := by decide +kernel
theorem dL_law_359 : decode cL_law 359 = .ok (.iconst 0, 1) := by decide +kernel
theorem dL_law_360 : decode cL_law 360 = .ok (.ireturn, 1) := by decide +kernel
theorem dL_law_361 : decode cL_law 361 = .ok (.goto 1225, 3) := by decide +kernel
theorem dL_law_364 : decode cL_law 364 = .ok (.aload_n 1, 1) := by decide +kernel
theorem dL_law_365 : decode cL_law 365 = .ok (.aload_n 0, 1) := by decide +kernel
theorem dL_law_366 : decode cL_law 366 = .ok (.iload 4, 2) := by decide +kernel
theorem dL_law_368 : decode cL_law 368 = .ok (.iconst 1, 1) := by decide +kernel
theorem dL_law_369 : decode cL_law 369 = .ok (.iadd, 1) := by decide +kernel
theorem dL_law_370 : decode cL_law 370 = .ok (.iaload, 1) := by decide +kernel
theorem dL_law_371 : decode cL_law 371 = .ok (.aload_n 0, 1) := by decide +kernel
theorem dL_law_372 : decode cL_law 372 = .ok (.iload 4, 2) := by decide +kernel
theorem dL_law_374 : decode cL_law 374 = .ok (.iconst 2, 1) := by decide +kernel
theorem dL_law_375 : decode cL_law 375 = .ok (.iadd, 1) := by decide +kernel
theorem dL_law_376 : decode cL_law 376 = .ok (.iaload, 1) := by decide +kernel
theorem dL_law_377 : decode cL_law 377 = .ok (.aload_n 3, 1) := by decide +kernel
theorem dL_law_378 : decode cL_law 378 = .ok (.invokestatic 104, 3) := by decide +kernel
theorem dL_law_381 : decode cL_law 381 = .ok (.istore 5, 2) := by decide +kernel
theorem dL_law_383 : decode cL_law 383 = .ok (.aload_n 2, 1) := by decide +kernel
theorem dL_law_384 : decode cL_law 384 = .ok (.aload_n 0, 1) := by decide +kernel
theorem dL_law_385 : decode cL_law 385 = .ok (.iload 4, 2) := by decide +kernel
theorem dL_law_387 : decode cL_law 387 = .ok (.iconst 1, 1) := by decide +kernel
theorem dL_law_388 : decode cL_law 388 = .ok (.iadd, 1) := by decide +kernel
theorem dL_law_389 : decode cL_law 389 = .ok (.iaload, 1) := by decide +kernel
theorem dL_law_390 : decode cL_law 390 = .ok (.aload_n 0, 1) := by decide +kernel
theorem dL_law_391 : decode cL_law 391 = .ok (.iload 4, 2) := by decide +kernel
theorem dL_law_393 : decode cL_law 393 = .ok (.iconst 2, 1) := by decide +kernel
theorem dL_law_394 : decode cL_law 394 = .ok (.iadd, 1) := by decide +kernel
theorem dL_law_395 : decode cL_law 395 = .ok (.iaload, 1) := by decide +kernel
theorem dL_law_396 : decode cL_law 396 = .ok (.invokevirtual 107, 3) := by decide +kernel
theorem dL_law_399 : decode cL_law 399 = .ok (.istore 6, 2) := by decide +kernel
theorem dL_law_401 : decode cL_law 401 = .ok (.aload_n 2, 1) := by decide +kernel
theorem dL_law_402 : decode cL_law 402 = .ok (.invokevirtual 92, 3) := by decide +kernel
theorem dL_law_405 : decode cL_law 405 = .ok (.iload 5, 2) := by decide +kernel
theorem dL_law_407 : decode cL_law 407 = .ok (.if_icmp .eq 5, 3) := by decide +kernel
theorem dL_law_410 : decode cL_law 410 = .ok (.iconst 0, 1) := by decide +kernel
theorem dL_law_411 : decode cL_law 411 = .ok (.ireturn, 1) := by decide +kernel
theorem dL_law_412 : decode cL_law 412 = .ok (.iload 5, 2) := by decide +kernel
theorem dL_law_414 : decode cL_law 414 = .ok (.ifCond .ne 15, 3) := by decide +kernel
theorem dL_law_417 : decode cL_law 417 = .ok (.aload_n 3, 1) := by decide +kernel
theorem dL_law_418 : decode cL_law 418 = .ok (.iconst 0, 1) := by decide +kernel
theorem dL_law_419 : decode cL_law 419 = .ok (.laload, 1) := by decide +kernel
theorem dL_law_420 : decode cL_law 420 = .ok (.iload 6, 2) := by decide +kernel
theorem dL_law_422 : decode cL_law 422 = .ok (.i2l, 1) := by decide +kernel
theorem dL_law_423 : decode cL_law 423 = .ok (.lcmp, 1) := by decide +kernel
theorem dL_law_424 : decode cL_law 424 = .ok (.ifCond .eq 5, 3) := by decide +kernel
theorem dL_law_427 : decode cL_law 427 = .ok (.iconst 0, 1) := by decide +kernel
theorem dL_law_428 : decode cL_law 428 = .ok (.ireturn, 1) := by decide +kernel
theorem dL_law_429 : decode cL_law 429 = .ok (.goto 1157, 3) := by decide +kernel
theorem dL_law_432 : decode cL_law 432 = .ok (.aload_n 1, 1) := by decide +kernel
theorem dL_law_433 : decode cL_law 433 = .ok (.aload_n 0, 1) := by decide +kernel
theorem dL_law_434 : decode cL_law 434 = .ok (.iload 4, 2) := by decide +kernel
theorem dL_law_436 : decode cL_law 436 = .ok (.iconst 1, 1) := by decide +kernel
theorem dL_law_437 : decode cL_law 437 = .ok (.iadd, 1) := by decide +kernel
theorem dL_law_438 : decode cL_law 438 = .ok (.iaload, 1) := by decide +kernel
theorem dL_law_439 : decode cL_law 439 = .ok (.aload_n 3, 1) := by decide +kernel
theorem dL_law_440 : decode cL_law 440 = .ok (.invokestatic 108, 3) := by decide +kernel
theorem dL_law_443 : decode cL_law 443 = .ok (.istore 5, 2) := by decide +kernel
theorem dL_law_445 : decode cL_law 445 = .ok (.aload_n 2, 1) := by decide +kernel
theorem dL_law_446 : decode cL_law 446 = .ok (.aload_n 0, 1) := by decide +kernel
theorem dL_law_447 : decode cL_law 447 = .ok (.iload 4, 2) := by decide +kernel
theorem dL_law_449 : decode cL_law 449 = .ok (.iconst 1, 1) := by decide +kernel
theorem dL_law_450 : decode cL_law 450 = .ok (.iadd, 1) := by decide +kernel
theorem dL_law_451 : decode cL_law 451 = .ok (.iaload, 1) := by decide +kernel
theorem dL_law_452 : decode cL_law 452 = .ok (.invokevirtual 110, 3) := by decide +kernel
theorem dL_law_455 : decode cL_law 455 = .ok (.istore 6, 2) := by decide +kernel
theorem dL_law_457 : decode cL_law 457 = .ok (.aload_n 2, 1) := by decide +kernel
theorem dL_law_458 : decode cL_law 458 = .ok (.invokevirtual 92, 3) := by decide +kernel
theorem dL_law_461 : decode cL_law 461 = .ok (.iload 5, 2) := by decide +kernel
theorem dL_law_463 : decode cL_law 463 = .ok (.if_icmp .eq 5, 3) := by decide +kernel
theorem dL_law_466 : decode cL_law 466 = .ok (.iconst 0, 1) := by decide +kernel
theorem dL_law_467 : decode cL_law 467 = .ok (.ireturn, 1) := by decide +kernel
theorem dL_law_468 : decode cL_law 468 = .ok (.iload 5, 2) := by decide +kernel
theorem dL_law_470 : decode cL_law 470 = .ok (.ifCond .ne 15, 3) := by decide +kernel
theorem dL_law_473 : decode cL_law 473 = .ok (.aload_n 3, 1) := by decide +kernel
theorem dL_law_474 : decode cL_law 474 = .ok (.iconst 0, 1) := by decide +kernel
theorem dL_law_475 : decode cL_law 475 = .ok (.laload, 1) := by decide +kernel
theorem dL_law_476 : decode cL_law 476 = .ok (.iload 6, 2) := by decide +kernel
theorem dL_law_478 : decode cL_law 478 = .ok (.i2l, 1) := by decide +kernel
theorem dL_law_479 : decode cL_law 479 = .ok (.lcmp, 1) := by decide +kernel
theorem dL_law_480 : decode cL_law 480 = .ok (.ifCond .eq 5, 3) := by decide +kernel
theorem dL_law_483 : decode cL_law 483 = .ok (.iconst 0, 1) := by decide +kernel
theorem dL_law_484 : decode cL_law 484 = .ok (.ireturn, 1) := by decide +kernel
theorem dL_law_485 : decode cL_law 485 = .ok (.goto 1101, 3) := by decide +kernel
theorem dL_law_488 : decode cL_law 488 = .ok (.aload_n 1, 1) := by decide +kernel
theorem dL_law_489 : decode cL_law 489 = .ok (.aload_n 0, 1) := by decide +kernel
theorem dL_law_490 : decode cL_law 490 = .ok (.iload 4, 2) := by decide +kernel
theorem dL_law_492 : decode cL_law 492 = .ok (.iconst 1, 1) := by decide +kernel
theorem dL_law_493 : decode cL_law 493 = .ok (.iadd, 1) := by decide +kernel
theorem dL_law_494 : decode cL_law 494 = .ok (.iaload, 1) := by decide +kernel
theorem dL_law_495 : decode cL_law 495 = .ok (.aload_n 0, 1) := by decide +kernel
theorem dL_law_496 : decode cL_law 496 = .ok (.iload 4, 2) := by decide +kernel
theorem dL_law_498 : decode cL_law 498 = .ok (.iconst 2, 1) := by decide +kernel
theorem dL_law_499 : decode cL_law 499 = .ok (.iadd, 1) := by decide +kernel
theorem dL_law_500 : decode cL_law 500 = .ok (.iaload, 1) := by decide +kernel
theorem dL_law_501 : decode cL_law 501 = .ok (.aload_n 0, 1) := by decide +kernel
theorem dL_law_502 : decode cL_law 502 = .ok (.iload 4, 2) := by decide +kernel
theorem dL_law_504 : decode cL_law 504 = .ok (.iconst 3, 1) := by decide +kernel
theorem dL_law_505 : decode cL_law 505 = .ok (.iadd, 1) := by decide +kernel
theorem dL_law_506 : decode cL_law 506 = .ok (.iaload, 1) := by decide +kernel
theorem dL_law_507 : decode cL_law 507 = .ok (.aload_n 3, 1) := by decide +kernel
theorem dL_law_508 : decode cL_law 508 = .ok (.invokestatic 111, 3) := by decide +kernel
theorem dL_law_511 : decode cL_law 511 = .ok (.istore 5, 2) := by decide +kernel
theorem dL_law_513 : decode cL_law 513 = .ok (.aload_n 2, 1) := by decide +kernel
theorem dL_law_514 : decode cL_law 514 = .ok (.aload_n 0, 1) := by decide +kernel
theorem dL_law_515 : decode cL_law 515 = .ok (.iload 4, 2) := by decide +kernel
theorem dL_law_517 : decode cL_law 517 = .ok (.iconst 1, 1) := by decide +kernel
theorem dL_law_518 : decode cL_law 518 = .ok (.iadd, 1) := by decide +kernel
theorem dL_law_519 : decode cL_law 519 = .ok (.iaload, 1) := by decide +kernel
theorem dL_law_520 : decode cL_law 520 = .ok (.aload_n 0, 1) := by decide +kernel
theorem dL_law_521 : decode cL_law 521 = .ok (.iload 4, 2) := by decide +kernel
theorem dL_law_523 : decode cL_law 523 = .ok (.iconst 2, 1) := by decide +kernel
theorem dL_law_524 : decode cL_law 524 = .ok (.iadd, 1) := by decide +kernel
theorem dL_law_525 : decode cL_law 525 = .ok (.iaload, 1) := by decide +kernel
theorem dL_law_526 : decode cL_law 526 = .ok (.aload_n 0, 1) := by decide +kernel
theorem dL_law_527 : decode cL_law 527 = .ok (.iload 4, 2) := by decide +kernel
theorem dL_law_529 : decode cL_law 529 = .ok (.iconst 3, 1) := by decide +kernel
theorem dL_law_530 : decode cL_law 530 = .ok (.iadd, 1) := by decide +kernel
theorem dL_law_531 : decode cL_law 531 = .ok (.iaload, 1) := by decide +kernel
theorem dL_law_532 : decode cL_law 532 = .ok (.invokevirtual 113, 3) := by decide +kernel
theorem dL_law_535 : decode cL_law 535 = .ok (.istore 6, 2) := by decide +kernel
theorem dL_law_537 : decode cL_law 537 = .ok (.aload_n 2, 1) := by decide +kernel
theorem dL_law_538 : decode cL_law 538 = .ok (.invokevirtual 92, 3) := by decide +kernel
theorem dL_law_541 : decode cL_law 541 = .ok (.iload 5, 2) := by decide +kernel
theorem dL_law_543 : decode cL_law 543 = .ok (.if_icmp .eq 5, 3) := by decide +kernel
theorem dL_law_546 : decode cL_law 546 = .ok (.iconst 0, 1) := by decide +kernel
theorem dL_law_547 : decode cL_law 547 = .ok (.ireturn, 1) := by decide +kernel
theorem dL_law_548 : decode cL_law 548 = .ok (.iload 5, 2) := by decide +kernel
theorem dL_law_550 : decode cL_law 550 = .ok (.ifCond .ne 15, 3) := by decide +kernel
theorem dL_law_553 : decode cL_law 553 = .ok (.aload_n 3, 1) := by decide +kernel
theorem dL_law_554 : decode cL_law 554 = .ok (.iconst 0, 1) := by decide +kernel
theorem dL_law_555 : decode cL_law 555 = .ok (.laload, 1) := by decide +kernel
theorem dL_law_556 : decode cL_law 556 = .ok (.iload 6, 2) := by decide +kernel
theorem dL_law_558 : decode cL_law 558 = .ok (.i2l, 1) := by decide +kernel
theorem dL_law_559 : decode cL_law 559 = .ok (.lcmp, 1) := by decide +kernel
theorem dL_law_560 : decode cL_law 560 = .ok (.ifCond .eq 5, 3) := by decide +kernel
theorem dL_law_563 : decode cL_law 563 = .ok (.iconst 0, 1) := by decide +kernel
theorem dL_law_564 : decode cL_law 564 = .ok (.ireturn, 1) := by decide +kernel
theorem dL_law_565 : decode cL_law 565 = .ok (.goto 1021, 3) := by decide +kernel
theorem dL_law_568 : decode cL_law 568 = .ok (.aload_n 1, 1) := by decide +kernel
theorem dL_law_569 : decode cL_law 569 = .ok (.aload_n 0, 1) := by decide +kernel
theorem dL_law_570 : decode cL_law 570 = .ok (.iload 4, 2) := by decide +kernel
theorem dL_law_572 : decode cL_law 572 = .ok (.iconst 1, 1) := by decide +kernel
theorem dL_law_573 : decode cL_law 573 = .ok (.iadd, 1) := by decide +kernel
theorem dL_law_574 : decode cL_law 574 = .ok (.iaload, 1) := by decide +kernel
theorem dL_law_575 : decode cL_law 575 = .ok (.aload_n 0, 1) := by decide +kernel
theorem dL_law_576 : decode cL_law 576 = .ok (.iload 4, 2) := by decide +kernel
theorem dL_law_578 : decode cL_law 578 = .ok (.iconst 2, 1) := by decide +kernel
theorem dL_law_579 : decode cL_law 579 = .ok (.iadd, 1) := by decide +kernel
theorem dL_law_580 : decode cL_law 580 = .ok (.iaload, 1) := by decide +kernel
theorem dL_law_581 : decode cL_law 581 = .ok (.aload_n 0, 1) := by decide +kernel
theorem dL_law_582 : decode cL_law 582 = .ok (.iload 4, 2) := by decide +kernel
theorem dL_law_584 : decode cL_law 584 = .ok (.iconst 3, 1) := by decide +kernel
theorem dL_law_585 : decode cL_law 585 = .ok (.iadd, 1) := by decide +kernel
theorem dL_law_586 : decode cL_law 586 = .ok (.iaload, 1) := by decide +kernel
theorem dL_law_587 : decode cL_law 587 = .ok (.aload_n 3, 1) := by decide +kernel
theorem dL_law_588 : decode cL_law 588 = .ok (.invokestatic 114, 3) := by decide +kernel
theorem dL_law_591 : decode cL_law 591 = .ok (.istore 5, 2) := by decide +kernel
theorem dL_law_593 : decode cL_law 593 = .ok (.aload_n 2, 1) := by decide +kernel
theorem dL_law_594 : decode cL_law 594 = .ok (.aload_n 0, 1) := by decide +kernel
theorem dL_law_595 : decode cL_law 595 = .ok (.iload 4, 2) := by decide +kernel
theorem dL_law_597 : decode cL_law 597 = .ok (.iconst 1, 1) := by decide +kernel
theorem dL_law_598 : decode cL_law 598 = .ok (.iadd, 1) := by decide +kernel
theorem dL_law_599 : decode cL_law 599 = .ok (.iaload, 1) := by decide +kernel
theorem dL_law_600 : decode cL_law 600 = .ok (.aload_n 0, 1) := by decide +kernel
theorem dL_law_601 : decode cL_law 601 = .ok (.iload 4, 2) := by decide +kernel
theorem dL_law_603 : decode cL_law 603 = .ok (.iconst 2, 1) := by decide +kernel
theorem dL_law_604 : decode cL_law 604 = .ok (.iadd, 1) := by decide +kernel
theorem dL_law_605 : decode cL_law 605 = .ok (.iaload, 1) := by decide +kernel
theorem dL_law_606 : decode cL_law 606 = .ok (.aload_n 0, 1) := by decide +kernel
theorem dL_law_607 : decode cL_law 607 = .ok (.iload 4, 2) := by decide +kernel
theorem dL_law_609 : decode cL_law 609 = .ok (.iconst 3, 1) := by decide +kernel
theorem dL_law_610 : decode cL_law 610 = .ok (.iadd, 1) := by decide +kernel
theorem dL_law_611 : decode cL_law 611 = .ok (.iaload, 1) := by decide +kernel
theorem dL_law_612 : decode cL_law 612 = .ok (.invokevirtual 116, 3) := by decide +kernel
theorem dL_law_615 : decode cL_law 615 = .ok (.istore 6, 2) := by decide +kernel
theorem dL_law_617 : decode cL_law 617 = .ok (.aload_n 2, 1) := by decide +kernel
theorem dL_law_618 : decode cL_law 618 = .ok (.invokevirtual 92, 3) := by decide +kernel
theorem dL_law_621 : decode cL_law 621 = .ok (.iload 5, 2) := by decide +kernel
theorem dL_law_623 : decode cL_law 623 = .ok (.if_icmp .eq 5, 3) := by decide +kernel
theorem dL_law_626 : decode cL_law 626 = .ok (.iconst 0, 1) := by decide +kernel
theorem dL_law_627 : decode cL_law 627 = .ok (.ireturn, 1) := by decide +kernel
theorem dL_law_628 : decode cL_law 628 = .ok (.iload 5, 2) := by decide +kernel
theorem dL_law_630 : decode cL_law 630 = .ok (.ifCond .ne 15, 3) := by decide +kernel
theorem dL_law_633 : decode cL_law 633 = .ok (.aload_n 3, 1) := by decide +kernel
theorem dL_law_634 : decode cL_law 634 = .ok (.iconst 0, 1) := by decide +kernel
theorem dL_law_635 : decode cL_law 635 = .ok (.laload, 1) := by decide +kernel
theorem dL_law_636 : decode cL_law 636 = .ok (.iload 6, 2) := by decide +kernel
theorem dL_law_638 : decode cL_law 638 = .ok (.i2l, 1) := by decide +kernel
theorem dL_law_639 : decode cL_law 639 = .ok (.lcmp, 1) := by decide +kernel
theorem dL_law_640 : decode cL_law 640 = .ok (.ifCond .eq 5, 3) := by decide +kernel
theorem dL_law_643 : decode cL_law 643 = .ok (.iconst 0, 1) := by decide +kernel
theorem dL_law_644 : decode cL_law 644 = .ok (.ireturn, 1) := by decide +kernel
theorem dL_law_645 : decode cL_law 645 = .ok (.goto 941, 3) := by decide +kernel
theorem dL_law_648 : decode cL_law 648 = .ok (.aload_n 1, 1) := by decide +kernel
theorem dL_law_649 : decode cL_law 649 = .ok (.aload_n 0, 1) := by decide +kernel
theorem dL_law_650 : decode cL_law 650 = .ok (.iload 4, 2) := by decide +kernel
theorem dL_law_652 : decode cL_law 652 = .ok (.iconst 1, 1) := by decide +kernel
theorem dL_law_653 : decode cL_law 653 = .ok (.iadd, 1) := by decide +kernel
theorem dL_law_654 : decode cL_law 654 = .ok (.iaload, 1) := by decide +kernel
theorem dL_law_655 : decode cL_law 655 = .ok (.aload_n 0, 1) := by decide +kernel
theorem dL_law_656 : decode cL_law 656 = .ok (.iload 4, 2) := by decide +kernel
theorem dL_law_658 : decode cL_law 658 = .ok (.iconst 2, 1) := by decide +kernel
theorem dL_law_659 : decode cL_law 659 = .ok (.iadd, 1) := by decide +kernel
theorem dL_law_660 : decode cL_law 660 = .ok (.iaload, 1) := by decide +kernel
theorem dL_law_661 : decode cL_law 661 = .ok (.aload_n 3, 1) := by decide +kernel
theorem dL_law_662 : decode cL_law 662 = .ok (.invokestatic 117, 3) := by decide +kernel
theorem dL_law_665 : decode cL_law 665 = .ok (.istore 5, 2) := by decide +kernel
theorem dL_law_667 : decode cL_law 667 = .ok (.aload_n 2, 1) := by decide +kernel
theorem dL_law_668 : decode cL_law 668 = .ok (.aload_n 0, 1) := by decide +kernel
theorem dL_law_669 : decode cL_law 669 = .ok (.iload 4, 2) := by decide +kernel
theorem dL_law_671 : decode cL_law 671 = .ok (.iconst 1, 1) := by decide +kernel
theorem dL_law_672 : decode cL_law 672 = .ok (.iadd, 1) := by decide +kernel
theorem dL_law_673 : decode cL_law 673 = .ok (.iaload, 1) := by decide +kernel
theorem dL_law_674 : decode cL_law 674 = .ok (.aload_n 0, 1) := by decide +kernel
theorem dL_law_675 : decode cL_law 675 = .ok (.iload 4, 2) := by decide +kernel
theorem dL_law_677 : decode cL_law 677 = .ok (.iconst 2, 1) := by decide +kernel
theorem dL_law_678 : decode cL_law 678 = .ok (.iadd, 1) := by decide +kernel
theorem dL_law_679 : decode cL_law 679 = .ok (.iaload, 1) := by decide +kernel
theorem dL_law_680 : decode cL_law 680 = .ok (.invokevirtual 119, 3) := by decide +kernel
theorem dL_law_683 : decode cL_law 683 = .ok (.istore 6, 2) := by decide +kernel
theorem dL_law_685 : decode cL_law 685 = .ok (.aload_n 2, 1) := by decide +kernel
theorem dL_law_686 : decode cL_law 686 = .ok (.invokevirtual 92, 3) := by decide +kernel
theorem dL_law_689 : decode cL_law 689 = .ok (.iload 5, 2) := by decide +kernel
theorem dL_law_691 : decode cL_law 691 = .ok (.if_icmp .eq 5, 3) := by decide +kernel
theorem dL_law_694 : decode cL_law 694 = .ok (.iconst 0, 1) := by decide +kernel
theorem dL_law_695 : decode cL_law 695 = .ok (.ireturn, 1) := by decide +kernel
theorem dL_law_696 : decode cL_law 696 = .ok (.iload 5, 2) := by decide +kernel
theorem dL_law_698 : decode cL_law 698 = .ok (.ifCond .ne 22, 3) := by decide +kernel
theorem dL_law_701 : decode cL_law 701 = .ok (.aload_n 3, 1) := by decide +kernel
theorem dL_law_702 : decode cL_law 702 = .ok (.iconst 0, 1) := by decide +kernel
theorem dL_law_703 : decode cL_law 703 = .ok (.laload, 1) := by decide +kernel
theorem dL_law_704 : decode cL_law 704 = .ok (.iload 6, 2) := by decide +kernel
theorem dL_law_706 : decode cL_law 706 = .ok (.ifCond .eq 7, 3) := by decide +kernel
theorem dL_law_709 : decode cL_law 709 = .ok (.lconst 1, 1) := by decide +kernel
theorem dL_law_710 : decode cL_law 710 = .ok (.goto 4, 3) := by decide +kernel
theorem dL_law_713 : decode cL_law 713 = .ok (.lconst 0, 1) := by decide +kernel
theorem dL_law_714 : decode cL_law 714 = .ok (.lcmp, 1) := by decide +kernel
theorem dL_law_715 : decode cL_law 715 = .ok (.ifCond .eq 5, 3) := by decide +kernel
theorem dL_law_718 : decode cL_law 718 = .ok (.iconst 0, 1) := by decide +kernel
theorem dL_law_719 : decode cL_law 719 = .ok (.ireturn, 1) := by decide +kernel
theorem dL_law_720 : decode cL_law 720 = .ok (.goto 866, 3) := by decide +kernel
theorem dL_law_723 : decode cL_law 723 = .ok (.aload_n 1, 1) := by decide +kernel
theorem dL_law_724 : decode cL_law 724 = .ok (.aload_n 0, 1) := by decide +kernel
theorem dL_law_725 : decode cL_law 725 = .ok (.iload 4, 2) := by decide +kernel
theorem dL_law_727 : decode cL_law 727 = .ok (.iconst 1, 1) := by decide +kernel
theorem dL_law_728 : decode cL_law 728 = .ok (.iadd, 1) := by decide +kernel
theorem dL_law_729 : decode cL_law 729 = .ok (.iaload, 1) := by decide +kernel
theorem dL_law_730 : decode cL_law 730 = .ok (.aload_n 0, 1) := by decide +kernel
theorem dL_law_731 : decode cL_law 731 = .ok (.iload 4, 2) := by decide +kernel
theorem dL_law_733 : decode cL_law 733 = .ok (.iconst 2, 1) := by decide +kernel
theorem dL_law_734 : decode cL_law 734 = .ok (.iadd, 1) := by decide +kernel
theorem dL_law_735 : decode cL_law 735 = .ok (.iaload, 1) := by decide +kernel
theorem dL_law_736 : decode cL_law 736 = .ok (.aload_n 0, 1) := by decide +kernel
theorem dL_law_737 : decode cL_law 737 = .ok (.iload 4, 2) := by decide +kernel
theorem dL_law_739 : decode cL_law 739 = .ok (.iconst 3, 1) := by decide +kernel
theorem dL_law_740 : decode cL_law 740 = .ok (.iadd, 1) := by decide +kernel
theorem dL_law_741 : decode cL_law 741 = .ok (.iaload, 1) := by decide +kernel
theorem dL_law_742 : decode cL_law 742 = .ok (.aload_n 3, 1) := by decide +kernel
theorem dL_law_743 : decode cL_law 743 = .ok (.invokestatic 120, 3) := by decide +kernel
theorem dL_law_746 : decode cL_law 746 = .ok (.istore 5, 2) := by decide +kernel
theorem dL_law_748 : decode cL_law 748 = .ok (.aload_n 2, 1) := by decide +kernel
theorem dL_law_749 : decode cL_law 749 = .ok (.aload_n 0, 1) := by decide +kernel
theorem dL_law_750 : decode cL_law 750 = .ok (.iload 4, 2) := by decide +kernel
theorem dL_law_752 : decode cL_law 752 = .ok (.iconst 1, 1) := by decide +kernel
theorem dL_law_753 : decode cL_law 753 = .ok (.iadd, 1) := by decide +kernel
theorem dL_law_754 : decode cL_law 754 = .ok (.iaload, 1) := by decide +kernel
theorem dL_law_755 : decode cL_law 755 = .ok (.aload_n 0, 1) := by decide +kernel
theorem dL_law_756 : decode cL_law 756 = .ok (.iload 4, 2) := by decide +kernel
theorem dL_law_758 : decode cL_law 758 = .ok (.iconst 2, 1) := by decide +kernel
theorem dL_law_759 : decode cL_law 759 = .ok (.iadd, 1) := by decide +kernel
theorem dL_law_760 : decode cL_law 760 = .ok (.iaload, 1) := by decide +kernel
theorem dL_law_761 : decode cL_law 761 = .ok (.aload_n 0, 1) := by decide +kernel
theorem dL_law_762 : decode cL_law 762 = .ok (.iload 4, 2) := by decide +kernel
theorem dL_law_764 : decode cL_law 764 = .ok (.iconst 3, 1) := by decide +kernel
theorem dL_law_765 : decode cL_law 765 = .ok (.iadd, 1) := by decide +kernel
theorem dL_law_766 : decode cL_law 766 = .ok (.iaload, 1) := by decide +kernel
theorem dL_law_767 : decode cL_law 767 = .ok (.invokevirtual 122, 3) := by decide +kernel
theorem dL_law_770 : decode cL_law 770 = .ok (.istore 6, 2) := by decide +kernel
theorem dL_law_772 : decode cL_law 772 = .ok (.aload_n 2, 1) := by decide +kernel
theorem dL_law_773 : decode cL_law 773 = .ok (.invokevirtual 92, 3) := by decide +kernel
theorem dL_law_776 : decode cL_law 776 = .ok (.iload 5, 2) := by decide +kernel
theorem dL_law_778 : decode cL_law 778 = .ok (.if_icmp .eq 5, 3) := by decide +kernel
theorem dL_law_781 : decode cL_law 781 = .ok (.iconst 0, 1) := by decide +kernel
theorem dL_law_782 : decode cL_law 782 = .ok (.ireturn, 1) := by decide +kernel
theorem dL_law_783 : decode cL_law 783 = .ok (.iload 5, 2) := by decide +kernel
theorem dL_law_785 : decode cL_law 785 = .ok (.ifCond .ne 15, 3) := by decide +kernel
theorem dL_law_788 : decode cL_law 788 = .ok (.aload_n 3, 1) := by decide +kernel
theorem dL_law_789 : decode cL_law 789 = .ok (.iconst 0, 1) := by decide +kernel
theorem dL_law_790 : decode cL_law 790 = .ok (.laload, 1) := by decide +kernel
theorem dL_law_791 : decode cL_law 791 = .ok (.iload 6, 2) := by decide +kernel
theorem dL_law_793 : decode cL_law 793 = .ok (.i2l, 1) := by decide +kernel
theorem dL_law_794 : decode cL_law 794 = .ok (.lcmp, 1) := by decide +kernel
theorem dL_law_795 : decode cL_law 795 = .ok (.ifCond .eq 5, 3) := by decide +kernel
theorem dL_law_798 : decode cL_law 798 = .ok (.iconst 0, 1) := by decide +kernel
theorem dL_law_799 : decode cL_law 799 = .ok (.ireturn, 1) := by decide +kernel
theorem dL_law_800 : decode cL_law 800 = .ok (.goto 786, 3) := by decide +kernel
theorem dL_law_803 : decode cL_law 803 = .ok (.aload_n 1, 1) := by decide +kernel
theorem dL_law_804 : decode cL_law 804 = .ok (.aload_n 0, 1) := by decide +kernel
theorem dL_law_805 : decode cL_law 805 = .ok (.iload 4, 2) := by decide +kernel
theorem dL_law_807 : decode cL_law 807 = .ok (.iconst 1, 1) := by decide +kernel
theorem dL_law_808 : decode cL_law 808 = .ok (.iadd, 1) := by decide +kernel
theorem dL_law_809 : decode cL_law 809 = .ok (.iaload, 1) := by decide +kernel
theorem dL_law_810 : decode cL_law 810 = .ok (.aload_n 3, 1) := by decide +kernel
theorem dL_law_811 : decode cL_law 811 = .ok (.invokestatic 123, 3) := by decide +kernel
theorem dL_law_814 : decode cL_law 814 = .ok (.istore 5, 2) := by decide +kernel
theorem dL_law_816 : decode cL_law 816 = .ok (.aload_n 2, 1) := by decide +kernel
theorem dL_law_817 : decode cL_law 817 = .ok (.aload_n 0, 1) := by decide +kernel
theorem dL_law_818 : decode cL_law 818 = .ok (.iload 4, 2) := by decide +kernel
theorem dL_law_820 : decode cL_law 820 = .ok (.iconst 1, 1) := by decide +kernel
theorem dL_law_821 : decode cL_law 821 = .ok (.iadd, 1) := by decide +kernel
theorem dL_law_822 : decode cL_law 822 = .ok (.iaload, 1) := by decide +kernel
theorem dL_law_823 : decode cL_law 823 = .ok (.invokevirtual 125, 3) := by decide +kernel
theorem dL_law_826 : decode cL_law 826 = .ok (.istore 6, 2) := by decide +kernel
theorem dL_law_828 : decode cL_law 828 = .ok (.aload_n 2, 1) := by decide +kernel
theorem dL_law_829 : decode cL_law 829 = .ok (.invokevirtual 92, 3) := by decide +kernel
theorem dL_law_832 : decode cL_law 832 = .ok (.iload 5, 2) := by decide +kernel
theorem dL_law_834 : decode cL_law 834 = .ok (.if_icmp .eq 5, 3) := by decide +kernel
theorem dL_law_837 : decode cL_law 837 = .ok (.iconst 0, 1) := by decide +kernel
theorem dL_law_838 : decode cL_law 838 = .ok (.ireturn, 1) := by decide +kernel
theorem dL_law_839 : decode cL_law 839 = .ok (.iload 5, 2) := by decide +kernel
theorem dL_law_841 : decode cL_law 841 = .ok (.ifCond .ne 15, 3) := by decide +kernel
theorem dL_law_844 : decode cL_law 844 = .ok (.aload_n 3, 1) := by decide +kernel
theorem dL_law_845 : decode cL_law 845 = .ok (.iconst 0, 1) := by decide +kernel
theorem dL_law_846 : decode cL_law 846 = .ok (.laload, 1) := by decide +kernel
theorem dL_law_847 : decode cL_law 847 = .ok (.iload 6, 2) := by decide +kernel
theorem dL_law_849 : decode cL_law 849 = .ok (.i2l, 1) := by decide +kernel
theorem dL_law_850 : decode cL_law 850 = .ok (.lcmp, 1) := by decide +kernel
theorem dL_law_851 : decode cL_law 851 = .ok (.ifCond .eq 5, 3) := by decide +kernel
theorem dL_law_854 : decode cL_law 854 = .ok (.iconst 0, 1) := by decide +kernel
theorem dL_law_855 : decode cL_law 855 = .ok (.ireturn, 1) := by decide +kernel
theorem dL_law_856 : decode cL_law 856 = .ok (.goto 730, 3) := by decide +kernel
theorem dL_law_859 : decode cL_law 859 = .ok (.aload_n 1, 1) := by decide +kernel
theorem dL_law_860 : decode cL_law 860 = .ok (.invokevirtual 126, 3) := by decide +kernel
theorem dL_law_863 : decode cL_law 863 = .ok (.aload_n 2, 1) := by decide +kernel
theorem dL_law_864 : decode cL_law 864 = .ok (.invokevirtual 129, 3) := by decide +kernel
theorem dL_law_867 : decode cL_law 867 = .ok (.if_icmp .eq 719, 3) := by decide +kernel
theorem dL_law_870 : decode cL_law 870 = .ok (.iconst 0, 1) := by decide +kernel
theorem dL_law_871 : decode cL_law 871 = .ok (.ireturn, 1) := by decide +kernel
theorem dL_law_872 : decode cL_law 872 = .ok (.aload_n 1, 1) := by decide +kernel
theorem dL_law_873 : decode cL_law 873 = .ok (.aload_n 0, 1) := by decide +kernel
theorem dL_law_874 : decode cL_law 874 = .ok (.iload 4, 2) := by decide +kernel
theorem dL_law_876 : decode cL_law 876 = .ok (.iconst 1, 1) := by decide +kernel
theorem dL_law_877 : decode cL_law 877 = .ok (.iadd, 1) := by decide +kernel
theorem dL_law_878 : decode cL_law 878 = .ok (.iaload, 1) := by decide +kernel
theorem dL_law_879 : decode cL_law 879 = .ok (.aload_n 3, 1) := by decide +kernel
theorem dL_law_880 : decode cL_law 880 = .ok (.invokestatic 130, 3) := by decide +kernel
theorem dL_law_883 : decode cL_law 883 = .ok (.istore 5, 2) := by decide +kernel
theorem dL_law_885 : decode cL_law 885 = .ok (.aload_n 2, 1) := by decide +kernel
theorem dL_law_886 : decode cL_law 886 = .ok (.aload_n 0, 1) := by decide +kernel
theorem dL_law_887 : decode cL_law 887 = .ok (.iload 4, 2) := by decide +kernel
theorem dL_law_889 : decode cL_law 889 = .ok (.iconst 1, 1) := by decide +kernel
theorem dL_law_890 : decode cL_law 890 = .ok (.iadd, 1) := by decide +kernel
theorem dL_law_891 : decode cL_law 891 = .ok (.iaload, 1) := by decide +kernel
theorem dL_law_892 : decode cL_law 892 = .ok (.invokevirtual 132, 3) := by decide +kernel
theorem dL_law_895 : decode cL_law 895 = .ok (.istore 6, 2) := by decide +kernel
theorem dL_law_897 : decode cL_law 897 = .ok (.aload_n 2, 1) := by decide +kernel
theorem dL_law_898 : decode cL_law 898 = .ok (.invokevirtual 92, 3) := by decide +kernel
theorem dL_law_901 : decode cL_law 901 = .ok (.iload 5, 2) := by decide +kernel
theorem dL_law_903 : decode cL_law 903 = .ok (.if_icmp .eq 5, 3) := by decide +kernel
theorem dL_law_906 : decode cL_law 906 = .ok (.iconst 0, 1) := by decide +kernel
theorem dL_law_907 : decode cL_law 907 = .ok (.ireturn, 1) := by decide +kernel
theorem dL_law_908 : decode cL_law 908 = .ok (.iload 5, 2) := by decide +kernel
theorem dL_law_910 : decode cL_law 910 = .ok (.ifCond .ne 15, 3) := by decide +kernel
theorem dL_law_913 : decode cL_law 913 = .ok (.aload_n 3, 1) := by decide +kernel
theorem dL_law_914 : decode cL_law 914 = .ok (.iconst 0, 1) := by decide +kernel
theorem dL_law_915 : decode cL_law 915 = .ok (.laload, 1) := by decide +kernel
theorem dL_law_916 : decode cL_law 916 = .ok (.iload 6, 2) := by decide +kernel
theorem dL_law_918 : decode cL_law 918 = .ok (.i2l, 1) := by decide +kernel
theorem dL_law_919 : decode cL_law 919 = .ok (.lcmp, 1) := by decide +kernel
theorem dL_law_920 : decode cL_law 920 = .ok (.ifCond .eq 5, 3) := by decide +kernel
theorem dL_law_923 : decode cL_law 923 = .ok (.iconst 0, 1) := by decide +kernel
theorem dL_law_924 : decode cL_law 924 = .ok (.ireturn, 1) := by decide +kernel
theorem dL_law_925 : decode cL_law 925 = .ok (.goto 661, 3) := by decide +kernel
theorem dL_law_928 : decode cL_law 928 = .ok (.aload_n 1, 1) := by decide +kernel
theorem dL_law_929 : decode cL_law 929 = .ok (.aload_n 0, 1) := by decide +kernel
theorem dL_law_930 : decode cL_law 930 = .ok (.iload 4, 2) := by decide +kernel
theorem dL_law_932 : decode cL_law 932 = .ok (.iconst 1, 1) := by decide +kernel
theorem dL_law_933 : decode cL_law 933 = .ok (.iadd, 1) := by decide +kernel
theorem dL_law_934 : decode cL_law 934 = .ok (.iaload, 1) := by decide +kernel
theorem dL_law_935 : decode cL_law 935 = .ok (.aload_n 0, 1) := by decide +kernel
theorem dL_law_936 : decode cL_law 936 = .ok (.iload 4, 2) := by decide +kernel
theorem dL_law_938 : decode cL_law 938 = .ok (.iconst 2, 1) := by decide +kernel
theorem dL_law_939 : decode cL_law 939 = .ok (.iadd, 1) := by decide +kernel
theorem dL_law_940 : decode cL_law 940 = .ok (.iaload, 1) := by decide +kernel
theorem dL_law_941 : decode cL_law 941 = .ok (.aload_n 0, 1) := by decide +kernel
theorem dL_law_942 : decode cL_law 942 = .ok (.iload 4, 2) := by decide +kernel
theorem dL_law_944 : decode cL_law 944 = .ok (.iconst 3, 1) := by decide +kernel
theorem dL_law_945 : decode cL_law 945 = .ok (.iadd, 1) := by decide +kernel
theorem dL_law_946 : decode cL_law 946 = .ok (.iaload, 1) := by decide +kernel
theorem dL_law_947 : decode cL_law 947 = .ok (.aload_n 0, 1) := by decide +kernel
theorem dL_law_948 : decode cL_law 948 = .ok (.iload 4, 2) := by decide +kernel
theorem dL_law_950 : decode cL_law 950 = .ok (.iconst 4, 1) := by decide +kernel
theorem dL_law_951 : decode cL_law 951 = .ok (.iadd, 1) := by decide +kernel
theorem dL_law_952 : decode cL_law 952 = .ok (.iaload, 1) := by decide +kernel
theorem dL_law_953 : decode cL_law 953 = .ok (.aload_n 3, 1) := by decide +kernel
theorem dL_law_954 : decode cL_law 954 = .ok (.invokestatic 133, 3) := by decide +kernel
theorem dL_law_957 : decode cL_law 957 = .ok (.istore 5, 2) := by decide +kernel
theorem dL_law_959 : decode cL_law 959 = .ok (.aload_n 2, 1) := by decide +kernel
theorem dL_law_960 : decode cL_law 960 = .ok (.aload_n 0, 1) := by decide +kernel
theorem dL_law_961 : decode cL_law 961 = .ok (.iload 4, 2) := by decide +kernel
theorem dL_law_963 : decode cL_law 963 = .ok (.iconst 1, 1) := by decide +kernel
theorem dL_law_964 : decode cL_law 964 = .ok (.iadd, 1) := by decide +kernel
theorem dL_law_965 : decode cL_law 965 = .ok (.iaload, 1) := by decide +kernel
theorem dL_law_966 : decode cL_law 966 = .ok (.aload_n 0, 1) := by decide +kernel
theorem dL_law_967 : decode cL_law 967 = .ok (.iload 4, 2) := by decide +kernel
theorem dL_law_969 : decode cL_law 969 = .ok (.iconst 2, 1) := by decide +kernel
theorem dL_law_970 : decode cL_law 970 = .ok (.iadd, 1) := by decide +kernel
theorem dL_law_971 : decode cL_law 971 = .ok (.iaload, 1) := by decide +kernel
theorem dL_law_972 : decode cL_law 972 = .ok (.aload_n 0, 1) := by decide +kernel
theorem dL_law_973 : decode cL_law 973 = .ok (.iload 4, 2) := by decide +kernel
theorem dL_law_975 : decode cL_law 975 = .ok (.iconst 3, 1) := by decide +kernel
theorem dL_law_976 : decode cL_law 976 = .ok (.iadd, 1) := by decide +kernel
theorem dL_law_977 : decode cL_law 977 = .ok (.iaload, 1) := by decide +kernel
theorem dL_law_978 : decode cL_law 978 = .ok (.aload_n 0, 1) := by decide +kernel
theorem dL_law_979 : decode cL_law 979 = .ok (.iload 4, 2) := by decide +kernel
theorem dL_law_981 : decode cL_law 981 = .ok (.iconst 4, 1) := by decide +kernel
theorem dL_law_982 : decode cL_law 982 = .ok (.iadd, 1) := by decide +kernel
theorem dL_law_983 : decode cL_law 983 = .ok (.iaload, 1) := by decide +kernel
theorem dL_law_984 : decode cL_law 984 = .ok (.invokevirtual 135, 3) := by decide +kernel
theorem dL_law_987 : decode cL_law 987 = .ok (.istore 6, 2) := by decide +kernel
theorem dL_law_989 : decode cL_law 989 = .ok (.aload_n 2, 1) := by decide +kernel
theorem dL_law_990 : decode cL_law 990 = .ok (.invokevirtual 92, 3) := by decide +kernel
theorem dL_law_993 : decode cL_law 993 = .ok (.iload 5, 2) := by decide +kernel
theorem dL_law_995 : decode cL_law 995 = .ok (.if_icmp .eq 5, 3) := by decide +kernel
theorem dL_law_998 : decode cL_law 998 = .ok (.iconst 0, 1) := by decide +kernel
theorem dL_law_999 : decode cL_law 999 = .ok (.ireturn, 1) := by decide +kernel
theorem dL_law_1000 : decode cL_law 1000 = .ok (.iload 5, 2) := by decide +kernel
theorem dL_law_1002 : decode cL_law 1002 = .ok (.ifCond .ne 15, 3) := by decide +kernel
theorem dL_law_1005 : decode cL_law 1005 = .ok (.aload_n 3, 1) := by decide +kernel
theorem dL_law_1006 : decode cL_law 1006 = .ok (.iconst 0, 1) := by decide +kernel
theorem dL_law_1007 : decode cL_law 1007 = .ok (.laload, 1) := by decide +kernel
theorem dL_law_1008 : decode cL_law 1008 = .ok (.iload 6, 2) := by decide +kernel
theorem dL_law_1010 : decode cL_law 1010 = .ok (.i2l, 1) := by decide +kernel
theorem dL_law_1011 : decode cL_law 1011 = .ok (.lcmp, 1) := by decide +kernel
theorem dL_law_1012 : decode cL_law 1012 = .ok (.ifCond .eq 5, 3) := by decide +kernel
theorem dL_law_1015 : decode cL_law 1015 = .ok (.iconst 0, 1) := by decide +kernel
theorem dL_law_1016 : decode cL_law 1016 = .ok (.ireturn, 1) := by decide +kernel
theorem dL_law_1017 : decode cL_law 1017 = .ok (.goto 569, 3) := by decide +kernel
theorem dL_law_1020 : decode cL_law 1020 = .ok (.aload_n 1, 1) := by decide +kernel
theorem dL_law_1021 : decode cL_law 1021 = .ok (.aload_n 0, 1) := by decide +kernel
theorem dL_law_1022 : decode cL_law 1022 = .ok (.iload 4, 2) := by decide +kernel
theorem dL_law_1024 : decode cL_law 1024 = .ok (.iconst 1, 1) := by decide +kernel
theorem dL_law_1025 : decode cL_law 1025 = .ok (.iadd, 1) := by decide +kernel
theorem dL_law_1026 : decode cL_law 1026 = .ok (.iaload, 1) := by decide +kernel
theorem dL_law_1027 : decode cL_law 1027 = .ok (.aload_n 0, 1) := by decide +kernel
theorem dL_law_1028 : decode cL_law 1028 = .ok (.iload 4, 2) := by decide +kernel
theorem dL_law_1030 : decode cL_law 1030 = .ok (.iconst 2, 1) := by decide +kernel
theorem dL_law_1031 : decode cL_law 1031 = .ok (.iadd, 1) := by decide +kernel
theorem dL_law_1032 : decode cL_law 1032 = .ok (.iaload, 1) := by decide +kernel
theorem dL_law_1033 : decode cL_law 1033 = .ok (.aload_n 3, 1) := by decide +kernel
theorem dL_law_1034 : decode cL_law 1034 = .ok (.invokestatic 136, 3) := by decide +kernel
theorem dL_law_1037 : decode cL_law 1037 = .ok (.istore 5, 2) := by decide +kernel
theorem dL_law_1039 : decode cL_law 1039 = .ok (.aload_n 2, 1) := by decide +kernel
theorem dL_law_1040 : decode cL_law 1040 = .ok (.aload_n 0, 1) := by decide +kernel
theorem dL_law_1041 : decode cL_law 1041 = .ok (.iload 4, 2) := by decide +kernel
theorem dL_law_1043 : decode cL_law 1043 = .ok (.iconst 1, 1) := by decide +kernel
theorem dL_law_1044 : decode cL_law 1044 = .ok (.iadd, 1) := by decide +kernel
theorem dL_law_1045 : decode cL_law 1045 = .ok (.iaload, 1) := by decide +kernel
theorem dL_law_1046 : decode cL_law 1046 = .ok (.aload_n 0, 1) := by decide +kernel
theorem dL_law_1047 : decode cL_law 1047 = .ok (.iload 4, 2) := by decide +kernel
theorem dL_law_1049 : decode cL_law 1049 = .ok (.iconst 2, 1) := by decide +kernel
theorem dL_law_1050 : decode cL_law 1050 = .ok (.iadd, 1) := by decide +kernel
theorem dL_law_1051 : decode cL_law 1051 = .ok (.iaload, 1) := by decide +kernel
theorem dL_law_1052 : decode cL_law 1052 = .ok (.invokevirtual 138, 3) := by decide +kernel
theorem dL_law_1055 : decode cL_law 1055 = .ok (.lstore 6, 2) := by decide +kernel
theorem dL_law_1057 : decode cL_law 1057 = .ok (.aload_n 2, 1) := by decide +kernel
theorem dL_law_1058 : decode cL_law 1058 = .ok (.invokevirtual 92, 3) := by decide +kernel
theorem dL_law_1061 : decode cL_law 1061 = .ok (.iload 5, 2) := by decide +kernel
theorem dL_law_1063 : decode cL_law 1063 = .ok (.if_icmp .eq 5, 3) := by decide +kernel
theorem dL_law_1066 : decode cL_law 1066 = .ok (.iconst 0, 1) := by decide +kernel
theorem dL_law_1067 : decode cL_law 1067 = .ok (.ireturn, 1) := by decide +kernel
theorem dL_law_1068 : decode cL_law 1068 = .ok (.iload 5, 2) := by decide +kernel
theorem dL_law_1070 : decode cL_law 1070 = .ok (.ifCond .ne 14, 3) := by decide +kernel
theorem dL_law_1073 : decode cL_law 1073 = .ok (.aload_n 3, 1) := by decide +kernel
theorem dL_law_1074 : decode cL_law 1074 = .ok (.iconst 0, 1) := by decide +kernel
theorem dL_law_1075 : decode cL_law 1075 = .ok (.laload, 1) := by decide +kernel
theorem dL_law_1076 : decode cL_law 1076 = .ok (.lload 6, 2) := by decide +kernel
theorem dL_law_1078 : decode cL_law 1078 = .ok (.lcmp, 1) := by decide +kernel
theorem dL_law_1079 : decode cL_law 1079 = .ok (.ifCond .eq 5, 3) := by decide +kernel
theorem dL_law_1082 : decode cL_law 1082 = .ok (.iconst 0, 1) := by decide +kernel
theorem dL_law_1083 : decode cL_law 1083 = .ok (.ireturn, 1) := by decide +kernel
theorem dL_law_1084 : decode cL_law 1084 = .ok (.goto 502, 3) := by decide +kernel
theorem dL_law_1087 : decode cL_law 1087 = .ok (.aload_n 1, 1) := by decide +kernel
theorem dL_law_1088 : decode cL_law 1088 = .ok (.aload_n 0, 1) := by decide +kernel
theorem dL_law_1089 : decode cL_law 1089 = .ok (.iload 4, 2) := by decide +kernel
theorem dL_law_1091 : decode cL_law 1091 = .ok (.iconst 1, 1) := by decide +kernel
theorem dL_law_1092 : decode cL_law 1092 = .ok (.iadd, 1) := by decide +kernel
theorem dL_law_1093 : decode cL_law 1093 = .ok (.iaload, 1) := by decide +kernel
theorem dL_law_1094 : decode cL_law 1094 = .ok (.aload_n 0, 1) := by decide +kernel
theorem dL_law_1095 : decode cL_law 1095 = .ok (.iload 4, 2) := by decide +kernel
theorem dL_law_1097 : decode cL_law 1097 = .ok (.iconst 2, 1) := by decide +kernel
theorem dL_law_1098 : decode cL_law 1098 = .ok (.iadd, 1) := by decide +kernel
theorem dL_law_1099 : decode cL_law 1099 = .ok (.iaload, 1) := by decide +kernel
theorem dL_law_1100 : decode cL_law 1100 = .ok (.ifCond .eq 7, 3) := by decide +kernel
theorem dL_law_1103 : decode cL_law 1103 = .ok (.iconst 1, 1) := by decide +kernel
theorem dL_law_1104 : decode cL_law 1104 = .ok (.goto 4, 3) := by decide +kernel
theorem dL_law_1107 : decode cL_law 1107 = .ok (.iconst 0, 1) := by decide +kernel
theorem dL_law_1108 : decode cL_law 1108 = .ok (.aload_n 3, 1) := by decide +kernel
theorem dL_law_1109 : decode cL_law 1109 = .ok (.invokestatic 139, 3) := by decide +kernel
theorem dL_law_1112 : decode cL_law 1112 = .ok (.istore 5, 2) := by decide +kernel
theorem dL_law_1114 : decode cL_law 1114 = .ok (.aload_n 2, 1) := by decide +kernel
theorem dL_law_1115 : decode cL_law 1115 = .ok (.aload_n 0, 1) := by decide +kernel
theorem dL_law_1116 : decode cL_law 1116 = .ok (.iload 4, 2) := by decide +kernel
theorem dL_law_1118 : decode cL_law 1118 = .ok (.iconst 1, 1) := by decide +kernel
theorem dL_law_1119 : decode cL_law 1119 = .ok (.iadd, 1) := by decide +kernel
theorem dL_law_1120 : decode cL_law 1120 = .ok (.iaload, 1) := by decide +kernel
theorem dL_law_1121 : decode cL_law 1121 = .ok (.aload_n 0, 1) := by decide +kernel
theorem dL_law_1122 : decode cL_law 1122 = .ok (.iload 4, 2) := by decide +kernel
theorem dL_law_1124 : decode cL_law 1124 = .ok (.iconst 2, 1) := by decide +kernel
theorem dL_law_1125 : decode cL_law 1125 = .ok (.iadd, 1) := by decide +kernel
theorem dL_law_1126 : decode cL_law 1126 = .ok (.iaload, 1) := by decide +kernel
theorem dL_law_1127 : decode cL_law 1127 = .ok (.ifCond .eq 7, 3) := by decide +kernel
theorem dL_law_1130 : decode cL_law 1130 = .ok (.iconst 1, 1) := by decide +kernel
theorem dL_law_1131 : decode cL_law 1131 = .ok (.goto 4, 3) := by decide +kernel
theorem dL_law_1134 : decode cL_law 1134 = .ok (.iconst 0, 1) := by decide +kernel
theorem dL_law_1135 : decode cL_law 1135 = .ok (.invokevirtual 142, 3) := by decide +kernel
theorem dL_law_1138 : decode cL_law 1138 = .ok (.istore 6, 2) := by decide +kernel
theorem dL_law_1140 : decode cL_law 1140 = .ok (.aload_n 2, 1) := by decide +kernel
theorem dL_law_1141 : decode cL_law 1141 = .ok (.invokevirtual 92, 3) := by decide +kernel
theorem dL_law_1144 : decode cL_law 1144 = .ok (.iload 5, 2) := by decide +kernel
theorem dL_law_1146 : decode cL_law 1146 = .ok (.if_icmp .eq 5, 3) := by decide +kernel
theorem dL_law_1149 : decode cL_law 1149 = .ok (.iconst 0, 1) := by decide +kernel
theorem dL_law_1150 : decode cL_law 1150 = .ok (.ireturn, 1) := by decide +kernel
theorem dL_law_1151 : decode cL_law 1151 = .ok (.iload 5, 2) := by decide +kernel
theorem dL_law_1153 : decode cL_law 1153 = .ok (.ifCond .ne 15, 3) := by decide +kernel
theorem dL_law_1156 : decode cL_law 1156 = .ok (.aload_n 3, 1) := by decide +kernel
theorem dL_law_1157 : decode cL_law 1157 = .ok (.iconst 0, 1) := by decide +kernel
theorem dL_law_1158 : decode cL_law 1158 = .ok (.laload, 1) := by decide +kernel
theorem dL_law_1159 : decode cL_law 1159 = .ok (.iload 6, 2) := by decide +kernel
theorem dL_law_1161 : decode cL_law 1161 = .ok (.i2l, 1) := by decide +kernel
theorem dL_law_1162 : decode cL_law 1162 = .ok (.lcmp, 1) := by decide +kernel
theorem dL_law_1163 : decode cL_law 1163 = .ok (.ifCond .eq 5, 3) := by decide +kernel
theorem dL_law_1166 : decode cL_law 1166 = .ok (.iconst 0, 1) := by decide +kernel
theorem dL_law_1167 : decode cL_law 1167 = .ok (.ireturn, 1) := by decide +kernel
theorem dL_law_1168 : decode cL_law 1168 = .ok (.goto 418, 3) := by decide +kernel
theorem dL_law_1171 : decode cL_law 1171 = .ok (.aload_n 1, 1) := by decide +kernel
theorem dL_law_1172 : decode cL_law 1172 = .ok (.aload_n 0, 1) := by decide +kernel
theorem dL_law_1173 : decode cL_law 1173 = .ok (.iload 4, 2) := by decide +kernel
theorem dL_law_1175 : decode cL_law 1175 = .ok (.iconst 1, 1) := by decide +kernel
theorem dL_law_1176 : decode cL_law 1176 = .ok (.iadd, 1) := by decide +kernel
theorem dL_law_1177 : decode cL_law 1177 = .ok (.iaload, 1) := by decide +kernel
theorem dL_law_1178 : decode cL_law 1178 = .ok (.aload_n 0, 1) := by decide +kernel
theorem dL_law_1179 : decode cL_law 1179 = .ok (.iload 4, 2) := by decide +kernel
theorem dL_law_1181 : decode cL_law 1181 = .ok (.iconst 2, 1) := by decide +kernel
theorem dL_law_1182 : decode cL_law 1182 = .ok (.iadd, 1) := by decide +kernel
theorem dL_law_1183 : decode cL_law 1183 = .ok (.iaload, 1) := by decide +kernel
theorem dL_law_1184 : decode cL_law 1184 = .ok (.aload_n 3, 1) := by decide +kernel
theorem dL_law_1185 : decode cL_law 1185 = .ok (.invokestatic 143, 3) := by decide +kernel
theorem dL_law_1188 : decode cL_law 1188 = .ok (.istore 5, 2) := by decide +kernel
theorem dL_law_1190 : decode cL_law 1190 = .ok (.aload_n 2, 1) := by decide +kernel
theorem dL_law_1191 : decode cL_law 1191 = .ok (.aload_n 0, 1) := by decide +kernel
theorem dL_law_1192 : decode cL_law 1192 = .ok (.iload 4, 2) := by decide +kernel
theorem dL_law_1194 : decode cL_law 1194 = .ok (.iconst 1, 1) := by decide +kernel
theorem dL_law_1195 : decode cL_law 1195 = .ok (.iadd, 1) := by decide +kernel
theorem dL_law_1196 : decode cL_law 1196 = .ok (.iaload, 1) := by decide +kernel
theorem dL_law_1197 : decode cL_law 1197 = .ok (.aload_n 0, 1) := by decide +kernel
theorem dL_law_1198 : decode cL_law 1198 = .ok (.iload 4, 2) := by decide +kernel
theorem dL_law_1200 : decode cL_law 1200 = .ok (.iconst 2, 1) := by decide +kernel
theorem dL_law_1201 : decode cL_law 1201 = .ok (.iadd, 1) := by decide +kernel
theorem dL_law_1202 : decode cL_law 1202 = .ok (.iaload, 1) := by decide +kernel
theorem dL_law_1203 : decode cL_law 1203 = .ok (.invokevirtual 145, 3) := by decide +kernel
theorem dL_law_1206 : decode cL_law 1206 = .ok (.istore 6, 2) := by decide +kernel
theorem dL_law_1208 : decode cL_law 1208 = .ok (.aload_n 2, 1) := by decide +kernel
theorem dL_law_1209 : decode cL_law 1209 = .ok (.invokevirtual 92, 3) := by decide +kernel
theorem dL_law_1212 : decode cL_law 1212 = .ok (.iload 5, 2) := by decide +kernel
theorem dL_law_1214 : decode cL_law 1214 = .ok (.if_icmp .eq 5, 3) := by decide +kernel
theorem dL_law_1217 : decode cL_law 1217 = .ok (.iconst 0, 1) := by decide +kernel
theorem dL_law_1218 : decode cL_law 1218 = .ok (.ireturn, 1) := by decide +kernel
theorem dL_law_1219 : decode cL_law 1219 = .ok (.iload 5, 2) := by decide +kernel
theorem dL_law_1221 : decode cL_law 1221 = .ok (.ifCond .ne 15, 3) := by decide +kernel
theorem dL_law_1224 : decode cL_law 1224 = .ok (.aload_n 3, 1) := by decide +kernel
theorem dL_law_1225 : decode cL_law 1225 = .ok (.iconst 0, 1) := by decide +kernel
theorem dL_law_1226 : decode cL_law 1226 = .ok (.laload, 1) := by decide +kernel
theorem dL_law_1227 : decode cL_law 1227 = .ok (.iload 6, 2) := by decide +kernel
theorem dL_law_1229 : decode cL_law 1229 = .ok (.i2l, 1) := by decide +kernel
theorem dL_law_1230 : decode cL_law 1230 = .ok (.lcmp, 1) := by decide +kernel
theorem dL_law_1231 : decode cL_law 1231 = .ok (.ifCond .eq 5, 3) := by decide +kernel
theorem dL_law_1234 : decode cL_law 1234 = .ok (.iconst 0, 1) := by decide +kernel
theorem dL_law_1235 : decode cL_law 1235 = .ok (.ireturn, 1) := by decide +kernel
theorem dL_law_1236 : decode cL_law 1236 = .ok (.goto 350, 3) := by decide +kernel
theorem dL_law_1239 : decode cL_law 1239 = .ok (.aload_n 1, 1) := by decide +kernel
theorem dL_law_1240 : decode cL_law 1240 = .ok (.aload_n 0, 1) := by decide +kernel
theorem dL_law_1241 : decode cL_law 1241 = .ok (.iload 4, 2) := by decide +kernel
theorem dL_law_1243 : decode cL_law 1243 = .ok (.iconst 1, 1) := by decide +kernel
theorem dL_law_1244 : decode cL_law 1244 = .ok (.iadd, 1) := by decide +kernel
theorem dL_law_1245 : decode cL_law 1245 = .ok (.iaload, 1) := by decide +kernel
theorem dL_law_1246 : decode cL_law 1246 = .ok (.aload_n 0, 1) := by decide +kernel
theorem dL_law_1247 : decode cL_law 1247 = .ok (.iload 4, 2) := by decide +kernel
theorem dL_law_1249 : decode cL_law 1249 = .ok (.iconst 2, 1) := by decide +kernel
theorem dL_law_1250 : decode cL_law 1250 = .ok (.iadd, 1) := by decide +kernel
theorem dL_law_1251 : decode cL_law 1251 = .ok (.iaload, 1) := by decide +kernel
theorem dL_law_1252 : decode cL_law 1252 = .ok (.aload_n 3, 1) := by decide +kernel
theorem dL_law_1253 : decode cL_law 1253 = .ok (.invokestatic 146, 3) := by decide +kernel
theorem dL_law_1256 : decode cL_law 1256 = .ok (.istore 5, 2) := by decide +kernel
theorem dL_law_1258 : decode cL_law 1258 = .ok (.aload_n 2, 1) := by decide +kernel
theorem dL_law_1259 : decode cL_law 1259 = .ok (.aload_n 0, 1) := by decide +kernel
theorem dL_law_1260 : decode cL_law 1260 = .ok (.iload 4, 2) := by decide +kernel
theorem dL_law_1262 : decode cL_law 1262 = .ok (.iconst 1, 1) := by decide +kernel
theorem dL_law_1263 : decode cL_law 1263 = .ok (.iadd, 1) := by decide +kernel
theorem dL_law_1264 : decode cL_law 1264 = .ok (.iaload, 1) := by decide +kernel
theorem dL_law_1265 : decode cL_law 1265 = .ok (.aload_n 0, 1) := by decide +kernel
theorem dL_law_1266 : decode cL_law 1266 = .ok (.iload 4, 2) := by decide +kernel
theorem dL_law_1268 : decode cL_law 1268 = .ok (.iconst 2, 1) := by decide +kernel
theorem dL_law_1269 : decode cL_law 1269 = .ok (.iadd, 1) := by decide +kernel
theorem dL_law_1270 : decode cL_law 1270 = .ok (.iaload, 1) := by decide +kernel
theorem dL_law_1271 : decode cL_law 1271 = .ok (.invokevirtual 148, 3) := by decide +kernel
theorem dL_law_1274 : decode cL_law 1274 = .ok (.istore 6, 2) := by decide +kernel
theorem dL_law_1276 : decode cL_law 1276 = .ok (.aload_n 2, 1) := by decide +kernel
theorem dL_law_1277 : decode cL_law 1277 = .ok (.invokevirtual 92, 3) := by decide +kernel
theorem dL_law_1280 : decode cL_law 1280 = .ok (.iload 5, 2) := by decide +kernel
theorem dL_law_1282 : decode cL_law 1282 = .ok (.if_icmp .eq 5, 3) := by decide +kernel
theorem dL_law_1285 : decode cL_law 1285 = .ok (.iconst 0, 1) := by decide +kernel
theorem dL_law_1286 : decode cL_law 1286 = .ok (.ireturn, 1) := by decide +kernel
theorem dL_law_1287 : decode cL_law 1287 = .ok (.iload 5, 2) := by decide +kernel
theorem dL_law_1289 : decode cL_law 1289 = .ok (.ifCond .ne 22, 3) := by decide +kernel
theorem dL_law_1292 : decode cL_law 1292 = .ok (.aload_n 3, 1) := by decide +kernel
theorem dL_law_1293 : decode cL_law 1293 = .ok (.iconst 0, 1) := by decide +kernel
theorem dL_law_1294 : decode cL_law 1294 = .ok (.laload, 1) := by decide +kernel
theorem dL_law_1295 : decode cL_law 1295 = .ok (.iload 6, 2) := by decide +kernel
theorem dL_law_1297 : decode cL_law 1297 = .ok (.ifCond .eq 7, 3) := by decide +kernel
theorem dL_law_1300 : decode cL_law 1300 = .ok (.lconst 1, 1) := by decide +kernel
theorem dL_law_1301 : decode cL_law 1301 = .ok (.goto 4, 3) := by decide +kernel
theorem dL_law_1304 : decode cL_law 1304 = .ok (.lconst 0, 1) := by decide +kernel
theorem dL_law_1305 : decode cL_law 1305 = .ok (.lcmp, 1) := by decide +kernel
theorem dL_law_1306 : decode cL_law 1306 = .ok (.ifCond .eq 5, 3) := by decide +kernel
theorem dL_law_1309 : decode cL_law 1309 = .ok (.iconst 0, 1) := by decide +kernel
theorem dL_law_1310 : decode cL_law 1310 = .ok (.ireturn, 1) := by decide +kernel
theorem dL_law_1311 : decode cL_law 1311 = .ok (.goto 275, 3) := by decide +kernel
theorem dL_law_1314 : decode cL_law 1314 = .ok (.aload_n 1, 1) := by decide +kernel
theorem dL_law_1315 : decode cL_law 1315 = .ok (.aload_n 0, 1) := by decide +kernel
theorem dL_law_1316 : decode cL_law 1316 = .ok (.iload 4, 2) := by decide +kernel
theorem dL_law_1318 : decode cL_law 1318 = .ok (.iconst 1, 1) := by decide +kernel
theorem dL_law_1319 : decode cL_law 1319 = .ok (.iadd, 1) := by decide +kernel
theorem dL_law_1320 : decode cL_law 1320 = .ok (.iaload, 1) := by decide +kernel
theorem dL_law_1321 : decode cL_law 1321 = .ok (.aload_n 0, 1) := by decide +kernel
theorem dL_law_1322 : decode cL_law 1322 = .ok (.iload 4, 2) := by decide +kernel
theorem dL_law_1324 : decode cL_law 1324 = .ok (.iconst 2, 1) := by decide +kernel
theorem dL_law_1325 : decode cL_law 1325 = .ok (.iadd, 1) := by decide +kernel
theorem dL_law_1326 : decode cL_law 1326 = .ok (.iaload, 1) := by decide +kernel
theorem dL_law_1327 : decode cL_law 1327 = .ok (.aload_n 3, 1) := by decide +kernel
theorem dL_law_1328 : decode cL_law 1328 = .ok (.invokestatic 149, 3) := by decide +kernel
theorem dL_law_1331 : decode cL_law 1331 = .ok (.istore 5, 2) := by decide +kernel
theorem dL_law_1333 : decode cL_law 1333 = .ok (.aload_n 2, 1) := by decide +kernel
theorem dL_law_1334 : decode cL_law 1334 = .ok (.aload_n 0, 1) := by decide +kernel
theorem dL_law_1335 : decode cL_law 1335 = .ok (.iload 4, 2) := by decide +kernel
theorem dL_law_1337 : decode cL_law 1337 = .ok (.iconst 1, 1) := by decide +kernel
theorem dL_law_1338 : decode cL_law 1338 = .ok (.iadd, 1) := by decide +kernel
theorem dL_law_1339 : decode cL_law 1339 = .ok (.iaload, 1) := by decide +kernel
theorem dL_law_1340 : decode cL_law 1340 = .ok (.aload_n 0, 1) := by decide +kernel
theorem dL_law_1341 : decode cL_law 1341 = .ok (.iload 4, 2) := by decide +kernel
theorem dL_law_1343 : decode cL_law 1343 = .ok (.iconst 2, 1) := by decide +kernel
theorem dL_law_1344 : decode cL_law 1344 = .ok (.iadd, 1) := by decide +kernel
theorem dL_law_1345 : decode cL_law 1345 = .ok (.iaload, 1) := by decide +kernel
theorem dL_law_1346 : decode cL_law 1346 = .ok (.invokevirtual 151, 3) := by decide +kernel
theorem dL_law_1349 : decode cL_law 1349 = .ok (.istore 6, 2) := by decide +kernel
theorem dL_law_1351 : decode cL_law 1351 = .ok (.aload_n 2, 1) := by decide +kernel
theorem dL_law_1352 : decode cL_law 1352 = .ok (.invokevirtual 92, 3) := by decide +kernel
theorem dL_law_1355 : decode cL_law 1355 = .ok (.iload 5, 2) := by decide +kernel
theorem dL_law_1357 : decode cL_law 1357 = .ok (.if_icmp .eq 5, 3) := by decide +kernel
theorem dL_law_1360 : decode cL_law 1360 = .ok (.iconst 0, 1) := by decide +kernel
theorem dL_law_1361 : decode cL_law 1361 = .ok (.ireturn, 1) := by decide +kernel
theorem dL_law_1362 : decode cL_law 1362 = .ok (.iload 5, 2) := by decide +kernel
theorem dL_law_1364 : decode cL_law 1364 = .ok (.ifCond .ne 15, 3) := by decide +kernel
theorem dL_law_1367 : decode cL_law 1367 = .ok (.aload_n 3, 1) := by decide +kernel
theorem dL_law_1368 : decode cL_law 1368 = .ok (.iconst 0, 1) := by decide +kernel
theorem dL_law_1369 : decode cL_law 1369 = .ok (.laload, 1) := by decide +kernel
theorem dL_law_1370 : decode cL_law 1370 = .ok (.iload 6, 2) := by decide +kernel
theorem dL_law_1372 : decode cL_law 1372 = .ok (.i2l, 1) := by decide +kernel
theorem dL_law_1373 : decode cL_law 1373 = .ok (.lcmp, 1) := by decide +kernel
theorem dL_law_1374 : decode cL_law 1374 = .ok (.ifCond .eq 5, 3) := by decide +kernel
theorem dL_law_1377 : decode cL_law 1377 = .ok (.iconst 0, 1) := by decide +kernel
theorem dL_law_1378 : decode cL_law 1378 = .ok (.ireturn, 1) := by decide +kernel
theorem dL_law_1379 : decode cL_law 1379 = .ok (.goto 207, 3) := by decide +kernel
theorem dL_law_1382 : decode cL_law 1382 = .ok (.aload_n 1, 1) := by decide +kernel
theorem dL_law_1383 : decode cL_law 1383 = .ok (.aload_n 0, 1) := by decide +kernel
theorem dL_law_1384 : decode cL_law 1384 = .ok (.iload 4, 2) := by decide +kernel
theorem dL_law_1386 : decode cL_law 1386 = .ok (.iconst 1, 1) := by decide +kernel
theorem dL_law_1387 : decode cL_law 1387 = .ok (.iadd, 1) := by decide +kernel
theorem dL_law_1388 : decode cL_law 1388 = .ok (.iaload, 1) := by decide +kernel
theorem dL_law_1389 : decode cL_law 1389 = .ok (.aload_n 0, 1) := by decide +kernel
theorem dL_law_1390 : decode cL_law 1390 = .ok (.iload 4, 2) := by decide +kernel
theorem dL_law_1392 : decode cL_law 1392 = .ok (.iconst 2, 1) := by decide +kernel
theorem dL_law_1393 : decode cL_law 1393 = .ok (.iadd, 1) := by decide +kernel
theorem dL_law_1394 : decode cL_law 1394 = .ok (.iaload, 1) := by decide +kernel
theorem dL_law_1395 : decode cL_law 1395 = .ok (.aload_n 3, 1) := by decide +kernel
theorem dL_law_1396 : decode cL_law 1396 = .ok (.invokestatic 152, 3) := by decide +kernel
theorem dL_law_1399 : decode cL_law 1399 = .ok (.istore 5, 2) := by decide +kernel
theorem dL_law_1401 : decode cL_law 1401 = .ok (.aload_n 2, 1) := by decide +kernel
theorem dL_law_1402 : decode cL_law 1402 = .ok (.aload_n 0, 1) := by decide +kernel
theorem dL_law_1403 : decode cL_law 1403 = .ok (.iload 4, 2) := by decide +kernel
theorem dL_law_1405 : decode cL_law 1405 = .ok (.iconst 1, 1) := by decide +kernel
theorem dL_law_1406 : decode cL_law 1406 = .ok (.iadd, 1) := by decide +kernel
theorem dL_law_1407 : decode cL_law 1407 = .ok (.iaload, 1) := by decide +kernel
theorem dL_law_1408 : decode cL_law 1408 = .ok (.aload_n 0, 1) := by decide +kernel
theorem dL_law_1409 : decode cL_law 1409 = .ok (.iload 4, 2) := by decide +kernel
theorem dL_law_1411 : decode cL_law 1411 = .ok (.iconst 2, 1) := by decide +kernel
theorem dL_law_1412 : decode cL_law 1412 = .ok (.iadd, 1) := by decide +kernel
theorem dL_law_1413 : decode cL_law 1413 = .ok (.iaload, 1) := by decide +kernel
theorem dL_law_1414 : decode cL_law 1414 = .ok (.invokevirtual 154, 3) := by decide +kernel
theorem dL_law_1417 : decode cL_law 1417 = .ok (.istore 6, 2) := by decide +kernel
theorem dL_law_1419 : decode cL_law 1419 = .ok (.aload_n 2, 1) := by decide +kernel
theorem dL_law_1420 : decode cL_law 1420 = .ok (.invokevirtual 92, 3) := by decide +kernel
theorem dL_law_1423 : decode cL_law 1423 = .ok (.iload 5, 2) := by decide +kernel
theorem dL_law_1425 : decode cL_law 1425 = .ok (.if_icmp .eq 5, 3) := by decide +kernel
theorem dL_law_1428 : decode cL_law 1428 = .ok (.iconst 0, 1) := by decide +kernel
theorem dL_law_1429 : decode cL_law 1429 = .ok (.ireturn, 1) := by decide +kernel
theorem dL_law_1430 : decode cL_law 1430 = .ok (.iload 5, 2) := by decide +kernel
theorem dL_law_1432 : decode cL_law 1432 = .ok (.ifCond .ne 15, 3) := by decide +kernel
theorem dL_law_1435 : decode cL_law 1435 = .ok (.aload_n 3, 1) := by decide +kernel
theorem dL_law_1436 : decode cL_law 1436 = .ok (.iconst 0, 1) := by decide +kernel
theorem dL_law_1437 : decode cL_law 1437 = .ok (.laload, 1) := by decide +kernel
theorem dL_law_1438 : decode cL_law 1438 = .ok (.iload 6, 2) := by decide +kernel
theorem dL_law_1440 : decode cL_law 1440 = .ok (.i2l, 1) := by decide +kernel
theorem dL_law_1441 : decode cL_law 1441 = .ok (.lcmp, 1) := by decide +kernel
theorem dL_law_1442 : decode cL_law 1442 = .ok (.ifCond .eq 5, 3) := by decide +kernel
theorem dL_law_1445 : decode cL_law 1445 = .ok (.iconst 0, 1) := by decide +kernel
theorem dL_law_1446 : decode cL_law 1446 = .ok (.ireturn, 1) := by decide +kernel
theorem dL_law_1447 : decode cL_law 1447 = .ok (.goto 139, 3) := by decide +kernel
theorem dL_law_1450 : decode cL_law 1450 = .ok (.aload_n 1, 1) := by decide +kernel
theorem dL_law_1451 : decode cL_law 1451 = .ok (.aload_n 0, 1) := by decide +kernel
theorem dL_law_1452 : decode cL_law 1452 = .ok (.iload 4, 2) := by decide +kernel
theorem dL_law_1454 : decode cL_law 1454 = .ok (.iconst 1, 1) := by decide +kernel
theorem dL_law_1455 : decode cL_law 1455 = .ok (.iadd, 1) := by decide +kernel
theorem dL_law_1456 : decode cL_law 1456 = .ok (.iaload, 1) := by decide +kernel
theorem dL_law_1457 : decode cL_law 1457 = .ok (.aload_n 0, 1) := by decide +kernel
theorem dL_law_1458 : decode cL_law 1458 = .ok (.iload 4, 2) := by decide +kernel
theorem dL_law_1460 : decode cL_law 1460 = .ok (.iconst 2, 1) := by decide +kernel
theorem dL_law_1461 : decode cL_law 1461 = .ok (.iadd, 1) := by decide +kernel
theorem dL_law_1462 : decode cL_law 1462 = .ok (.iaload, 1) := by decide +kernel
theorem dL_law_1463 : decode cL_law 1463 = .ok (.aload_n 3, 1) := by decide +kernel
theorem dL_law_1464 : decode cL_law 1464 = .ok (.invokestatic 155, 3) := by decide +kernel
theorem dL_law_1467 : decode cL_law 1467 = .ok (.istore 5, 2) := by decide +kernel
theorem dL_law_1469 : decode cL_law 1469 = .ok (.aload_n 2, 1) := by decide +kernel
theorem dL_law_1470 : decode cL_law 1470 = .ok (.aload_n 0, 1) := by decide +kernel
theorem dL_law_1471 : decode cL_law 1471 = .ok (.iload 4, 2) := by decide +kernel
theorem dL_law_1473 : decode cL_law 1473 = .ok (.iconst 1, 1) := by decide +kernel
theorem dL_law_1474 : decode cL_law 1474 = .ok (.iadd, 1) := by decide +kernel
theorem dL_law_1475 : decode cL_law 1475 = .ok (.iaload, 1) := by decide +kernel
theorem dL_law_1476 : decode cL_law 1476 = .ok (.aload_n 0, 1) := by decide +kernel
theorem dL_law_1477 : decode cL_law 1477 = .ok (.iload 4, 2) := by decide +kernel
theorem dL_law_1479 : decode cL_law 1479 = .ok (.iconst 2, 1) := by decide +kernel
theorem dL_law_1480 : decode cL_law 1480 = .ok (.iadd, 1) := by decide +kernel
theorem dL_law_1481 : decode cL_law 1481 = .ok (.iaload, 1) := by decide +kernel
theorem dL_law_1482 : decode cL_law 1482 = .ok (.invokevirtual 157, 3) := by decide +kernel
theorem dL_law_1485 : decode cL_law 1485 = .ok (.istore 6, 2) := by decide +kernel
theorem dL_law_1487 : decode cL_law 1487 = .ok (.aload_n 2, 1) := by decide +kernel
theorem dL_law_1488 : decode cL_law 1488 = .ok (.invokevirtual 92, 3) := by decide +kernel
theorem dL_law_1491 : decode cL_law 1491 = .ok (.iload 5, 2) := by decide +kernel
theorem dL_law_1493 : decode cL_law 1493 = .ok (.if_icmp .eq 5, 3) := by decide +kernel
theorem dL_law_1496 : decode cL_law 1496 = .ok (.iconst 0, 1) := by decide +kernel
theorem dL_law_1497 : decode cL_law 1497 = .ok (.ireturn, 1) := by decide +kernel
theorem dL_law_1498 : decode cL_law 1498 = .ok (.iload 5, 2) := by decide +kernel
theorem dL_law_1500 : decode cL_law 1500 = .ok (.ifCond .ne 15, 3) := by decide +kernel
theorem dL_law_1503 : decode cL_law 1503 = .ok (.aload_n 3, 1) := by decide +kernel
theorem dL_law_1504 : decode cL_law 1504 = .ok (.iconst 0, 1) := by decide +kernel
theorem dL_law_1505 : decode cL_law 1505 = .ok (.laload, 1) := by decide +kernel
theorem dL_law_1506 : decode cL_law 1506 = .ok (.iload 6, 2) := by decide +kernel
theorem dL_law_1508 : decode cL_law 1508 = .ok (.i2l, 1) := by decide +kernel
theorem dL_law_1509 : decode cL_law 1509 = .ok (.lcmp, 1) := by decide +kernel
theorem dL_law_1510 : decode cL_law 1510 = .ok (.ifCond .eq 5, 3) := by decide +kernel
theorem dL_law_1513 : decode cL_law 1513 = .ok (.iconst 0, 1) := by decide +kernel
theorem dL_law_1514 : decode cL_law 1514 = .ok (.ireturn, 1) := by decide +kernel
theorem dL_law_1515 : decode cL_law 1515 = .ok (.goto 71, 3) := by decide +kernel
theorem dL_law_1518 : decode cL_law 1518 = .ok (.aload_n 1, 1) := by decide +kernel
theorem dL_law_1519 : decode cL_law 1519 = .ok (.aload_n 0, 1) := by decide +kernel
theorem dL_law_1520 : decode cL_law 1520 = .ok (.iload 4, 2) := by decide +kernel
theorem dL_law_1522 : decode cL_law 1522 = .ok (.iconst 1, 1) := by decide +kernel
theorem dL_law_1523 : decode cL_law 1523 = .ok (.iadd, 1) := by decide +kernel
theorem dL_law_1524 : decode cL_law 1524 = .ok (.iaload, 1) := by decide +kernel
theorem dL_law_1525 : decode cL_law 1525 = .ok (.aload_n 0, 1) := by decide +kernel
theorem dL_law_1526 : decode cL_law 1526 = .ok (.iload 4, 2) := by decide +kernel
theorem dL_law_1528 : decode cL_law 1528 = .ok (.iconst 2, 1) := by decide +kernel
theorem dL_law_1529 : decode cL_law 1529 = .ok (.iadd, 1) := by decide +kernel
theorem dL_law_1530 : decode cL_law 1530 = .ok (.iaload, 1) := by decide +kernel
theorem dL_law_1531 : decode cL_law 1531 = .ok (.aload_n 3, 1) := by decide +kernel
theorem dL_law_1532 : decode cL_law 1532 = .ok (.invokestatic 158, 3) := by decide +kernel
theorem dL_law_1535 : decode cL_law 1535 = .ok (.istore 5, 2) := by decide +kernel
theorem dL_law_1537 : decode cL_law 1537 = .ok (.aload_n 2, 1) := by decide +kernel
theorem dL_law_1538 : decode cL_law 1538 = .ok (.aload_n 0, 1) := by decide +kernel
theorem dL_law_1539 : decode cL_law 1539 = .ok (.iload 4, 2) := by decide +kernel
theorem dL_law_1541 : decode cL_law 1541 = .ok (.iconst 1, 1) := by decide +kernel
theorem dL_law_1542 : decode cL_law 1542 = .ok (.iadd, 1) := by decide +kernel
theorem dL_law_1543 : decode cL_law 1543 = .ok (.iaload, 1) := by decide +kernel
theorem dL_law_1544 : decode cL_law 1544 = .ok (.aload_n 0, 1) := by decide +kernel
theorem dL_law_1545 : decode cL_law 1545 = .ok (.iload 4, 2) := by decide +kernel
theorem dL_law_1547 : decode cL_law 1547 = .ok (.iconst 2, 1) := by decide +kernel
theorem dL_law_1548 : decode cL_law 1548 = .ok (.iadd, 1) := by decide +kernel
theorem dL_law_1549 : decode cL_law 1549 = .ok (.iaload, 1) := by decide +kernel
theorem dL_law_1550 : decode cL_law 1550 = .ok (.invokevirtual 160, 3) := by decide +kernel
theorem dL_law_1553 : decode cL_law 1553 = .ok (.istore 6, 2) := by decide +kernel
theorem dL_law_1555 : decode cL_law 1555 = .ok (.aload_n 2, 1) := by decide +kernel
theorem dL_law_1556 : decode cL_law 1556 = .ok (.invokevirtual 92, 3) := by decide +kernel
theorem dL_law_1559 : decode cL_law 1559 = .ok (.iload 5, 2) := by decide +kernel
theorem dL_law_1561 : decode cL_law 1561 = .ok (.if_icmp .eq 5, 3) := by decide +kernel
theorem dL_law_1564 : decode cL_law 1564 = .ok (.iconst 0, 1) := by decide +kernel
theorem dL_law_1565 : decode cL_law 1565 = .ok (.ireturn, 1) := by decide +kernel
theorem dL_law_1566 : decode cL_law 1566 = .ok (.iload 5, 2) := by decide +kernel
theorem dL_law_1568 : decode cL_law 1568 = .ok (.ifCond .ne 15, 3) := by decide +kernel
theorem dL_law_1571 : decode cL_law 1571 = .ok (.aload_n 3, 1) := by decide +kernel
theorem dL_law_1572 : decode cL_law 1572 = .ok (.iconst 0, 1) := by decide +kernel
theorem dL_law_1573 : decode cL_law 1573 = .ok (.laload, 1) := by decide +kernel
theorem dL_law_1574 : decode cL_law 1574 = .ok (.iload 6, 2) := by decide +kernel
theorem dL_law_1576 : decode cL_law 1576 = .ok (.i2l, 1) := by decide +kernel
theorem dL_law_1577 : decode cL_law 1577 = .ok (.lcmp, 1) := by decide +kernel
theorem dL_law_1578 : decode cL_law 1578 = .ok (.ifCond .eq 5, 3) := by decide +kernel
theorem dL_law_1581 : decode cL_law 1581 = .ok (.iconst 0, 1) := by decide +kernel
theorem dL_law_1582 : decode cL_law 1582 = .ok (.ireturn, 1) := by decide +kernel
theorem dL_law_1583 : decode cL_law 1583 = .ok (.goto 3, 3) := by decide +kernel
theorem dL_law_1586 : decode cL_law 1586 = .ok (.iinc 4 5, 3) := by decide +kernel
theorem dL_law_1589 : decode cL_law 1589 = .ok (.goto (-1566), 3) := by decide +kernel
theorem dL_law_1592 : decode cL_law 1592 = .ok (.iconst 1, 1) := by decide +kernel
theorem dL_law_1593 : decode cL_law 1593 = .ok (.ireturn, 1) := by decide +kernel
