theorem dX12_brokens_2 : decode cX12_brokens 2 = .ok (.iload_n 2, 1) := by decide +kernel
theorem dX12_brokens_3 : decode cX12_brokens 3 = .ok (.invokestatic 316, 3) := by decide +kernel
theorem dX12_brokens_6 : decode cX12_brokens 6 = .ok (.ifCond .eq 7, 3) := by decide +kernel
theorem dX12_brokens_9 : decode cX12_brokens 9 = .ok (.ldc_w 295, 3) := by decide +kernel
theorem dX12_brokens_12 : decode cX12_brokens 12 = .ok (.ireturn, 1) := by decide +kernel
theorem dX12_brokens_13 : decode cX12_brokens 13 = .ok (.iload_n 1, 1) := by decide +kernel
theorem dX12_brokens_14 : decode cX12_brokens 14 = .ok (.invokestatic 296, 3) := by decide +kernel
theorem dX12_brokens_17 : decode cX12_brokens 17 = .ok (.fstore_n 3, 1) := by decide +kernel
theorem dX12_brokens_18 : decode cX12_brokens 18 = .ok (.iload_n 2, 1) := by decide +kernel
theorem dX12_brokens_19 : decode cX12_brokens 19 = .ok (.invokestatic 296, 3) := by decide +kernel
theorem dX12_brokens_22 : decode cX12_brokens 22 = .ok (.fstore 4, 2) := by decide +kernel
theorem dX12_brokens_24 : decode cX12_brokens 24 = .ok (.iload_n 0, 1) := by decide +kernel
theorem dX12_brokens_25 : decode cX12_brokens 25 = .ok (.tableswitch 55 42 45 #[47, 31, 55, 39], 31) := by decide +kernel
theorem dX12_brokens_56 : decode cX12_brokens 56 = .ok (.fload_n 3, 1) := by decide +kernel
theorem dX12_brokens_57 : decode cX12_brokens 57 = .ok (.fload 4, 2) := by decide +kernel
theorem dX12_brokens_59 : decode cX12_brokens 59 = .ok (.fadd, 1) := by decide +kernel
theorem dX12_brokens_60 : decode cX12_brokens 60 = .ok (.invokestatic 287, 3) := by decide +kernel
theorem dX12_brokens_63 : decode cX12_brokens 63 = .ok (.ireturn, 1) := by decide +kernel
theorem dX12_brokens_64 : decode cX12_brokens 64 = .ok (.fload_n 3, 1) := by decide +kernel
theorem dX12_brokens_65 : decode cX12_brokens 65 = .ok (.fload 4, 2) := by decide +kernel
theorem dX12_brokens_67 : decode cX12_brokens 67 = .ok (.fsub, 1) := by decide +kernel
theorem dX12_brokens_68 : decode cX12_brokens 68 = .ok (.invokestatic 287, 3) := by decide +kernel
theorem dX12_brokens_71 : decode cX12_brokens 71 = .ok (.ireturn, 1) := by decide +kernel
theorem dX12_brokens_72 : decode cX12_brokens 72 = .ok (.fload_n 3, 1) := by decide +kernel
theorem dX12_brokens_73 : decode cX12_brokens 73 = .ok (.fload 4, 2) := by decide +kernel
theorem dX12_brokens_75 : decode cX12_brokens 75 = .ok (.fmul, 1) := by decide +kernel
theorem dX12_brokens_76 : decode cX12_brokens 76 = .ok (.invokestatic 287, 3) := by decide +kernel
theorem dX12_brokens_79 : decode cX12_brokens 79 = .ok (.ireturn, 1) := by decide +kernel
theorem dX12_brokens_80 : decode cX12_brokens 80 = .ok (.fload_n 3, 1) := by decide +kernel
theorem dX12_brokens_81 : decode cX12_brokens 81 = .ok (.fload 4, 2) := by decide +kernel
theorem dX12_brokens_83 : decode cX12_brokens 83 = .ok (.fdiv, 1) := by decide +kernel
theorem dX12_brokens_84 : decode cX12_brokens 84 = .ok (.invokestatic 287, 3) := by decide +kernel
theorem dX12_brokens_87 : decode cX12_brokens 87 = .ok (.ireturn, 1) := by decide +kernel
theorem dX12_isLess_0 : decode cX12_isLess 0 = .ok (.iload_n 0, 1) := by decide +kernel
theorem dX12_isLess_1 : decode cX12_isLess 1 = .ok (.invokestatic 291, 3) := by decide +kernel
theorem dX12_isLess_4 : decode cX12_isLess 4 = .ok (.ifCond .ne 26, 3) := by decide +kernel
theorem dX12_isLess_7 : decode cX12_isLess 7 = .ok (.iload_n 1, 1) := by decide +kernel
theorem dX12_isLess_8 : decode cX12_isLess 8 = .ok (.invokestatic 291, 3) := by decide +kernel
theorem dX12_isLess_11 : decode cX12_isLess 11 = .ok (.ifCond .ne 19, 3) := by decide +kernel
theorem dX12_isLess_14 : decode cX12_isLess 14 = .ok (.iload_n 0, 1) := by decide +kernel
theorem dX12_isLess_15 : decode cX12_isLess 15 = .ok (.invokestatic 296, 3) := by decide +kernel
theorem dX12_isLess_18 : decode cX12_isLess 18 = .ok (.iload_n 1, 1) := by decide +kernel
theorem dX12_isLess_19 : decode cX12_isLess 19 = .ok (.invokestatic 296, 3) := by decide +kernel
theorem dX12_isLess_22 : decode cX12_isLess 22 = .ok (.fcmp .g, 1) := by decide +kernel
theorem dX12_isLess_23 : decode cX12_isLess 23 = .ok (.ifCond .ge 7, 3) := by decide +kernel
theorem dX12_isLess_26 : decode cX12_isLess 26 = .ok (.iconst 1, 1) := by decide +kernel
theorem dX12_isLess_27 : decode cX12_isLess 27 = .ok (.goto 4, 3) := by decide +kernel
theorem dX12_isLess_30 : decode cX12_isLess 30 = .ok (.iconst 0, 1) := by decide +kernel
theorem dX12_isLess_31 : decode cX12_isLess 31 = .ok (.ireturn, 1) := by decide +kernel
theorem dX12_isSame_0 : decode cX12_isSame 0 = .ok (.iload_n 0, 1) := by decide +kernel
theorem dX12_isSame_1 : decode cX12_isSame 1 = .ok (.invokestatic 291, 3) := by decide +kernel
theorem dX12_isSame_4 : decode cX12_isSame 4 = .ok (.ifCond .ne 26, 3) := by decide +kernel
theorem dX12_isSame_7 : decode cX12_isSame 7 = .ok (.iload_n 1, 1) := by decide +kernel
theorem dX12_isSame_8 : decode cX12_isSame 8 = .ok (.invokestatic 291, 3) := by decide +kernel
theorem dX12_isSame_11 : decode cX12_isSame 11 = .ok (.ifCond .ne 19, 3) := by decide +kernel
theorem dX12_isSame_14 : decode cX12_isSame 14 = .ok (.iload_n 0, 1) := by decide +kernel
theorem dX12_isSame_15 : decode cX12_isSame 15 = .ok (.invokestatic 296, 3) := by decide +kernel
theorem dX12_isSame_18 : decode cX12_isSame 18 = .ok (.iload_n 1, 1) := by decide +kernel
theorem dX12_isSame_19 : decode cX12_isSame 19 = .ok (.invokestatic 296, 3) := by decide +kernel
theorem dX12_isSame_22 : decode cX12_isSame 22 = .ok (.fcmp .l, 1) := by decide +kernel
theorem dX12_isSame_23 : decode cX12_isSame 23 = .ok (.ifCond .ne 7, 3) := by decide +kernel
theorem dX12_isSame_26 : decode cX12_isSame 26 = .ok (.iconst 1, 1) := by decide +kernel
theorem dX12_isSame_27 : decode cX12_isSame 27 = .ok (.goto 4, 3) := by decide +kernel
theorem dX12_isSame_30 : decode cX12_isSame 30 = .ok (.iconst 0, 1) := by decide +kernel
theorem dX12_isSame_31 : decode cX12_isSame 31 = .ok (.ireturn, 1) := by decide +kernel
theorem dX12_join_0 : decode cX12_join 0 = .ok (.iload_n 2, 1) := by decide +kernel
theorem dX12_join_1 : decode cX12_join 1 = .ok (.iconst 1, 1) := by decide +kernel
theorem dX12_join_2 : decode cX12_join 2 = .ok (.if_icmp .eq 9, 3) := by decide +kernel
theorem dX12_join_5 : decode cX12_join 5 = .ok (.iload 4, 2) := by decide +kernel
theorem dX12_join_7 : decode cX12_join 7 = .ok (.iconst 1, 1) := by decide +kernel
theorem dX12_join_8 : decode cX12_join 8 = .ok (.if_icmp .ne 7, 3) := by decide +kernel
theorem dX12_join_11 : decode cX12_join 11 = .ok (.iconst 1, 1) := by decide +kernel
theorem dX12_join_12 : decode cX12_join 12 = .ok (.goto 4, 3) := by decide +kernel
theorem dX12_join_15 : decode cX12_join 15 = .ok (.iconst 0, 1) := by decide +kernel
theorem dX12_join_16 : decode cX12_join 16 = .ok (.istore 6, 2) := by decide +kernel
theorem dX12_join_18 : decode cX12_join 18 = .ok (.iload_n 1, 1) := by decide +kernel
theorem dX12_join_19 : decode cX12_join 19 = .ok (.bipush 37, 2) := by decide +kernel
theorem dX12_join_21 : decode cX12_join 21 = .ok (.if_icmp .ne 37, 3) := by decide +kernel
theorem dX12_join_24 : decode cX12_join 24 = .ok (.iload 4, 2) := by decide +kernel
theorem dX12_join_26 : decode cX12_join 26 = .ok (.iload 5, 2) := by decide +kernel
theorem dX12_join_28 : decode cX12_join 28 = .ok (.invokestatic 320, 3) := by decide +kernel
theorem dX12_join_31 : decode cX12_join 31 = .ok (.istore 7, 2) := by decide +kernel
theorem dX12_join_33 : decode cX12_join 33 = .ok (.aload_n 0, 1) := by decide +kernel
theorem dX12_join_34 : decode cX12_join 34 = .ok (.iconst 0, 1) := by decide +kernel
theorem dX12_join_35 : decode cX12_join 35 = .ok (.iload 7, 2) := by decide +kernel
theorem dX12_join_37 : decode cX12_join 37 = .ok (.ifCond .ne 7, 3) := by decide +kernel
theorem dX12_join_40 : decode cX12_join 40 = .ok (.iconst 0, 1) := by decide +kernel
theorem dX12_join_41 : decode cX12_join 41 = .ok (.goto 11, 3) := by decide +kernel
theorem dX12_join_44 : decode cX12_join 44 = .ok (.iload_n 2, 1) := by decide +kernel
theorem dX12_join_45 : decode cX12_join 45 = .ok (.iload_n 3, 1) := by decide +kernel
theorem dX12_join_46 : decode cX12_join 46 = .ok (.invokestatic 320, 3) := by decide +kernel
theorem dX12_join_49 : decode cX12_join 49 = .ok (.iload 7, 2) := by decide +kernel
theorem dX12_join_51 : decode cX12_join 51 = .ok (.irem, 1) := by decide +kernel
theorem dX12_join_52 : decode cX12_join 52 = .ok (.invokevirtual 324, 3) := by decide +kernel
theorem dX12_join_55 : decode cX12_join 55 = .ok (.goto 146, 3) := by decide +kernel
theorem dX12_join_58 : decode cX12_join 58 = .ok (.iload_n 1, 1) := by decide +kernel
theorem dX12_join_59 : decode cX12_join 59 = .ok (.bipush 60, 2) := by decide +kernel
theorem dX12_join_61 : decode cX12_join 61 = .ok (.if_icmp .ne 48, 3) := by decide +kernel
theorem dX12_join_64 : decode cX12_join 64 = .ok (.aload_n 0, 1) := by decide +kernel
theorem dX12_join_65 : decode cX12_join 65 = .ok (.iconst 0, 1) := by decide +kernel
theorem dX12_join_66 : decode cX12_join 66 = .ok (.iload 6, 2) := by decide +kernel
theorem dX12_join_68 : decode cX12_join 68 = .ok (.ifCond .eq 24, 3) := by decide +kernel
theorem dX12_join_71 : decode cX12_join 71 = .ok (.iload_n 2, 1) := by decide +kernel
theorem dX12_join_72 : decode cX12_join 72 = .ok (.iload_n 3, 1) := by decide +kernel
theorem dX12_join_73 : decode cX12_join 73 = .ok (.invokestatic 328, 3) := by decide +kernel
theorem dX12_join_76 : decode cX12_join 76 = .ok (.iload 4, 2) := by decide +kernel
theorem dX12_join_78 : decode cX12_join 78 = .ok (.iload 5, 2) := by decide +kernel
theorem dX12_join_80 : decode cX12_join 80 = .ok (.invokestatic 328, 3) := by decide +kernel
theorem dX12_join_83 : decode cX12_join 83 = .ok (.invokestatic 331, 3) := by decide +kernel
theorem dX12_join_86 : decode cX12_join 86 = .ok (.ifCond .eq 16, 3) := by decide +kernel
theorem dX12_join_89 : decode cX12_join 89 = .ok (.goto 9, 3) := by decide +kernel
theorem dX12_join_92 : decode cX12_join 92 = .ok (.iload_n 3, 1) := by decide +kernel
theorem dX12_join_93 : decode cX12_join 93 = .ok (.iload 5, 2) := by decide +kernel
theorem dX12_join_95 : decode cX12_join 95 = .ok (.if_icmp .ge 7, 3) := by decide +kernel
theorem dX12_join_98 : decode cX12_join 98 = .ok (.iconst 1, 1) := by decide +kernel
theorem dX12_join_99 : decode cX12_join 99 = .ok (.goto 4, 3) := by decide +kernel
theorem dX12_join_102 : decode cX12_join 102 = .ok (.iconst 0, 1) := by decide +kernel
theorem dX12_join_103 : decode cX12_join 103 = .ok (.invokevirtual 324, 3) := by decide +kernel
theorem dX12_join_106 : decode cX12_join 106 = .ok (.goto 95, 3) := by decide +kernel
theorem dX12_join_109 : decode cX12_join 109 = .ok (.iload_n 1, 1) := by decide +kernel
theorem dX12_join_110 : decode cX12_join 110 = .ok (.bipush 61, 2) := by decide +kernel
theorem dX12_join_112 : decode cX12_join 112 = .ok (.if_icmp .ne 48, 3) := by decide +kernel
theorem dX12_join_115 : decode cX12_join 115 = .ok (.aload_n 0, 1) := by decide +kernel
theorem dX12_join_116 : decode cX12_join 116 = .ok (.iconst 0, 1) := by decide +kernel
theorem dX12_join_117 : decode cX12_join 117 = .ok (.iload 6, 2) := by decide +kernel
theorem dX12_join_119 : decode cX12_join 119 = .ok (.ifCond .eq 24, 3) := by decide +kernel
theorem dX12_join_122 : decode cX12_join 122 = .ok (.iload_n 2, 1) := by decide +kernel
theorem dX12_join_123 : decode cX12_join 123 = .ok (.iload_n 3, 1) := by decide +kernel
theorem dX12_join_124 : decode cX12_join 124 = .ok (.invokestatic 328, 3) := by decide +kernel
theorem dX12_join_127 : decode cX12_join 127 = .ok (.iload 4, 2) := by decide +kernel
theorem dX12_join_129 : decode cX12_join 129 = .ok (.iload 5, 2) := by decide +kernel
theorem dX12_join_131 : decode cX12_join 131 = .ok (.invokestatic 328, 3) := by decide +kernel
theorem dX12_join_134 : decode cX12_join 134 = .ok (.invokestatic 335, 3) := by decide +kernel
theorem dX12_join_137 : decode cX12_join 137 = .ok (.ifCond .eq 16, 3) := by decide +kernel
theorem dX12_join_140 : decode cX12_join 140 = .ok (.goto 9, 3) := by decide +kernel
theorem dX12_join_143 : decode cX12_join 143 = .ok (.iload_n 3, 1) := by decide +kernel
theorem dX12_join_144 : decode cX12_join 144 = .ok (.iload 5, 2) := by decide +kernel
theorem dX12_join_146 : decode cX12_join 146 = .ok (.if_icmp .ne 7, 3) := by decide +kernel
theorem dX12_join_149 : decode cX12_join 149 = .ok (.iconst 1, 1) := by decide +kernel
theorem dX12_join_150 : decode cX12_join 150 = .ok (.goto 4, 3) := by decide +kernel
theorem dX12_join_153 : decode cX12_join 153 = .ok (.iconst 0, 1) := by decide +kernel
theorem dX12_join_154 : decode cX12_join 154 = .ok (.invokevirtual 324, 3) := by decide +kernel
theorem dX12_join_157 : decode cX12_join 157 = .ok (.goto 44, 3) := by decide +kernel
theorem dX12_join_160 : decode cX12_join 160 = .ok (.iload 6, 2) := by decide +kernel
theorem dX12_join_162 : decode cX12_join 162 = .ok (.ifCond .eq 27, 3) := by decide +kernel
theorem dX12_join_165 : decode cX12_join 165 = .ok (.aload_n 0, 1) := by decide +kernel
theorem dX12_join_166 : decode cX12_join 166 = .ok (.iconst 1, 1) := by decide +kernel
theorem dX12_join_167 : decode cX12_join 167 = .ok (.iload_n 1, 1) := by decide +kernel
theorem dX12_join_168 : decode cX12_join 168 = .ok (.iload_n 2, 1) := by decide +kernel
theorem dX12_join_169 : decode cX12_join 169 = .ok (.iload_n 3, 1) := by decide +kernel
theorem dX12_join_170 : decode cX12_join 170 = .ok (.invokestatic 328, 3) := by decide +kernel
theorem dX12_join_173 : decode cX12_join 173 = .ok (.iload 4, 2) := by decide +kernel
theorem dX12_join_175 : decode cX12_join 175 = .ok (.iload 5, 2) := by decide +kernel
theorem dX12_join_177 : decode cX12_join 177 = .ok (.invokestatic 328, 3) := by decide +kernel
theorem dX12_join_180 : decode cX12_join 180 = .ok (.invokestatic 338, 3) := by decide +kernel
theorem dX12_join_183 : decode cX12_join 183 = .ok (.invokevirtual 324, 3) := by decide +kernel
theorem dX12_join_186 : decode cX12_join 186 = .ok (.goto 15, 3) := by decide +kernel
theorem dX12_join_189 : decode cX12_join 189 = .ok (.aload_n 0, 1) := by decide +kernel
theorem dX12_join_190 : decode cX12_join 190 = .ok (.iconst 0, 1) := by decide +kernel
theorem dX12_join_191 : decode cX12_join 191 = .ok (.iload_n 1, 1) := by decide +kernel
theorem dX12_join_192 : decode cX12_join 192 = .ok (.iload_n 3, 1) := by decide +kernel
theorem dX12_join_193 : decode cX12_join 193 = .ok (.iload 5, 2) := by decide +kernel
theorem dX12_join_195 : decode cX12_join 195 = .ok (.invokestatic 342, 3) := by decide +kernel
theorem dX12_join_198 : decode cX12_join 198 = .ok (.invokevirtual 324, 3) := by decide +kernel
theorem dX12_join_201 : decode cX12_join 201 = .ok (.return_, 1) := by decide +kernel
theorem dX12_isSign_0 : decode cX12_isSign 0 = .ok (.iload_n 0, 1) := by decide +kernel
theorem dX12_isSign_1 : decode cX12_isSign 1 = .ok (.bipush 43, 2) := by decide +kernel
theorem dX12_isSign_3 : decode cX12_isSign 3 = .ok (.if_icmp .eq 39, 3) := by decide +kernel
theorem dX12_isSign_6 : decode cX12_isSign 6 = .ok (.iload_n 0, 1) := by decide +kernel
theorem dX12_isSign_7 : decode cX12_isSign 7 = .ok (.bipush 45, 2) := by decide +kernel
theorem dX12_isSign_9 : decode cX12_isSign 9 = .ok (.if_icmp .eq 33, 3) := by decide +kernel
theorem dX12_isSign_12 : decode cX12_isSign 12 = .ok (.iload_n 0, 1) := by decide +kernel
theorem dX12_isSign_13 : decode cX12_isSign 13 = .ok (.bipush 42, 2) := by decide +kernel
theorem dX12_isSign_15 : decode cX12_isSign 15 = .ok (.if_icmp .eq 27, 3) := by decide +kernel
theorem dX12_isSign_18 : decode cX12_isSign 18 = .ok (.iload_n 0, 1) := by decide +kernel
theorem dX12_isSign_19 : decode cX12_isSign 19 = .ok (.bipush 47, 2) := by decide +kernel
theorem dX12_isSign_21 : decode cX12_isSign 21 = .ok (.if_icmp .eq 21, 3) := by decide +kernel
theorem dX12_isSign_24 : decode cX12_isSign 24 = .ok (.iload_n 0, 1) := by decide +kernel
theorem dX12_isSign_25 : decode cX12_isSign 25 = .ok (.bipush 37, 2) := by decide +kernel
theorem dX12_isSign_27 : decode cX12_isSign 27 = .ok (.if_icmp .eq 15, 3) := by decide +kernel
theorem dX12_isSign_30 : decode cX12_isSign 30 = .ok (.iload_n 0, 1) := by decide +kernel
theorem dX12_isSign_31 : decode cX12_isSign 31 = .ok (.bipush 60, 2) := by decide +kernel
theorem dX12_isSign_33 : decode cX12_isSign 33 = .ok (.if_icmp .eq 9, 3) := by decide +kernel
theorem dX12_isSign_36 : decode cX12_isSign 36 = .ok (.iload_n 0, 1) := by decide +kernel
theorem dX12_isSign_37 : decode cX12_isSign 37 = .ok (.bipush 61, 2) := by decide +kernel
theorem dX12_isSign_39 : decode cX12_isSign 39 = .ok (.if_icmp .ne 7, 3) := by decide +kernel
theorem dX12_isSign_42 : decode cX12_isSign 42 = .ok (.iconst 1, 1) := by decide +kernel
theorem dX12_isSign_43 : decode cX12_isSign 43 = .ok (.goto 4, 3) := by decide +kernel
theorem dX12_isSign_46 : decode cX12_isSign 46 = .ok (.iconst 0, 1) := by decide +kernel
theorem dX12_isSign_47 : decode cX12_isSign 47 = .ok (.ireturn, 1) := by decide +kernel
theorem dX12_op_0 : decode cX12_op 0 = .ok (.iload_n 2, 1) := by decide +kernel
theorem dX12_op_1 : decode cX12_op 1 = .ok (.invokestatic 345, 3) := by decide +kernel
theorem dX12_op_4 : decode cX12_op 4 = .ok (.ifCond .ne 5, 3) := by decide +kernel
theorem dX12_op_7 : decode cX12_op 7 = .ok (.iconst 0, 1) := by decide +kernel
theorem dX12_op_8 : decode cX12_op 8 = .ok (.ireturn, 1) := by decide +kernel
theorem dX12_op_9 : decode cX12_op 9 = .ok (.aload_n 0, 1) := by decide +kernel
theorem dX12_op_10 : decode cX12_op 10 = .ok (.iload_n 2, 1) := by decide +kernel
theorem dX12_op_11 : decode cX12_op 11 = .ok (.iconst 1, 1) := by decide +kernel
theorem dX12_op_12 : decode cX12_op 12 = .ok (.iload_n 1, 1) := by decide +kernel
theorem dX12_op_13 : decode cX12_op 13 = .ok (.iconst 1, 1) := by decide +kernel
theorem dX12_op_14 : decode cX12_op 14 = .ok (.iload_n 3, 1) := by decide +kernel
theorem dX12_op_15 : decode cX12_op 15 = .ok (.invokevirtual 348, 3) := by decide +kernel
theorem dX12_op_18 : decode cX12_op 18 = .ok (.aload_n 0, 1) := by decide +kernel
theorem dX12_op_19 : decode cX12_op 19 = .ok (.getfield 308, 3) := by decide +kernel
theorem dX12_op_22 : decode cX12_op 22 = .ok (.ireturn, 1) := by decide +kernel
theorem dX12_four_0 : decode cX12_four 0 = .ok (.bipush 24, 2) := by decide +kernel
theorem dX12_four_2 : decode cX12_four 2 = .ok (.istore_n 2, 1) := by decide +kernel
theorem dX12_four_3 : decode cX12_four 3 = .ok (.iload_n 2, 1) := by decide +kernel
theorem dX12_four_4 : decode cX12_four 4 = .ok (.ifCond .lt 32, 3) := by decide +kernel
theorem dX12_four_7 : decode cX12_four 7 = .ok (.aload_n 0, 1) := by decide +kernel
theorem dX12_four_8 : decode cX12_four 8 = .ok (.getfield 7, 3) := by decide +kernel
theorem dX12_four_11 : decode cX12_four 11 = .ok (.aload_n 0, 1) := by decide +kernel
theorem dX12_four_12 : decode cX12_four 12 = .ok (.getfield 352, 3) := by decide +kernel
theorem dX12_four_15 : decode cX12_four 15 = .ok (.iload_n 1, 1) := by decide +kernel
theorem dX12_four_16 : decode cX12_four 16 = .ok (.iload_n 2, 1) := by decide +kernel
theorem dX12_four_17 : decode cX12_four 17 = .ok (.ishr, 1) := by decide +kernel
theorem dX12_four_18 : decode cX12_four 18 = .ok (.i2b, 1) := by decide +kernel
theorem dX12_four_19 : decode cX12_four 19 = .ok (.bastore, 1) := by decide +kernel
theorem dX12_four_20 : decode cX12_four 20 = .ok (.aload_n 0, 1) := by decide +kernel
theorem dX12_four_21 : decode cX12_four 21 = .ok (.dup, 1) := by decide +kernel
theorem dX12_four_22 : decode cX12_four 22 = .ok (.getfield 352, 3) := by decide +kernel
theorem dX12_four_25 : decode cX12_four 25 = .ok (.iconst 1, 1) := by decide +kernel
theorem dX12_four_26 : decode cX12_four 26 = .ok (.iadd, 1) := by decide +kernel
theorem dX12_four_27 : decode cX12_four 27 = .ok (.putfield 352, 3) := by decide +kernel
theorem dX12_four_30 : decode cX12_four 30 = .ok (.iinc 2 (-8), 3) := by decide +kernel
theorem dX12_four_33 : decode cX12_four 33 = .ok (.goto (-30), 3) := by decide +kernel
theorem dX12_four_36 : decode cX12_four 36 = .ok (.return_, 1) := by decide +kernel
theorem dX12_feed_0 : decode cX12_feed 0 = .ok (.aload_n 0, 1) := by decide +kernel
theorem dX12_feed_1 : decode cX12_feed 1 = .ok (.getfield 352, 3) := by decide +kernel
theorem dX12_feed_4 : decode cX12_feed 4 = .ok (.bipush 20, 2) := by decide +kernel
theorem dX12_feed_6 : decode cX12_feed 6 = .ok (.iadd, 1) := by decide +kernel
theorem dX12_feed_7 : decode cX12_feed 7 = .ok (.sipush 800, 3) := by decide +kernel
theorem dX12_feed_10 : decode cX12_feed 10 = .ok (.if_icmp .le 5, 3) := by decide +kernel
theorem dX12_feed_13 : decode cX12_feed 13 = .ok (.iconst (-1), 1) := by decide +kernel
theorem dX12_feed_14 : decode cX12_feed 14 = .ok (.ireturn, 1) := by decide +kernel
theorem dX12_feed_15 : decode cX12_feed 15 = .ok (.aload_n 0, 1) := by decide +kernel
theorem dX12_feed_16 : decode cX12_feed 16 = .ok (.iload_n 1, 1) := by decide +kernel
theorem dX12_feed_17 : decode cX12_feed 17 = .ok (.invokevirtual 355, 3) := by decide +kernel
theorem dX12_feed_20 : decode cX12_feed 20 = .ok (.aload_n 0, 1) := by decide +kernel
theorem dX12_feed_21 : decode cX12_feed 21 = .ok (.iload_n 2, 1) := by decide +kernel
theorem dX12_feed_22 : decode cX12_feed 22 = .ok (.invokevirtual 355, 3) := by decide +kernel
theorem dX12_feed_25 : decode cX12_feed 25 = .ok (.aload_n 0, 1) := by decide +kernel
theorem dX12_feed_26 : decode cX12_feed 26 = .ok (.iload_n 3, 1) := by decide +kernel
theorem dX12_feed_27 : decode cX12_feed 27 = .ok (.invokevirtual 355, 3) := by decide +kernel
theorem dX12_feed_30 : decode cX12_feed 30 = .ok (.aload_n 0, 1) := by decide +kernel
theorem dX12_feed_31 : decode cX12_feed 31 = .ok (.iload 4, 2) := by decide +kernel
theorem dX12_feed_33 : decode cX12_feed 33 = .ok (.invokevirtual 355, 3) := by decide +kernel
theorem dX12_feed_36 : decode cX12_feed 36 = .ok (.aload_n 0, 1) := by decide +kernel
theorem dX12_feed_37 : decode cX12_feed 37 = .ok (.iload 5, 2) := by decide +kernel
theorem dX12_feed_39 : decode cX12_feed 39 = .ok (.invokevirtual 355, 3) := by decide +kernel
theorem dX12_feed_42 : decode cX12_feed 42 = .ok (.aload_n 0, 1) := by decide +kernel
theorem dX12_feed_43 : decode cX12_feed 43 = .ok (.getfield 352, 3) := by decide +kernel
theorem dX12_feed_46 : decode cX12_feed 46 = .ok (.ireturn, 1) := by decide +kernel
theorem dX12_end_0 : decode cX12_end 0 = .ok (.iload_n 1, 1) := by decide +kernel
theorem dX12_end_1 : decode cX12_end 1 = .ok (.iconst 0, 1) := by decide +kernel
theorem dX12_end_2 : decode cX12_end 2 = .ok (.aload_n 0, 1) := by decide +kernel
theorem dX12_end_3 : decode cX12_end 3 = .ok (.getfield 352, 3) := by decide +kernel
theorem dX12_end_6 : decode cX12_end 6 = .ok (.invokestatic 359, 3) := by decide +kernel
theorem dX12_end_9 : decode cX12_end 9 = .ok (.ifCond .ne 5, 3) := by decide +kernel
theorem dX12_end_12 : decode cX12_end 12 = .ok (.iconst (-1), 1) := by decide +kernel
theorem dX12_end_13 : decode cX12_end 13 = .ok (.ireturn, 1) := by decide +kernel
theorem dX12_end_14 : decode cX12_end 14 = .ok (.aload_n 0, 1) := by decide +kernel
theorem dX12_end_15 : decode cX12_end 15 = .ok (.iload_n 1, 1) := by decide +kernel
theorem dX12_end_16 : decode cX12_end 16 = .ok (.putfield 352, 3) := by decide +kernel
theorem dX12_end_19 : decode cX12_end 19 = .ok (.iload_n 1, 1) := by decide +kernel
theorem dX12_end_20 : decode cX12_end 20 = .ok (.ireturn, 1) := by decide +kernel
theorem dX12_here_0 : decode cX12_here 0 = .ok (.aload_n 0, 1) := by decide +kernel
theorem dX12_here_1 : decode cX12_here 1 = .ok (.getfield 362, 3) := by decide +kernel
theorem dX12_here_4 : decode cX12_here 4 = .ok (.aload_n 0, 1) := by decide +kernel
theorem dX12_here_5 : decode cX12_here 5 = .ok (.getfield 352, 3) := by decide +kernel
theorem dX12_here_8 : decode cX12_here 8 = .ok (.if_icmp .ge 19, 3) := by decide +kernel
theorem dX12_here_11 : decode cX12_here 11 = .ok (.aload_n 0, 1) := by decide +kernel
theorem dX12_here_12 : decode cX12_here 12 = .ok (.getfield 7, 3) := by decide +kernel
theorem dX12_here_15 : decode cX12_here 15 = .ok (.aload_n 0, 1) := by decide +kernel
theorem dX12_here_16 : decode cX12_here 16 = .ok (.getfield 362, 3) := by decide +kernel
theorem dX12_here_19 : decode cX12_here 19 = .ok (.baload, 1) := by decide +kernel
theorem dX12_here_20 : decode cX12_here 20 = .ok (.sipush 255, 3) := by decide +kernel
theorem dX12_here_23 : decode cX12_here 23 = .ok (.iand, 1) := by decide +kernel
theorem dX12_here_24 : decode cX12_here 24 = .ok (.goto 4, 3) := by decide +kernel
theorem dX12_here_27 : decode cX12_here 27 = .ok (.iconst (-1), 1) := by decide +kernel
theorem dX12_here_28 : decode cX12_here 28 = .ok (.ireturn, 1) := by decide +kernel
theorem dX12_isFunctionLetter_0 : decode cX12_isFunctionLetter 0 = .ok (.iload_n 0, 1) := by decide +kernel
theorem dX12_isFunctionLetter_1 : decode cX12_isFunctionLetter 1 = .ok (.bipush 97, 2) := by decide +kernel
theorem dX12_isFunctionLetter_3 : decode cX12_isFunctionLetter 3 = .ok (.if_icmp .lt 13, 3) := by decide +kernel
theorem dX12_isFunctionLetter_6 : decode cX12_isFunctionLetter 6 = .ok (.iload_n 0, 1) := by decide +kernel
theorem dX12_isFunctionLetter_7 : decode cX12_isFunctionLetter 7 = .ok (.bipush 108, 2) := by decide +kernel
theorem dX12_isFunctionLetter_9 : decode cX12_isFunctionLetter 9 = .ok (.if_icmp .gt 7, 3) := by decide +kernel
theorem dX12_isFunctionLetter_12 : decode cX12_isFunctionLetter 12 = .ok (.iconst 1, 1) := by decide +kernel
theorem dX12_isFunctionLetter_13 : decode cX12_isFunctionLetter 13 = .ok (.goto 4, 3) := by decide +kernel
theorem dX12_isFunctionLetter_16 : decode cX12_isFunctionLetter 16 = .ok (.iconst 0, 1) := by decide +kernel
theorem dX12_isFunctionLetter_17 : decode cX12_isFunctionLetter 17 = .ok (.ireturn, 1) := by decide +kernel
theorem dX12_fails_0 : decode cX12_fails 0 = .ok (.aload_n 0, 1) := by decide +kernel
theorem dX12_fails_1 : decode cX12_fails 1 = .ok (.iload_n 1, 1) := by decide +kernel
theorem dX12_fails_2 : decode cX12_fails 2 = .ok (.putfield 13, 3) := by decide +kernel
theorem dX12_fails_5 : decode cX12_fails 5 = .ok (.iconst 0, 1) := by decide +kernel
theorem dX12_fails_6 : decode cX12_fails 6 = .ok (.ireturn, 1) := by decide +kernel
theorem dX12_beginText_0 : decode cX12_beginText 0 = .ok (.aload_n 0, 1) := by decide +kernel
theorem dX12_beginText_1 : decode cX12_beginText 1 = .ok (.iconst 0, 1) := by decide +kernel
theorem dX12_beginText_2 : decode cX12_beginText 2 = .ok (.putfield 362, 3) := by decide +kernel
theorem dX12_beginText_5 : decode cX12_beginText 5 = .ok (.aload_n 0, 1) := by decide +kernel
theorem dX12_beginText_6 : decode cX12_beginText 6 = .ok (.iconst (-1), 1) := by decide +kernel
theorem dX12_beginText_7 : decode cX12_beginText 7 = .ok (.putfield 13, 3) := by decide +kernel
theorem dX12_beginText_10 : decode cX12_beginText 10 = .ok (.return_, 1) := by decide +kernel
theorem dX12_readProgram_0 : decode cX12_readProgram 0 = .ok (.aload_n 0, 1) := by decide +kernel
theorem dX12_readProgram_1 : decode cX12_readProgram 1 = .ok (.invokevirtual 452, 3) := by decide +kernel
theorem dX12_readProgram_4 : decode cX12_readProgram 4 = .ok (.aload_n 0, 1) := by decide +kernel
theorem dX12_readProgram_5 : decode cX12_readProgram 5 = .ok (.iconst 0, 1) := by decide +kernel
theorem dX12_readProgram_6 : decode cX12_readProgram 6 = .ok (.putfield 413, 3) := by decide +kernel
theorem dX12_readProgram_9 : decode cX12_readProgram 9 = .ok (.aload_n 0, 1) := by decide +kernel
theorem dX12_readProgram_10 : decode cX12_readProgram 10 = .ok (.iconst 0, 1) := by decide +kernel
theorem dX12_readProgram_11 : decode cX12_readProgram 11 = .ok (.putfield 387, 3) := by decide +kernel
theorem dX12_readProgram_14 : decode cX12_readProgram 14 = .ok (.aload_n 0, 1) := by decide +kernel
theorem dX12_readProgram_15 : decode cX12_readProgram 15 = .ok (.getfield 362, 3) := by decide +kernel
theorem dX12_readProgram_18 : decode cX12_readProgram 18 = .ok (.aload_n 0, 1) := by decide +kernel
theorem dX12_readProgram_19 : decode cX12_readProgram 19 = .ok (.getfield 352, 3) := by decide +kernel
theorem dX12_readProgram_22 : decode cX12_readProgram 22 = .ok (.if_icmp .ge 12, 3) := by decide +kernel
theorem dX12_readProgram_25 : decode cX12_readProgram 25 = .ok (.aload_n 0, 1) := by decide +kernel
theorem dX12_readProgram_26 : decode cX12_readProgram 26 = .ok (.invokevirtual 455, 3) := by decide +kernel
theorem dX12_readProgram_29 : decode cX12_readProgram 29 = .ok (.ifCond .ne (-15), 3) := by decide +kernel
theorem dX12_readProgram_32 : decode cX12_readProgram 32 = .ok (.iconst 0, 1) := by decide +kernel
theorem dX12_readProgram_33 : decode cX12_readProgram 33 = .ok (.ireturn, 1) := by decide +kernel
theorem dX12_readProgram_34 : decode cX12_readProgram 34 = .ok (.iconst 1, 1) := by decide +kernel
theorem dX12_readProgram_35 : decode cX12_readProgram 35 = .ok (.ireturn, 1) := by decide +kernel
theorem dX12_copy_0 : decode cX12_copy 0 = .ok (.iconst 0, 1) := by decide +kernel
theorem dX12_copy_1 : decode cX12_copy 1 = .ok (.istore 5, 2) := by decide +kernel
theorem dX12_copy_3 : decode cX12_copy 3 = .ok (.iload 5, 2) := by decide +kernel
theorem dX12_copy_5 : decode cX12_copy 5 = .ok (.iload_n 2, 1) := by decide +kernel
theorem dX12_copy_6 : decode cX12_copy 6 = .ok (.if_icmp .ge 22, 3) := by decide +kernel
theorem dX12_copy_9 : decode cX12_copy 9 = .ok (.aload_n 3, 1) := by decide +kernel
theorem dX12_copy_10 : decode cX12_copy 10 = .ok (.iload 4, 2) := by decide +kernel
theorem dX12_copy_12 : decode cX12_copy 12 = .ok (.iload 5, 2) := by decide +kernel
theorem dX12_copy_14 : decode cX12_copy 14 = .ok (.iadd, 1) := by decide +kernel
theorem dX12_copy_15 : decode cX12_copy 15 = .ok (.aload_n 0, 1) := by decide +kernel
theorem dX12_copy_16 : decode cX12_copy 16 = .ok (.iload_n 1, 1) := by decide +kernel
theorem dX12_copy_17 : decode cX12_copy 17 = .ok (.iload 5, 2) := by decide +kernel
theorem dX12_copy_19 : decode cX12_copy 19 = .ok (.iadd, 1) := by decide +kernel
theorem dX12_copy_20 : decode cX12_copy 20 = .ok (.iaload, 1) := by decide +kernel
theorem dX12_copy_21 : decode cX12_copy 21 = .ok (.iastore, 1) := by decide +kernel
theorem dX12_copy_22 : decode cX12_copy 22 = .ok (.iinc 5 1, 3) := by decide +kernel
theorem dX12_copy_25 : decode cX12_copy 25 = .ok (.goto (-22), 3) := by decide +kernel
theorem dX12_copy_28 : decode cX12_copy 28 = .ok (.return_, 1) := by decide +kernel
theorem dX12_layBehind_0 : decode cX12_layBehind 0 = .ok (.aload_n 0, 1) := by decide +kernel
theorem dX12_layBehind_1 : decode cX12_layBehind 1 = .ok (.getfield 458, 3) := by decide +kernel
theorem dX12_layBehind_4 : decode cX12_layBehind 4 = .ok (.iconst 1, 1) := by decide +kernel
theorem dX12_layBehind_5 : decode cX12_layBehind 5 = .ok (.isub, 1) := by decide +kernel
theorem dX12_layBehind_6 : decode cX12_layBehind 6 = .ok (.istore_n 1, 1) := by decide +kernel
theorem dX12_layBehind_7 : decode cX12_layBehind 7 = .ok (.iload_n 1, 1) := by decide +kernel
theorem dX12_layBehind_8 : decode cX12_layBehind 8 = .ok (.ifCond .lt 45, 3) := by decide +kernel
theorem dX12_layBehind_11 : decode cX12_layBehind 11 = .ok (.iload_n 1, 1) := by decide +kernel
theorem dX12_layBehind_12 : decode cX12_layBehind 12 = .ok (.iconst 1, 1) := by decide +kernel
theorem dX12_layBehind_13 : decode cX12_layBehind 13 = .ok (.iadd, 1) := by decide +kernel
theorem dX12_layBehind_14 : decode cX12_layBehind 14 = .ok (.istore_n 2, 1) := by decide +kernel
theorem dX12_layBehind_15 : decode cX12_layBehind 15 = .ok (.iconst 0, 1) := by decide +kernel
theorem dX12_layBehind_16 : decode cX12_layBehind 16 = .ok (.istore_n 3, 1) := by decide +kernel
theorem dX12_layBehind_17 : decode cX12_layBehind 17 = .ok (.iload_n 3, 1) := by decide +kernel
theorem dX12_layBehind_18 : decode cX12_layBehind 18 = .ok (.aload_n 0, 1) := by decide +kernel
theorem dX12_layBehind_19 : decode cX12_layBehind 19 = .ok (.getfield 39, 3) := by decide +kernel
theorem dX12_layBehind_22 : decode cX12_layBehind 22 = .ok (.iload_n 1, 1) := by decide +kernel
theorem dX12_layBehind_23 : decode cX12_layBehind 23 = .ok (.iaload, 1) := by decide +kernel
theorem dX12_layBehind_24 : decode cX12_layBehind 24 = .ok (.if_icmp .ge 16, 3) := by decide +kernel
theorem dX12_layBehind_27 : decode cX12_layBehind 27 = .ok (.aload_n 0, 1) := by decide +kernel
theorem dX12_layBehind_28 : decode cX12_layBehind 28 = .ok (.getfield 42, 3) := by decide +kernel
theorem dX12_layBehind_31 : decode cX12_layBehind 31 = .ok (.iload_n 2, 1) := by decide +kernel
theorem dX12_layBehind_32 : decode cX12_layBehind 32 = .ok (.iaload, 1) := by decide +kernel
theorem dX12_layBehind_33 : decode cX12_layBehind 33 = .ok (.istore_n 2, 1) := by decide +kernel
theorem dX12_layBehind_34 : decode cX12_layBehind 34 = .ok (.iinc 3 1, 3) := by decide +kernel
theorem dX12_layBehind_37 : decode cX12_layBehind 37 = .ok (.goto (-20), 3) := by decide +kernel
theorem dX12_layBehind_40 : decode cX12_layBehind 40 = .ok (.aload_n 0, 1) := by decide +kernel
theorem dX12_layBehind_41 : decode cX12_layBehind 41 = .ok (.getfield 42, 3) := by decide +kernel
theorem dX12_layBehind_44 : decode cX12_layBehind 44 = .ok (.iload_n 1, 1) := by decide +kernel
theorem dX12_layBehind_45 : decode cX12_layBehind 45 = .ok (.iload_n 2, 1) := by decide +kernel
theorem dX12_layBehind_46 : decode cX12_layBehind 46 = .ok (.iastore, 1) := by decide +kernel
theorem dX12_layBehind_47 : decode cX12_layBehind 47 = .ok (.iinc 1 (-1), 3) := by decide +kernel
theorem dX12_layBehind_50 : decode cX12_layBehind 50 = .ok (.goto (-43), 3) := by decide +kernel
theorem dX12_layBehind_53 : decode cX12_layBehind 53 = .ok (.return_, 1) := by decide +kernel
theorem dX12_program_0 : decode cX12_program 0 = .ok (.aload_n 0, 1) := by decide +kernel
theorem dX12_program_1 : decode cX12_program 1 = .ok (.invokevirtual 461, 3) := by decide +kernel
theorem dX12_program_4 : decode cX12_program 4 = .ok (.istore_n 1, 1) := by decide +kernel
theorem dX12_program_5 : decode cX12_program 5 = .ok (.aload_n 0, 1) := by decide +kernel
theorem dX12_program_6 : decode cX12_program 6 = .ok (.iconst 0, 1) := by decide +kernel
theorem dX12_program_7 : decode cX12_program 7 = .ok (.putfield 352, 3) := by decide +kernel
theorem dX12_program_10 : decode cX12_program 10 = .ok (.iload_n 1, 1) := by decide +kernel
theorem dX12_program_11 : decode cX12_program 11 = .ok (.ifCond .ne 5, 3) := by decide +kernel
theorem dX12_program_14 : decode cX12_program 14 = .ok (.iconst (-1), 1) := by decide +kernel
theorem dX12_program_15 : decode cX12_program 15 = .ok (.ireturn, 1) := by decide +kernel
theorem dX12_program_16 : decode cX12_program 16 = .ok (.aload_n 0, 1) := by decide +kernel
theorem dX12_program_17 : decode cX12_program 17 = .ok (.iconst 0, 1) := by decide +kernel
theorem dX12_program_18 : decode cX12_program 18 = .ok (.putfield 464, 3) := by decide +kernel
theorem dX12_program_21 : decode cX12_program 21 = .ok (.aload_n 0, 1) := by decide +kernel
theorem dX12_program_22 : decode cX12_program 22 = .ok (.aload_n 0, 1) := by decide +kernel
theorem dX12_program_23 : decode cX12_program 23 = .ok (.getfield 413, 3) := by decide +kernel
theorem dX12_program_26 : decode cX12_program 26 = .ok (.putfield 468, 3) := by decide +kernel
theorem dX12_program_29 : decode cX12_program 29 = .ok (.aload_n 0, 1) := by decide +kernel
theorem dX12_program_30 : decode cX12_program 30 = .ok (.aload_n 0, 1) := by decide +kernel
theorem dX12_program_31 : decode cX12_program 31 = .ok (.getfield 387, 3) := by decide +kernel
theorem dX12_program_34 : decode cX12_program 34 = .ok (.putfield 458, 3) := by decide +kernel
theorem dX12_program_37 : decode cX12_program 37 = .ok (.aload_n 0, 1) := by decide +kernel
theorem dX12_program_38 : decode cX12_program 38 = .ok (.getfield 45, 3) := by decide +kernel
theorem dX12_program_41 : decode cX12_program 41 = .ok (.iconst 0, 1) := by decide +kernel
theorem dX12_program_42 : decode cX12_program 42 = .ok (.aload_n 0, 1) := by decide +kernel
theorem dX12_program_43 : decode cX12_program 43 = .ok (.getfield 468, 3) := by decide +kernel
theorem dX12_program_46 : decode cX12_program 46 = .ok (.aload_n 0, 1) := by decide +kernel
theorem dX12_program_47 : decode cX12_program 47 = .ok (.getfield 17, 3) := by decide +kernel
theorem dX12_program_50 : decode cX12_program 50 = .ok (.iconst 0, 1) := by decide +kernel
theorem dX12_program_51 : decode cX12_program 51 = .ok (.invokestatic 471, 3) := by decide +kernel
theorem dX12_program_54 : decode cX12_program 54 = .ok (.aload_n 0, 1) := by decide +kernel
theorem dX12_program_55 : decode cX12_program 55 = .ok (.getfield 48, 3) := by decide +kernel
theorem dX12_program_58 : decode cX12_program 58 = .ok (.iconst 0, 1) := by decide +kernel
theorem dX12_program_59 : decode cX12_program 59 = .ok (.aload_n 0, 1) := by decide +kernel
theorem dX12_program_60 : decode cX12_program 60 = .ok (.getfield 468, 3) := by decide +kernel
theorem dX12_program_63 : decode cX12_program 63 = .ok (.aload_n 0, 1) := by decide +kernel
theorem dX12_program_64 : decode cX12_program 64 = .ok (.getfield 21, 3) := by decide +kernel
theorem dX12_program_67 : decode cX12_program 67 = .ok (.iconst 0, 1) := by decide +kernel
theorem dX12_program_68 : decode cX12_program 68 = .ok (.invokestatic 471, 3) := by decide +kernel
theorem dX12_program_71 : decode cX12_program 71 = .ok (.aload_n 0, 1) := by decide +kernel
theorem dX12_program_72 : decode cX12_program 72 = .ok (.getfield 51, 3) := by decide +kernel
theorem dX12_program_75 : decode cX12_program 75 = .ok (.iconst 0, 1) := by decide +kernel
theorem dX12_program_76 : decode cX12_program 76 = .ok (.iconst 5, 1) := by decide +kernel
theorem dX12_program_77 : decode cX12_program 77 = .ok (.aload_n 0, 1) := by decide +kernel
theorem dX12_program_78 : decode cX12_program 78 = .ok (.getfield 468, 3) := by decide +kernel
theorem dX12_program_81 : decode cX12_program 81 = .ok (.imul, 1) := by decide +kernel
theorem dX12_program_82 : decode cX12_program 82 = .ok (.aload_n 0, 1) := by decide +kernel
theorem dX12_program_83 : decode cX12_program 83 = .ok (.getfield 24, 3) := by decide +kernel
theorem dX12_program_86 : decode cX12_program 86 = .ok (.iconst 0, 1) := by decide +kernel
theorem dX12_program_87 : decode cX12_program 87 = .ok (.invokestatic 471, 3) := by decide +kernel
theorem dX12_program_90 : decode cX12_program 90 = .ok (.aload_n 0, 1) := by decide +kernel
theorem dX12_program_91 : decode cX12_program 91 = .ok (.getfield 54, 3) := by decide +kernel
theorem dX12_program_94 : decode cX12_program 94 = .ok (.iconst 0, 1) := by decide +kernel
theorem dX12_program_95 : decode cX12_program 95 = .ok (.aload_n 0, 1) := by decide +kernel
theorem dX12_program_96 : decode cX12_program 96 = .ok (.getfield 468, 3) := by decide +kernel
theorem dX12_program_99 : decode cX12_program 99 = .ok (.aload_n 0, 1) := by decide +kernel
theorem dX12_program_100 : decode cX12_program 100 = .ok (.getfield 27, 3) := by decide +kernel
theorem dX12_program_103 : decode cX12_program 103 = .ok (.iconst 0, 1) := by decide +kernel
theorem dX12_program_104 : decode cX12_program 104 = .ok (.invokestatic 471, 3) := by decide +kernel
theorem dX12_program_107 : decode cX12_program 107 = .ok (.aload_n 0, 1) := by decide +kernel
theorem dX12_program_108 : decode cX12_program 108 = .ok (.getfield 57, 3) := by decide +kernel
theorem dX12_program_111 : decode cX12_program 111 = .ok (.iconst 0, 1) := by decide +kernel
theorem dX12_program_112 : decode cX12_program 112 = .ok (.aload_n 0, 1) := by decide +kernel
theorem dX12_program_113 : decode cX12_program 113 = .ok (.getfield 468, 3) := by decide +kernel
theorem dX12_program_116 : decode cX12_program 116 = .ok (.aload_n 0, 1) := by decide +kernel
theorem dX12_program_117 : decode cX12_program 117 = .ok (.getfield 30, 3) := by decide +kernel
theorem dX12_program_120 : decode cX12_program 120 = .ok (.iconst 0, 1) := by decide +kernel
theorem dX12_program_121 : decode cX12_program 121 = .ok (.invokestatic 471, 3) := by decide +kernel
theorem dX12_program_124 : decode cX12_program 124 = .ok (.aload_n 0, 1) := by decide +kernel
theorem dX12_program_125 : decode cX12_program 125 = .ok (.getfield 60, 3) := by decide +kernel
theorem dX12_program_128 : decode cX12_program 128 = .ok (.iconst 0, 1) := by decide +kernel
theorem dX12_program_129 : decode cX12_program 129 = .ok (.aload_n 0, 1) := by decide +kernel
theorem dX12_program_130 : decode cX12_program 130 = .ok (.getfield 458, 3) := by decide +kernel
theorem dX12_program_133 : decode cX12_program 133 = .ok (.aload_n 0, 1) := by decide +kernel
theorem dX12_program_134 : decode cX12_program 134 = .ok (.getfield 33, 3) := by decide +kernel
theorem dX12_program_137 : decode cX12_program 137 = .ok (.iconst 0, 1) := by decide +kernel
theorem dX12_program_138 : decode cX12_program 138 = .ok (.invokestatic 471, 3) := by decide +kernel
theorem dX12_program_141 : decode cX12_program 141 = .ok (.aload_n 0, 1) := by decide +kernel
theorem dX12_program_142 : decode cX12_program 142 = .ok (.getfield 63, 3) := by decide +kernel
theorem dX12_program_145 : decode cX12_program 145 = .ok (.iconst 0, 1) := by decide +kernel
theorem dX12_program_146 : decode cX12_program 146 = .ok (.aload_n 0, 1) := by decide +kernel
theorem dX12_program_147 : decode cX12_program 147 = .ok (.getfield 458, 3) := by decide +kernel
theorem dX12_program_150 : decode cX12_program 150 = .ok (.aload_n 0, 1) := by decide +kernel
theorem dX12_program_151 : decode cX12_program 151 = .ok (.getfield 36, 3) := by decide +kernel
theorem dX12_program_154 : decode cX12_program 154 = .ok (.iconst 0, 1) := by decide +kernel
theorem dX12_program_155 : decode cX12_program 155 = .ok (.invokestatic 471, 3) := by decide +kernel
theorem dX12_program_158 : decode cX12_program 158 = .ok (.aload_n 0, 1) := by decide +kernel
theorem dX12_program_159 : decode cX12_program 159 = .ok (.getfield 66, 3) := by decide +kernel
theorem dX12_program_162 : decode cX12_program 162 = .ok (.iconst 0, 1) := by decide +kernel
theorem dX12_program_163 : decode cX12_program 163 = .ok (.aload_n 0, 1) := by decide +kernel
theorem dX12_program_164 : decode cX12_program 164 = .ok (.getfield 458, 3) := by decide +kernel
theorem dX12_program_167 : decode cX12_program 167 = .ok (.aload_n 0, 1) := by decide +kernel
theorem dX12_program_168 : decode cX12_program 168 = .ok (.getfield 39, 3) := by decide +kernel
theorem dX12_program_171 : decode cX12_program 171 = .ok (.iconst 0, 1) := by decide +kernel
theorem dX12_program_172 : decode cX12_program 172 = .ok (.invokestatic 471, 3) := by decide +kernel
theorem dX12_program_175 : decode cX12_program 175 = .ok (.aload_n 0, 1) := by decide +kernel
theorem dX12_program_176 : decode cX12_program 176 = .ok (.invokevirtual 475, 3) := by decide +kernel
theorem dX12_program_179 : decode cX12_program 179 = .ok (.aload_n 0, 1) := by decide +kernel
theorem dX12_program_180 : decode cX12_program 180 = .ok (.getfield 468, 3) := by decide +kernel
theorem dX12_program_183 : decode cX12_program 183 = .ok (.ireturn, 1) := by decide +kernel
theorem dX12_functionOf_0 : decode cX12_functionOf 0 = .ok (.iconst 0, 1) := by decide +kernel
theorem dX12_functionOf_1 : decode cX12_functionOf 1 = .ok (.istore_n 3, 1) := by decide +kernel
theorem dX12_functionOf_2 : decode cX12_functionOf 2 = .ok (.iload_n 3, 1) := by decide +kernel
theorem dX12_functionOf_3 : decode cX12_functionOf 3 = .ok (.aload_n 0, 1) := by decide +kernel
theorem dX12_functionOf_4 : decode cX12_functionOf 4 = .ok (.getfield 468, 3) := by decide +kernel
theorem dX12_functionOf_7 : decode cX12_functionOf 7 = .ok (.if_icmp .ge 31, 3) := by decide +kernel
theorem dX12_functionOf_10 : decode cX12_functionOf 10 = .ok (.aload_n 0, 1) := by decide +kernel
theorem dX12_functionOf_11 : decode cX12_functionOf 11 = .ok (.getfield 17, 3) := by decide +kernel
theorem dX12_functionOf_14 : decode cX12_functionOf 14 = .ok (.iload_n 3, 1) := by decide +kernel
theorem dX12_functionOf_15 : decode cX12_functionOf 15 = .ok (.iaload, 1) := by decide +kernel
theorem dX12_functionOf_16 : decode cX12_functionOf 16 = .ok (.iload_n 1, 1) := by decide +kernel
theorem dX12_functionOf_17 : decode cX12_functionOf 17 = .ok (.if_icmp .ne 15, 3) := by decide +kernel
theorem dX12_functionOf_20 : decode cX12_functionOf 20 = .ok (.aload_n 0, 1) := by decide +kernel
theorem dX12_functionOf_21 : decode cX12_functionOf 21 = .ok (.getfield 21, 3) := by decide +kernel
theorem dX12_functionOf_24 : decode cX12_functionOf 24 = .ok (.iload_n 3, 1) := by decide +kernel
theorem dX12_functionOf_25 : decode cX12_functionOf 25 = .ok (.iaload, 1) := by decide +kernel
theorem dX12_functionOf_26 : decode cX12_functionOf 26 = .ok (.iload_n 2, 1) := by decide +kernel
theorem dX12_functionOf_27 : decode cX12_functionOf 27 = .ok (.if_icmp .ne 5, 3) := by decide +kernel
theorem dX12_functionOf_30 : decode cX12_functionOf 30 = .ok (.iload_n 3, 1) := by decide +kernel
theorem dX12_functionOf_31 : decode cX12_functionOf 31 = .ok (.ireturn, 1) := by decide +kernel
theorem dX12_functionOf_32 : decode cX12_functionOf 32 = .ok (.iinc 3 1, 3) := by decide +kernel
theorem dX12_functionOf_35 : decode cX12_functionOf 35 = .ok (.goto (-33), 3) := by decide +kernel
theorem dX12_functionOf_38 : decode cX12_functionOf 38 = .ok (.iconst (-1), 1) := by decide +kernel
theorem dX12_functionOf_39 : decode cX12_functionOf 39 = .ok (.ireturn, 1) := by decide +kernel
theorem dX12_readTask_0 : decode cX12_readTask 0 = .ok (.aload_n 0, 1) := by decide +kernel
theorem dX12_readTask_1 : decode cX12_readTask 1 = .ok (.invokevirtual 452, 3) := by decide +kernel
theorem dX12_readTask_4 : decode cX12_readTask 4 = .ok (.aload_n 0, 1) := by decide +kernel
theorem dX12_readTask_5 : decode cX12_readTask 5 = .ok (.iconst 0, 1) := by decide +kernel
theorem dX12_readTask_6 : decode cX12_readTask 6 = .ok (.putfield 478, 3) := by decide +kernel
theorem dX12_readTask_9 : decode cX12_readTask 9 = .ok (.aload_n 0, 1) := by decide +kernel
theorem dX12_readTask_10 : decode cX12_readTask 10 = .ok (.iconst 0, 1) := by decide +kernel
theorem dX12_readTask_11 : decode cX12_readTask 11 = .ok (.putfield 481, 3) := by decide +kernel
theorem dX12_readTask_14 : decode cX12_readTask 14 = .ok (.aload_n 0, 1) := by decide +kernel
theorem dX12_readTask_15 : decode cX12_readTask 15 = .ok (.iconst 0, 1) := by decide +kernel
theorem dX12_readTask_16 : decode cX12_readTask 16 = .ok (.putfield 490, 3) := by decide +kernel
theorem dX12_readTask_19 : decode cX12_readTask 19 = .ok (.aload_n 0, 1) := by decide +kernel
theorem dX12_readTask_20 : decode cX12_readTask 20 = .ok (.invokevirtual 365, 3) := by decide +kernel
theorem dX12_readTask_23 : decode cX12_readTask 23 = .ok (.invokestatic 406, 3) := by decide +kernel
theorem dX12_readTask_26 : decode cX12_readTask 26 = .ok (.ifCond .ne 12, 3) := by decide +kernel
theorem dX12_readTask_29 : decode cX12_readTask 29 = .ok (.aload_n 0, 1) := by decide +kernel
theorem dX12_readTask_30 : decode cX12_readTask 30 = .ok (.aload_n 0, 1) := by decide +kernel
theorem dX12_readTask_31 : decode cX12_readTask 31 = .ok (.getfield 362, 3) := by decide +kernel
theorem dX12_readTask_34 : decode cX12_readTask 34 = .ok (.invokevirtual 369, 3) := by decide +kernel
theorem dX12_readTask_37 : decode cX12_readTask 37 = .ok (.ireturn, 1) := by decide +kernel
theorem dX12_readTask_38 : decode cX12_readTask 38 = .ok (.aload_n 0, 1) := by decide +kernel
theorem dX12_readTask_39 : decode cX12_readTask 39 = .ok (.aload_n 0, 1) := by decide +kernel
theorem dX12_readTask_40 : decode cX12_readTask 40 = .ok (.invokevirtual 365, 3) := by decide +kernel
theorem dX12_readTask_43 : decode cX12_readTask 43 = .ok (.bipush 97, 2) := by decide +kernel
theorem dX12_readTask_45 : decode cX12_readTask 45 = .ok (.isub, 1) := by decide +kernel
theorem dX12_readTask_46 : decode cX12_readTask 46 = .ok (.iconst 1, 1) := by decide +kernel
theorem dX12_readTask_47 : decode cX12_readTask 47 = .ok (.iadd, 1) := by decide +kernel
theorem dX12_readTask_48 : decode cX12_readTask 48 = .ok (.putfield 493, 3) := by decide +kernel
theorem dX12_readTask_51 : decode cX12_readTask 51 = .ok (.aload_n 0, 1) := by decide +kernel
theorem dX12_readTask_52 : decode cX12_readTask 52 = .ok (.dup, 1) := by decide +kernel
theorem dX12_readTask_53 : decode cX12_readTask 53 = .ok (.getfield 362, 3) := by decide +kernel
theorem dX12_readTask_56 : decode cX12_readTask 56 = .ok (.iconst 1, 1) := by decide +kernel
theorem dX12_readTask_57 : decode cX12_readTask 57 = .ok (.iadd, 1) := by decide +kernel
theorem dX12_readTask_58 : decode cX12_readTask 58 = .ok (.putfield 362, 3) := by decide +kernel
theorem dX12_readTask_61 : decode cX12_readTask 61 = .ok (.aload_n 0, 1) := by decide +kernel
theorem dX12_readTask_62 : decode cX12_readTask 62 = .ok (.bipush 40, 2) := by decide +kernel
theorem dX12_readTask_64 : decode cX12_readTask 64 = .ok (.invokevirtual 422, 3) := by decide +kernel
theorem dX12_readTask_67 : decode cX12_readTask 67 = .ok (.ifCond .ne 5, 3) := by decide +kernel
theorem dX12_readTask_70 : decode cX12_readTask 70 = .ok (.iconst 0, 1) := by decide +kernel
theorem dX12_readTask_71 : decode cX12_readTask 71 = .ok (.ireturn, 1) := by decide +kernel
theorem dX12_readTask_72 : decode cX12_readTask 72 = .ok (.aload_n 0, 1) := by decide +kernel
theorem dX12_readTask_73 : decode cX12_readTask 73 = .ok (.invokevirtual 365, 3) := by decide +kernel
theorem dX12_readTask_76 : decode cX12_readTask 76 = .ok (.bipush 41, 2) := by decide +kernel
theorem dX12_readTask_78 : decode cX12_readTask 78 = .ok (.if_icmp .eq 7, 3) := by decide +kernel
theorem dX12_readTask_81 : decode cX12_readTask 81 = .ok (.iconst 1, 1) := by decide +kernel
theorem dX12_readTask_82 : decode cX12_readTask 82 = .ok (.goto 4, 3) := by decide +kernel
theorem dX12_readTask_85 : decode cX12_readTask 85 = .ok (.iconst 0, 1) := by decide +kernel
theorem dX12_readTask_86 : decode cX12_readTask 86 = .ok (.istore_n 1, 1) := by decide +kernel
theorem dX12_readTask_87 : decode cX12_readTask 87 = .ok (.iload_n 1, 1) := by decide +kernel
theorem dX12_readTask_88 : decode cX12_readTask 88 = .ok (.ifCond .eq 63, 3) := by decide +kernel
theorem dX12_readTask_91 : decode cX12_readTask 91 = .ok (.aload_n 0, 1) := by decide +kernel
theorem dX12_readTask_92 : decode cX12_readTask 92 = .ok (.iconst 1, 1) := by decide +kernel
theorem dX12_readTask_93 : decode cX12_readTask 93 = .ok (.invokevirtual 496, 3) := by decide +kernel
theorem dX12_readTask_96 : decode cX12_readTask 96 = .ok (.ifCond .ne 5, 3) := by decide +kernel
theorem dX12_readTask_99 : decode cX12_readTask 99 = .ok (.iconst 0, 1) := by decide +kernel
theorem dX12_readTask_100 : decode cX12_readTask 100 = .ok (.ireturn, 1) := by decide +kernel
theorem dX12_readTask_101 : decode cX12_readTask 101 = .ok (.aload_n 0, 1) := by decide +kernel
theorem dX12_readTask_102 : decode cX12_readTask 102 = .ok (.dup, 1) := by decide +kernel
theorem dX12_readTask_103 : decode cX12_readTask 103 = .ok (.getfield 490, 3) := by decide +kernel
theorem dX12_readTask_106 : decode cX12_readTask 106 = .ok (.iconst 1, 1) := by decide +kernel
theorem dX12_readTask_107 : decode cX12_readTask 107 = .ok (.iadd, 1) := by decide +kernel
theorem dX12_readTask_108 : decode cX12_readTask 108 = .ok (.putfield 490, 3) := by decide +kernel
theorem dX12_readTask_111 : decode cX12_readTask 111 = .ok (.aload_n 0, 1) := by decide +kernel
theorem dX12_readTask_112 : decode cX12_readTask 112 = .ok (.invokevirtual 365, 3) := by decide +kernel
theorem dX12_readTask_115 : decode cX12_readTask 115 = .ok (.bipush 44, 2) := by decide +kernel
theorem dX12_readTask_117 : decode cX12_readTask 117 = .ok (.if_icmp .ne 15, 3) := by decide +kernel
theorem dX12_readTask_120 : decode cX12_readTask 120 = .ok (.aload_n 0, 1) := by decide +kernel
theorem dX12_readTask_121 : decode cX12_readTask 121 = .ok (.getfield 490, 3) := by decide +kernel
theorem dX12_readTask_124 : decode cX12_readTask 124 = .ok (.iconst 5, 1) := by decide +kernel
theorem dX12_readTask_125 : decode cX12_readTask 125 = .ok (.if_icmp .ge 7, 3) := by decide +kernel
theorem dX12_readTask_128 : decode cX12_readTask 128 = .ok (.iconst 1, 1) := by decide +kernel
theorem dX12_readTask_129 : decode cX12_readTask 129 = .ok (.goto 4, 3) := by decide +kernel
theorem dX12_readTask_132 : decode cX12_readTask 132 = .ok (.iconst 0, 1) := by decide +kernel
theorem dX12_readTask_133 : decode cX12_readTask 133 = .ok (.istore_n 1, 1) := by decide +kernel
theorem dX12_readTask_134 : decode cX12_readTask 134 = .ok (.iload_n 1, 1) := by decide +kernel
theorem dX12_readTask_135 : decode cX12_readTask 135 = .ok (.ifCond .eq (-48), 3) := by decide +kernel
theorem dX12_readTask_138 : decode cX12_readTask 138 = .ok (.aload_n 0, 1) := by decide +kernel
theorem dX12_readTask_139 : decode cX12_readTask 139 = .ok (.dup, 1) := by decide +kernel
theorem dX12_readTask_140 : decode cX12_readTask 140 = .ok (.getfield 362, 3) := by decide +kernel
theorem dX12_readTask_143 : decode cX12_readTask 143 = .ok (.iconst 1, 1) := by decide +kernel
theorem dX12_readTask_144 : decode cX12_readTask 144 = .ok (.iadd, 1) := by decide +kernel
theorem dX12_readTask_145 : decode cX12_readTask 145 = .ok (.putfield 362, 3) := by decide +kernel
theorem dX12_readTask_148 : decode cX12_readTask 148 = .ok (.goto (-61), 3) := by decide +kernel
theorem dX12_readTask_151 : decode cX12_readTask 151 = .ok (.aload_n 0, 1) := by decide +kernel
theorem dX12_readTask_152 : decode cX12_readTask 152 = .ok (.bipush 41, 2) := by decide +kernel
theorem dX12_readTask_154 : decode cX12_readTask 154 = .ok (.invokevirtual 422, 3) := by decide +kernel
theorem dX12_readTask_157 : decode cX12_readTask 157 = .ok (.ifCond .eq 29, 3) := by decide +kernel
theorem dX12_readTask_160 : decode cX12_readTask 160 = .ok (.aload_n 0, 1) := by decide +kernel
theorem dX12_readTask_161 : decode cX12_readTask 161 = .ok (.getfield 362, 3) := by decide +kernel
theorem dX12_readTask_164 : decode cX12_readTask 164 = .ok (.aload_n 0, 1) := by decide +kernel
theorem dX12_readTask_165 : decode cX12_readTask 165 = .ok (.getfield 352, 3) := by decide +kernel
theorem dX12_readTask_168 : decode cX12_readTask 168 = .ok (.if_icmp .eq 14, 3) := by decide +kernel
theorem dX12_readTask_171 : decode cX12_readTask 171 = .ok (.aload_n 0, 1) := by decide +kernel
theorem dX12_readTask_172 : decode cX12_readTask 172 = .ok (.aload_n 0, 1) := by decide +kernel
theorem dX12_readTask_173 : decode cX12_readTask 173 = .ok (.getfield 362, 3) := by decide +kernel
theorem dX12_readTask_176 : decode cX12_readTask 176 = .ok (.invokevirtual 369, 3) := by decide +kernel
theorem dX12_readTask_179 : decode cX12_readTask 179 = .ok (.ifCond .eq 7, 3) := by decide +kernel
theorem dX12_readTask_182 : decode cX12_readTask 182 = .ok (.iconst 1, 1) := by decide +kernel
theorem dX12_readTask_183 : decode cX12_readTask 183 = .ok (.goto 4, 3) := by decide +kernel
theorem dX12_readTask_186 : decode cX12_readTask 186 = .ok (.iconst 0, 1) := by decide +kernel
theorem dX12_readTask_187 : decode cX12_readTask 187 = .ok (.ireturn, 1) := by decide +kernel
theorem dX12_task_0 : decode cX12_task 0 = .ok (.aload_n 0, 1) := by decide +kernel
theorem dX12_task_1 : decode cX12_task 1 = .ok (.invokevirtual 500, 3) := by decide +kernel
theorem dX12_task_4 : decode cX12_task 4 = .ok (.istore_n 1, 1) := by decide +kernel
theorem dX12_task_5 : decode cX12_task 5 = .ok (.aload_n 0, 1) := by decide +kernel
theorem dX12_task_6 : decode cX12_task 6 = .ok (.iconst 0, 1) := by decide +kernel
theorem dX12_task_7 : decode cX12_task 7 = .ok (.putfield 352, 3) := by decide +kernel
theorem dX12_task_10 : decode cX12_task 10 = .ok (.iload_n 1, 1) := by decide +kernel
theorem dX12_task_11 : decode cX12_task 11 = .ok (.ifCond .ne 5, 3) := by decide +kernel
theorem dX12_task_14 : decode cX12_task 14 = .ok (.iconst (-1), 1) := by decide +kernel
theorem dX12_task_15 : decode cX12_task 15 = .ok (.ireturn, 1) := by decide +kernel
theorem dX12_task_16 : decode cX12_task 16 = .ok (.aload_n 0, 1) := by decide +kernel
theorem dX12_task_17 : decode cX12_task 17 = .ok (.iconst 0, 1) := by decide +kernel
theorem dX12_task_18 : decode cX12_task 18 = .ok (.putfield 464, 3) := by decide +kernel
theorem dX12_task_21 : decode cX12_task 21 = .ok (.aload_n 0, 1) := by decide +kernel
theorem dX12_task_22 : decode cX12_task 22 = .ok (.aload_n 0, 1) := by decide +kernel
theorem dX12_task_23 : decode cX12_task 23 = .ok (.getfield 493, 3) := by decide +kernel
theorem dX12_task_26 : decode cX12_task 26 = .ok (.putfield 99, 3) := by decide +kernel
theorem dX12_task_29 : decode cX12_task 29 = .ok (.aload_n 0, 1) := by decide +kernel
theorem dX12_task_30 : decode cX12_task 30 = .ok (.aload_n 0, 1) := by decide +kernel
theorem dX12_task_31 : decode cX12_task 31 = .ok (.getfield 490, 3) := by decide +kernel
theorem dX12_task_34 : decode cX12_task 34 = .ok (.putfield 503, 3) := by decide +kernel
theorem dX12_task_37 : decode cX12_task 37 = .ok (.aload_n 0, 1) := by decide +kernel
theorem dX12_task_38 : decode cX12_task 38 = .ok (.aload_n 0, 1) := by decide +kernel
theorem dX12_task_39 : decode cX12_task 39 = .ok (.getfield 478, 3) := by decide +kernel
theorem dX12_task_42 : decode cX12_task 42 = .ok (.putfield 506, 3) := by decide +kernel
theorem dX12_task_45 : decode cX12_task 45 = .ok (.aload_n 0, 1) := by decide +kernel
theorem dX12_task_46 : decode cX12_task 46 = .ok (.getfield 78, 3) := by decide +kernel
theorem dX12_task_49 : decode cX12_task 49 = .ok (.iconst 0, 1) := by decide +kernel
theorem dX12_task_50 : decode cX12_task 50 = .ok (.aload_n 0, 1) := by decide +kernel
theorem dX12_task_51 : decode cX12_task 51 = .ok (.getfield 478, 3) := by decide +kernel
theorem dX12_task_54 : decode cX12_task 54 = .ok (.aload_n 0, 1) := by decide +kernel
theorem dX12_task_55 : decode cX12_task 55 = .ok (.getfield 87, 3) := by decide +kernel
theorem dX12_task_58 : decode cX12_task 58 = .ok (.iconst 0, 1) := by decide +kernel
theorem dX12_task_59 : decode cX12_task 59 = .ok (.invokestatic 471, 3) := by decide +kernel
theorem dX12_task_62 : decode cX12_task 62 = .ok (.aload_n 0, 1) := by decide +kernel
theorem dX12_task_63 : decode cX12_task 63 = .ok (.getfield 81, 3) := by decide +kernel
theorem dX12_task_66 : decode cX12_task 66 = .ok (.iconst 0, 1) := by decide +kernel
theorem dX12_task_67 : decode cX12_task 67 = .ok (.aload_n 0, 1) := by decide +kernel
theorem dX12_task_68 : decode cX12_task 68 = .ok (.getfield 478, 3) := by decide +kernel
theorem dX12_task_71 : decode cX12_task 71 = .ok (.aload_n 0, 1) := by decide +kernel
theorem dX12_task_72 : decode cX12_task 72 = .ok (.getfield 90, 3) := by decide +kernel
theorem dX12_task_75 : decode cX12_task 75 = .ok (.iconst 0, 1) := by decide +kernel
theorem dX12_task_76 : decode cX12_task 76 = .ok (.invokestatic 471, 3) := by decide +kernel
theorem dX12_task_79 : decode cX12_task 79 = .ok (.aload_n 0, 1) := by decide +kernel
theorem dX12_task_80 : decode cX12_task 80 = .ok (.aload_n 0, 1) := by decide +kernel
theorem dX12_task_81 : decode cX12_task 81 = .ok (.getfield 481, 3) := by decide +kernel
theorem dX12_task_84 : decode cX12_task 84 = .ok (.putfield 509, 3) := by decide +kernel
theorem dX12_task_87 : decode cX12_task 87 = .ok (.aload_n 0, 1) := by decide +kernel
theorem dX12_task_88 : decode cX12_task 88 = .ok (.iconst 0, 1) := by decide +kernel
theorem dX12_task_89 : decode cX12_task 89 = .ok (.putfield 512, 3) := by decide +kernel
theorem dX12_task_92 : decode cX12_task 92 = .ok (.aload_n 0, 1) := by decide +kernel
theorem dX12_task_93 : decode cX12_task 93 = .ok (.iconst 0, 1) := by decide +kernel
theorem dX12_task_94 : decode cX12_task 94 = .ok (.putfield 515, 3) := by decide +kernel
theorem dX12_task_97 : decode cX12_task 97 = .ok (.aload_n 0, 1) := by decide +kernel
theorem dX12_task_98 : decode cX12_task 98 = .ok (.getfield 509, 3) := by decide +kernel
theorem dX12_task_101 : decode cX12_task 101 = .ok (.ireturn, 1) := by decide +kernel
theorem dX12_readValues_0 : decode cX12_readValues 0 = .ok (.aload_n 0, 1) := by decide +kernel
theorem dX12_readValues_1 : decode cX12_readValues 1 = .ok (.invokevirtual 452, 3) := by decide +kernel
theorem dX12_readValues_4 : decode cX12_readValues 4 = .ok (.aload_n 0, 1) := by decide +kernel
theorem dX12_readValues_5 : decode cX12_readValues 5 = .ok (.iconst 0, 1) := by decide +kernel
theorem dX12_readValues_6 : decode cX12_readValues 6 = .ok (.putfield 478, 3) := by decide +kernel
theorem dX12_readValues_9 : decode cX12_readValues 9 = .ok (.aload_n 0, 1) := by decide +kernel
theorem dX12_readValues_10 : decode cX12_readValues 10 = .ok (.iconst 0, 1) := by decide +kernel
theorem dX12_readValues_11 : decode cX12_readValues 11 = .ok (.putfield 481, 3) := by decide +kernel
theorem dX12_readValues_14 : decode cX12_readValues 14 = .ok (.iconst 0, 1) := by decide +kernel
theorem dX12_readValues_15 : decode cX12_readValues 15 = .ok (.istore_n 1, 1) := by decide +kernel
theorem dX12_readValues_16 : decode cX12_readValues 16 = .ok (.iload_n 1, 1) := by decide +kernel
theorem dX12_readValues_17 : decode cX12_readValues 17 = .ok (.aload_n 0, 1) := by decide +kernel
theorem dX12_readValues_18 : decode cX12_readValues 18 = .ok (.getfield 509, 3) := by decide +kernel
theorem dX12_readValues_21 : decode cX12_readValues 21 = .ok (.if_icmp .ge 32, 3) := by decide +kernel
theorem dX12_readValues_24 : decode cX12_readValues 24 = .ok (.iload_n 1, 1) := by decide +kernel
theorem dX12_readValues_25 : decode cX12_readValues 25 = .ok (.ifCond .le 12, 3) := by decide +kernel
theorem dX12_readValues_28 : decode cX12_readValues 28 = .ok (.aload_n 0, 1) := by decide +kernel
theorem dX12_readValues_29 : decode cX12_readValues 29 = .ok (.bipush 44, 2) := by decide +kernel
theorem dX12_readValues_31 : decode cX12_readValues 31 = .ok (.invokevirtual 422, 3) := by decide +kernel
theorem dX12_readValues_34 : decode cX12_readValues 34 = .ok (.ifCond .eq 11, 3) := by decide +kernel
theorem dX12_readValues_37 : decode cX12_readValues 37 = .ok (.aload_n 0, 1) := by decide +kernel
theorem dX12_readValues_38 : decode cX12_readValues 38 = .ok (.iconst 0, 1) := by decide +kernel
theorem dX12_readValues_39 : decode cX12_readValues 39 = .ok (.invokevirtual 496, 3) := by decide +kernel
theorem dX12_readValues_42 : decode cX12_readValues 42 = .ok (.ifCond .ne 5, 3) := by decide +kernel
theorem dX12_readValues_45 : decode cX12_readValues 45 = .ok (.iconst 0, 1) := by decide +kernel
theorem dX12_readValues_46 : decode cX12_readValues 46 = .ok (.ireturn, 1) := by decide +kernel
theorem dX12_readValues_47 : decode cX12_readValues 47 = .ok (.iinc 1 1, 3) := by decide +kernel
theorem dX12_readValues_50 : decode cX12_readValues 50 = .ok (.goto (-34), 3) := by decide +kernel
theorem dX12_readValues_53 : decode cX12_readValues 53 = .ok (.aload_n 0, 1) := by decide +kernel
theorem dX12_readValues_54 : decode cX12_readValues 54 = .ok (.getfield 362, 3) := by decide +kernel
theorem dX12_readValues_57 : decode cX12_readValues 57 = .ok (.aload_n 0, 1) := by decide +kernel
theorem dX12_readValues_58 : decode cX12_readValues 58 = .ok (.getfield 352, 3) := by decide +kernel
theorem dX12_readValues_61 : decode cX12_readValues 61 = .ok (.if_icmp .eq 14, 3) := by decide +kernel
theorem dX12_readValues_64 : decode cX12_readValues 64 = .ok (.aload_n 0, 1) := by decide +kernel
theorem dX12_readValues_65 : decode cX12_readValues 65 = .ok (.aload_n 0, 1) := by decide +kernel
theorem dX12_readValues_66 : decode cX12_readValues 66 = .ok (.getfield 362, 3) := by decide +kernel
theorem dX12_readValues_69 : decode cX12_readValues 69 = .ok (.invokevirtual 369, 3) := by decide +kernel
theorem dX12_readValues_72 : decode cX12_readValues 72 = .ok (.ifCond .eq 7, 3) := by decide +kernel
theorem dX12_readValues_75 : decode cX12_readValues 75 = .ok (.iconst 1, 1) := by decide +kernel
theorem dX12_readValues_76 : decode cX12_readValues 76 = .ok (.goto 4, 3) := by decide +kernel
theorem dX12_readValues_79 : decode cX12_readValues 79 = .ok (.iconst 0, 1) := by decide +kernel
theorem dX12_readValues_80 : decode cX12_readValues 80 = .ok (.ireturn, 1) := by decide +kernel
theorem dX12_values_0 : decode cX12_values 0 = .ok (.aload_n 0, 1) := by decide +kernel
theorem dX12_values_1 : decode cX12_values 1 = .ok (.invokevirtual 518, 3) := by decide +kernel
theorem dX12_values_4 : decode cX12_values 4 = .ok (.istore_n 1, 1) := by decide +kernel
theorem dX12_values_5 : decode cX12_values 5 = .ok (.aload_n 0, 1) := by decide +kernel
theorem dX12_values_6 : decode cX12_values 6 = .ok (.iconst 0, 1) := by decide +kernel
theorem dX12_values_7 : decode cX12_values 7 = .ok (.putfield 352, 3) := by decide +kernel
theorem dX12_values_10 : decode cX12_values 10 = .ok (.iload_n 1, 1) := by decide +kernel
theorem dX12_values_11 : decode cX12_values 11 = .ok (.ifCond .ne 5, 3) := by decide +kernel
theorem dX12_values_14 : decode cX12_values 14 = .ok (.iconst (-1), 1) := by decide +kernel
theorem dX12_values_15 : decode cX12_values 15 = .ok (.ireturn, 1) := by decide +kernel
theorem dX12_values_16 : decode cX12_values 16 = .ok (.aload_n 0, 1) := by decide +kernel
theorem dX12_values_17 : decode cX12_values 17 = .ok (.aload_n 0, 1) := by decide +kernel
theorem dX12_values_18 : decode cX12_values 18 = .ok (.getfield 509, 3) := by decide +kernel
theorem dX12_values_21 : decode cX12_values 21 = .ok (.putfield 512, 3) := by decide +kernel
theorem dX12_values_24 : decode cX12_values 24 = .ok (.aload_n 0, 1) := by decide +kernel
theorem dX12_values_25 : decode cX12_values 25 = .ok (.aload_n 0, 1) := by decide +kernel
theorem dX12_values_26 : decode cX12_values 26 = .ok (.getfield 478, 3) := by decide +kernel
theorem dX12_values_29 : decode cX12_values 29 = .ok (.putfield 515, 3) := by decide +kernel
theorem dX12_values_32 : decode cX12_values 32 = .ok (.aload_n 0, 1) := by decide +kernel
theorem dX12_values_33 : decode cX12_values 33 = .ok (.getfield 78, 3) := by decide +kernel
theorem dX12_values_36 : decode cX12_values 36 = .ok (.iconst 0, 1) := by decide +kernel
theorem dX12_values_37 : decode cX12_values 37 = .ok (.aload_n 0, 1) := by decide +kernel
theorem dX12_values_38 : decode cX12_values 38 = .ok (.getfield 478, 3) := by decide +kernel
theorem dX12_values_41 : decode cX12_values 41 = .ok (.aload_n 0, 1) := by decide +kernel
theorem dX12_values_42 : decode cX12_values 42 = .ok (.getfield 93, 3) := by decide +kernel
theorem dX12_values_45 : decode cX12_values 45 = .ok (.iconst 0, 1) := by decide +kernel
theorem dX12_values_46 : decode cX12_values 46 = .ok (.invokestatic 471, 3) := by decide +kernel
theorem dX12_values_49 : decode cX12_values 49 = .ok (.aload_n 0, 1) := by decide +kernel
theorem dX12_values_50 : decode cX12_values 50 = .ok (.getfield 81, 3) := by decide +kernel
theorem dX12_values_53 : decode cX12_values 53 = .ok (.iconst 0, 1) := by decide +kernel
theorem dX12_values_54 : decode cX12_values 54 = .ok (.aload_n 0, 1) := by decide +kernel
theorem dX12_values_55 : decode cX12_values 55 = .ok (.getfield 478, 3) := by decide +kernel
theorem dX12_values_58 : decode cX12_values 58 = .ok (.aload_n 0, 1) := by decide +kernel
theorem dX12_values_59 : decode cX12_values 59 = .ok (.getfield 96, 3) := by decide +kernel
theorem dX12_values_62 : decode cX12_values 62 = .ok (.iconst 0, 1) := by decide +kernel
theorem dX12_values_63 : decode cX12_values 63 = .ok (.invokestatic 471, 3) := by decide +kernel
theorem dX12_values_66 : decode cX12_values 66 = .ok (.aload_n 0, 1) := by decide +kernel
theorem dX12_values_67 : decode cX12_values 67 = .ok (.getfield 509, 3) := by decide +kernel
theorem dX12_values_70 : decode cX12_values 70 = .ok (.ireturn, 1) := by decide +kernel
theorem dX12_fault_0 : decode cX12_fault 0 = .ok (.aload_n 0, 1) := by decide +kernel
theorem dX12_fault_1 : decode cX12_fault 1 = .ok (.getfield 13, 3) := by decide +kernel
theorem dX12_fault_4 : decode cX12_fault 4 = .ok (.ireturn, 1) := by decide +kernel
theorem dX12_set_0 : decode cX12_set 0 = .ok (.iload_n 1, 1) := by decide +kernel
theorem dX12_set_1 : decode cX12_set 1 = .ok (.ifCond .ne 13, 3) := by decide +kernel
theorem dX12_set_4 : decode cX12_set 4 = .ok (.iload_n 2, 1) := by decide +kernel
theorem dX12_set_5 : decode cX12_set 5 = .ok (.iconst 0, 1) := by decide +kernel
theorem dX12_set_6 : decode cX12_set 6 = .ok (.bipush 12, 2) := by decide +kernel
theorem dX12_set_8 : decode cX12_set 8 = .ok (.invokestatic 359, 3) := by decide +kernel
theorem dX12_set_11 : decode cX12_set 11 = .ok (.goto 40, 3) := by decide +kernel
theorem dX12_set_14 : decode cX12_set 14 = .ok (.iload_n 1, 1) := by decide +kernel
theorem dX12_set_15 : decode cX12_set 15 = .ok (.iconst 1, 1) := by decide +kernel
theorem dX12_set_16 : decode cX12_set 16 = .ok (.if_icmp .ne 13, 3) := by decide +kernel
theorem dX12_set_19 : decode cX12_set 19 = .ok (.iload_n 2, 1) := by decide +kernel
theorem dX12_set_20 : decode cX12_set 20 = .ok (.iconst 1, 1) := by decide +kernel
theorem dX12_set_21 : decode cX12_set 21 = .ok (.bipush 6, 2) := by decide +kernel
theorem dX12_set_23 : decode cX12_set 23 = .ok (.invokestatic 359, 3) := by decide +kernel
theorem dX12_set_26 : decode cX12_set 26 = .ok (.goto 25, 3) := by decide +kernel
theorem dX12_set_29 : decode cX12_set 29 = .ok (.iload_n 1, 1) := by decide +kernel
theorem dX12_set_30 : decode cX12_set 30 = .ok (.iconst 2, 1) := by decide +kernel
theorem dX12_set_31 : decode cX12_set 31 = .ok (.if_icmp .ne 19, 3) := by decide +kernel
theorem dX12_set_34 : decode cX12_set 34 = .ok (.iload_n 2, 1) := by decide +kernel
theorem dX12_set_35 : decode cX12_set 35 = .ok (.bipush 10, 2) := by decide +kernel
theorem dX12_set_37 : decode cX12_set 37 = .ok (.sipush 300, 3) := by decide +kernel
theorem dX12_set_40 : decode cX12_set 40 = .ok (.invokestatic 359, 3) := by decide +kernel
theorem dX12_set_43 : decode cX12_set 43 = .ok (.ifCond .eq 7, 3) := by decide +kernel
theorem dX12_set_46 : decode cX12_set 46 = .ok (.iconst 1, 1) := by decide +kernel
theorem dX12_set_47 : decode cX12_set 47 = .ok (.goto 4, 3) := by decide +kernel
theorem dX12_set_50 : decode cX12_set 50 = .ok (.iconst 0, 1) := by decide +kernel
theorem dX12_set_51 : decode cX12_set 51 = .ok (.istore_n 3, 1) := by decide +kernel
theorem dX12_set_52 : decode cX12_set 52 = .ok (.iload_n 3, 1) := by decide +kernel
theorem dX12_set_53 : decode cX12_set 53 = .ok (.ifCond .ne 5, 3) := by decide +kernel
theorem dX12_set_56 : decode cX12_set 56 = .ok (.iconst 0, 1) := by decide +kernel
theorem dX12_set_57 : decode cX12_set 57 = .ok (.ireturn, 1) := by decide +kernel
theorem dX12_set_58 : decode cX12_set 58 = .ok (.aload_n 0, 1) := by decide +kernel
theorem dX12_set_59 : decode cX12_set 59 = .ok (.getfield 102, 3) := by decide +kernel
theorem dX12_set_62 : decode cX12_set 62 = .ok (.iload_n 1, 1) := by decide +kernel
theorem dX12_set_63 : decode cX12_set 63 = .ok (.iload_n 2, 1) := by decide +kernel
theorem dX12_set_64 : decode cX12_set 64 = .ok (.iastore, 1) := by decide +kernel
theorem dX12_set_65 : decode cX12_set 65 = .ok (.aload_n 0, 1) := by decide +kernel
theorem dX12_set_66 : decode cX12_set 66 = .ok (.iconst 0, 1) := by decide +kernel
theorem dX12_set_67 : decode cX12_set 67 = .ok (.putfield 464, 3) := by decide +kernel
theorem dX12_set_70 : decode cX12_set 70 = .ok (.iconst 1, 1) := by decide +kernel
theorem dX12_set_71 : decode cX12_set 71 = .ok (.ireturn, 1) := by decide +kernel
theorem dX12_is_0 : decode cX12_is 0 = .ok (.iload_n 1, 1) := by decide +kernel
theorem dX12_is_1 : decode cX12_is 1 = .ok (.tableswitch 81 0 7 #[47, 52, 57, 62, 62, 62, 71, 76], 47) := by decide +kernel
theorem dX12_is_48 : decode cX12_is 48 = .ok (.aload_n 0, 1) := by decide +kernel
theorem dX12_is_49 : decode cX12_is 49 = .ok (.getfield 468, 3) := by decide +kernel
theorem dX12_is_52 : decode cX12_is 52 = .ok (.ireturn, 1) := by decide +kernel
theorem dX12_is_53 : decode cX12_is 53 = .ok (.aload_n 0, 1) := by decide +kernel
theorem dX12_is_54 : decode cX12_is 54 = .ok (.getfield 509, 3) := by decide +kernel
theorem dX12_is_57 : decode cX12_is 57 = .ok (.ireturn, 1) := by decide +kernel
theorem dX12_is_58 : decode cX12_is 58 = .ok (.aload_n 0, 1) := by decide +kernel
theorem dX12_is_59 : decode cX12_is 59 = .ok (.getfield 512, 3) := by decide +kernel
theorem dX12_is_62 : decode cX12_is 62 = .ok (.ireturn, 1) := by decide +kernel
theorem dX12_is_63 : decode cX12_is 63 = .ok (.aload_n 0, 1) := by decide +kernel
theorem dX12_is_64 : decode cX12_is 64 = .ok (.getfield 102, 3) := by decide +kernel
theorem dX12_is_67 : decode cX12_is 67 = .ok (.iload_n 1, 1) := by decide +kernel
theorem dX12_is_68 : decode cX12_is 68 = .ok (.iconst 3, 1) := by decide +kernel
theorem dX12_is_69 : decode cX12_is 69 = .ok (.isub, 1) := by decide +kernel
theorem dX12_is_70 : decode cX12_is 70 = .ok (.iaload, 1) := by decide +kernel
theorem dX12_is_71 : decode cX12_is 71 = .ok (.ireturn, 1) := by decide +kernel
theorem dX12_is_72 : decode cX12_is 72 = .ok (.aload_n 0, 1) := by decide +kernel
theorem dX12_is_73 : decode cX12_is 73 = .ok (.getfield 352, 3) := by decide +kernel
theorem dX12_is_76 : decode cX12_is 76 = .ok (.ireturn, 1) := by decide +kernel
theorem dX12_is_77 : decode cX12_is 77 = .ok (.aload_n 0, 1) := by decide +kernel
theorem dX12_is_78 : decode cX12_is 78 = .ok (.getfield 458, 3) := by decide +kernel
theorem dX12_is_81 : decode cX12_is 81 = .ok (.ireturn, 1) := by decide +kernel
theorem dX12_is_82 : decode cX12_is 82 = .ok (.iconst (-1), 1) := by decide +kernel
theorem dX12_is_83 : decode cX12_is 83 = .ok (.ireturn, 1) := by decide +kernel
theorem dX12_function_0 : decode cX12_function 0 = .ok (.iload_n 1, 1) := by decide +kernel
theorem dX12_function_1 : decode cX12_function 1 = .ok (.iconst 0, 1) := by decide +kernel
theorem dX12_function_2 : decode cX12_function 2 = .ok (.aload_n 0, 1) := by decide +kernel
theorem dX12_function_3 : decode cX12_function 3 = .ok (.getfield 468, 3) := by decide +kernel
theorem dX12_function_6 : decode cX12_function 6 = .ok (.iconst 1, 1) := by decide +kernel
theorem dX12_function_7 : decode cX12_function 7 = .ok (.isub, 1) := by decide +kernel
theorem dX12_function_8 : decode cX12_function 8 = .ok (.invokestatic 359, 3) := by decide +kernel
theorem dX12_function_11 : decode cX12_function 11 = .ok (.ifCond .ne 5, 3) := by decide +kernel
theorem dX12_function_14 : decode cX12_function 14 = .ok (.iconst (-1), 1) := by decide +kernel
theorem dX12_function_15 : decode cX12_function 15 = .ok (.ireturn, 1) := by decide +kernel
theorem dX12_function_16 : decode cX12_function 16 = .ok (.iload_n 2, 1) := by decide +kernel
theorem dX12_function_17 : decode cX12_function 17 = .ok (.tableswitch 90 0 5 #[39, 46, 53, 60, 70, 80], 39) := by decide +kernel
theorem dX12_function_56 : decode cX12_function 56 = .ok (.aload_n 0, 1) := by decide +kernel
theorem dX12_function_57 : decode cX12_function 57 = .ok (.getfield 17, 3) := by decide +kernel
theorem dX12_function_60 : decode cX12_function 60 = .ok (.iload_n 1, 1) := by decide +kernel
theorem dX12_function_61 : decode cX12_function 61 = .ok (.iaload, 1) := by decide +kernel
theorem dX12_function_62 : decode cX12_function 62 = .ok (.ireturn, 1) := by decide +kernel
theorem dX12_function_63 : decode cX12_function 63 = .ok (.aload_n 0, 1) := by decide +kernel
theorem dX12_function_64 : decode cX12_function 64 = .ok (.getfield 21, 3) := by decide +kernel
theorem dX12_function_67 : decode cX12_function 67 = .ok (.iload_n 1, 1) := by decide +kernel
theorem dX12_function_68 : decode cX12_function 68 = .ok (.iaload, 1) := by decide +kernel
theorem dX12_function_69 : decode cX12_function 69 = .ok (.ireturn, 1) := by decide +kernel
theorem dX12_function_70 : decode cX12_function 70 = .ok (.aload_n 0, 1) := by decide +kernel
theorem dX12_function_71 : decode cX12_function 71 = .ok (.getfield 30, 3) := by decide +kernel
theorem dX12_function_74 : decode cX12_function 74 = .ok (.iload_n 1, 1) := by decide +kernel
theorem dX12_function_75 : decode cX12_function 75 = .ok (.iaload, 1) := by decide +kernel
theorem dX12_function_76 : decode cX12_function 76 = .ok (.ireturn, 1) := by decide +kernel
theorem dX12_function_77 : decode cX12_function 77 = .ok (.aload_n 0, 1) := by decide +kernel
theorem dX12_function_78 : decode cX12_function 78 = .ok (.iload_n 1, 1) := by decide +kernel
theorem dX12_function_79 : decode cX12_function 79 = .ok (.bipush 12, 2) := by decide +kernel
theorem dX12_function_81 : decode cX12_function 81 = .ok (.bipush 12, 2) := by decide +kernel
theorem dX12_function_83 : decode cX12_function 83 = .ok (.invokevirtual 521, 3) := by decide +kernel
theorem dX12_function_86 : decode cX12_function 86 = .ok (.ireturn, 1) := by decide +kernel
theorem dX12_function_87 : decode cX12_function 87 = .ok (.aload_n 0, 1) := by decide +kernel
theorem dX12_function_88 : decode cX12_function 88 = .ok (.iload_n 1, 1) := by decide +kernel
theorem dX12_function_89 : decode cX12_function 89 = .ok (.bipush 8, 2) := by decide +kernel
theorem dX12_function_91 : decode cX12_function 91 = .ok (.bipush 8, 2) := by decide +kernel
theorem dX12_function_93 : decode cX12_function 93 = .ok (.invokevirtual 521, 3) := by decide +kernel
theorem dX12_function_96 : decode cX12_function 96 = .ok (.ireturn, 1) := by decide +kernel
theorem dX12_function_97 : decode cX12_function 97 = .ok (.aload_n 0, 1) := by decide +kernel
theorem dX12_function_98 : decode cX12_function 98 = .ok (.iload_n 1, 1) := by decide +kernel
theorem dX12_function_99 : decode cX12_function 99 = .ok (.bipush 9, 2) := by decide +kernel
theorem dX12_function_101 : decode cX12_function 101 = .ok (.bipush 10, 2) := by decide +kernel
theorem dX12_function_103 : decode cX12_function 103 = .ok (.invokevirtual 521, 3) := by decide +kernel
theorem dX12_function_106 : decode cX12_function 106 = .ok (.ireturn, 1) := by decide +kernel
theorem dX12_function_107 : decode cX12_function 107 = .ok (.iconst (-1), 1) := by decide +kernel
theorem dX12_function_108 : decode cX12_function 108 = .ok (.ireturn, 1) := by decide +kernel
theorem dX12_buildLeaves_0 : decode cX12_buildLeaves 0 = .ok (.aload_n 0, 1) := by decide +kernel
theorem dX12_buildLeaves_1 : decode cX12_buildLeaves 1 = .ok (.iconst 0, 1) := by decide +kernel
theorem dX12_buildLeaves_2 : decode cX12_buildLeaves 2 = .ok (.putfield 530, 3) := by decide +kernel
theorem dX12_buildLeaves_5 : decode cX12_buildLeaves 5 = .ok (.aload_n 0, 1) := by decide +kernel
theorem dX12_buildLeaves_6 : decode cX12_buildLeaves 6 = .ok (.getfield 515, 3) := by decide +kernel
theorem dX12_buildLeaves_9 : decode cX12_buildLeaves 9 = .ok (.iconst 1, 1) := by decide +kernel
theorem dX12_buildLeaves_10 : decode cX12_buildLeaves 10 = .ok (.isub, 1) := by decide +kernel
theorem dX12_buildLeaves_11 : decode cX12_buildLeaves 11 = .ok (.istore_n 1, 1) := by decide +kernel
theorem dX12_buildLeaves_12 : decode cX12_buildLeaves 12 = .ok (.iload_n 1, 1) := by decide +kernel
theorem dX12_buildLeaves_13 : decode cX12_buildLeaves 13 = .ok (.ifCond .lt 25, 3) := by decide +kernel
theorem dX12_buildLeaves_16 : decode cX12_buildLeaves 16 = .ok (.aload_n 0, 1) := by decide +kernel
theorem dX12_buildLeaves_17 : decode cX12_buildLeaves 17 = .ok (.aload_n 0, 1) := by decide +kernel
theorem dX12_buildLeaves_18 : decode cX12_buildLeaves 18 = .ok (.getfield 93, 3) := by decide +kernel
theorem dX12_buildLeaves_21 : decode cX12_buildLeaves 21 = .ok (.iload_n 1, 1) := by decide +kernel
theorem dX12_buildLeaves_22 : decode cX12_buildLeaves 22 = .ok (.iaload, 1) := by decide +kernel
theorem dX12_buildLeaves_23 : decode cX12_buildLeaves 23 = .ok (.aload_n 0, 1) := by decide +kernel
theorem dX12_buildLeaves_24 : decode cX12_buildLeaves 24 = .ok (.getfield 96, 3) := by decide +kernel
theorem dX12_buildLeaves_27 : decode cX12_buildLeaves 27 = .ok (.iload_n 1, 1) := by decide +kernel
theorem dX12_buildLeaves_28 : decode cX12_buildLeaves 28 = .ok (.iaload, 1) := by decide +kernel
theorem dX12_buildLeaves_29 : decode cX12_buildLeaves 29 = .ok (.invokevirtual 542, 3) := by decide +kernel
theorem dX12_buildLeaves_32 : decode cX12_buildLeaves 32 = .ok (.iinc 1 (-1), 3) := by decide +kernel
theorem dX12_buildLeaves_35 : decode cX12_buildLeaves 35 = .ok (.goto (-23), 3) := by decide +kernel
theorem dX12_buildLeaves_38 : decode cX12_buildLeaves 38 = .ok (.iconst 0, 1) := by decide +kernel
theorem dX12_buildLeaves_39 : decode cX12_buildLeaves 39 = .ok (.istore_n 1, 1) := by decide +kernel
theorem dX12_buildLeaves_40 : decode cX12_buildLeaves 40 = .ok (.iload_n 1, 1) := by decide +kernel
theorem dX12_buildLeaves_41 : decode cX12_buildLeaves 41 = .ok (.aload_n 0, 1) := by decide +kernel
theorem dX12_buildLeaves_42 : decode cX12_buildLeaves 42 = .ok (.getfield 512, 3) := by decide +kernel
theorem dX12_buildLeaves_45 : decode cX12_buildLeaves 45 = .ok (.if_icmp .ge 19, 3) := by decide +kernel
theorem dX12_buildLeaves_48 : decode cX12_buildLeaves 48 = .ok (.aload_n 0, 1) := by decide +kernel
theorem dX12_buildLeaves_49 : decode cX12_buildLeaves 49 = .ok (.getfield 124, 3) := by decide +kernel
theorem dX12_buildLeaves_52 : decode cX12_buildLeaves 52 = .ok (.iload_n 1, 1) := by decide +kernel
theorem dX12_buildLeaves_53 : decode cX12_buildLeaves 53 = .ok (.aload_n 0, 1) := by decide +kernel
theorem dX12_buildLeaves_54 : decode cX12_buildLeaves 54 = .ok (.invokevirtual 536, 3) := by decide +kernel
theorem dX12_buildLeaves_57 : decode cX12_buildLeaves 57 = .ok (.iastore, 1) := by decide +kernel
theorem dX12_buildLeaves_58 : decode cX12_buildLeaves 58 = .ok (.iinc 1 1, 3) := by decide +kernel
theorem dX12_buildLeaves_61 : decode cX12_buildLeaves 61 = .ok (.goto (-21), 3) := by decide +kernel
theorem dX12_buildLeaves_64 : decode cX12_buildLeaves 64 = .ok (.return_, 1) := by decide +kernel
theorem dX12_begin_0 : decode cX12_begin 0 = .ok (.aload_n 0, 1) := by decide +kernel
theorem dX12_begin_1 : decode cX12_begin 1 = .ok (.iload_n 1, 1) := by decide +kernel
theorem dX12_begin_2 : decode cX12_begin 2 = .ok (.putfield 551, 3) := by decide +kernel
theorem dX12_begin_5 : decode cX12_begin 5 = .ok (.aload_n 0, 1) := by decide +kernel
theorem dX12_begin_6 : decode cX12_begin 6 = .ok (.iconst 0, 1) := by decide +kernel
theorem dX12_begin_7 : decode cX12_begin 7 = .ok (.putfield 545, 3) := by decide +kernel
theorem dX12_begin_10 : decode cX12_begin 10 = .ok (.aload_n 0, 1) := by decide +kernel
theorem dX12_begin_11 : decode cX12_begin 11 = .ok (.iconst 0, 1) := by decide +kernel
theorem dX12_begin_12 : decode cX12_begin 12 = .ok (.putfield 548, 3) := by decide +kernel
theorem dX12_begin_15 : decode cX12_begin 15 = .ok (.aload_n 0, 1) := by decide +kernel
theorem dX12_begin_16 : decode cX12_begin 16 = .ok (.iconst 0, 1) := by decide +kernel
theorem dX12_begin_17 : decode cX12_begin 17 = .ok (.putfield 554, 3) := by decide +kernel
theorem dX12_begin_20 : decode cX12_begin 20 = .ok (.aload_n 0, 1) := by decide +kernel
theorem dX12_begin_21 : decode cX12_begin 21 = .ok (.iconst 0, 1) := by decide +kernel
theorem dX12_begin_22 : decode cX12_begin 22 = .ok (.putfield 557, 3) := by decide +kernel
theorem dX12_begin_25 : decode cX12_begin 25 = .ok (.return_, 1) := by decide +kernel
theorem dX12_buildTask_0 : decode cX12_buildTask 0 = .ok (.aload_n 0, 1) := by decide +kernel
theorem dX12_buildTask_1 : decode cX12_buildTask 1 = .ok (.getfield 509, 3) := by decide +kernel
theorem dX12_buildTask_4 : decode cX12_buildTask 4 = .ok (.istore_n 2, 1) := by decide +kernel
theorem dX12_buildTask_5 : decode cX12_buildTask 5 = .ok (.aload_n 0, 1) := by decide +kernel
theorem dX12_buildTask_6 : decode cX12_buildTask 6 = .ok (.iconst 0, 1) := by decide +kernel
theorem dX12_buildTask_7 : decode cX12_buildTask 7 = .ok (.putfield 530, 3) := by decide +kernel
theorem dX12_buildTask_10 : decode cX12_buildTask 10 = .ok (.aload_n 0, 1) := by decide +kernel
theorem dX12_buildTask_11 : decode cX12_buildTask 11 = .ok (.getfield 506, 3) := by decide +kernel
theorem dX12_buildTask_14 : decode cX12_buildTask 14 = .ok (.iconst 1, 1) := by decide +kernel
theorem dX12_buildTask_15 : decode cX12_buildTask 15 = .ok (.isub, 1) := by decide +kernel
theorem dX12_buildTask_16 : decode cX12_buildTask 16 = .ok (.istore_n 3, 1) := by decide +kernel
theorem dX12_buildTask_17 : decode cX12_buildTask 17 = .ok (.iload_n 3, 1) := by decide +kernel
theorem dX12_buildTask_18 : decode cX12_buildTask 18 = .ok (.ifCond .lt 64, 3) := by decide +kernel
theorem dX12_buildTask_21 : decode cX12_buildTask 21 = .ok (.aload_n 0, 1) := by decide +kernel
theorem dX12_buildTask_22 : decode cX12_buildTask 22 = .ok (.getfield 87, 3) := by decide +kernel
theorem dX12_buildTask_25 : decode cX12_buildTask 25 = .ok (.iload_n 3, 1) := by decide +kernel
theorem dX12_buildTask_26 : decode cX12_buildTask 26 = .ok (.iaload, 1) := by decide +kernel
theorem dX12_buildTask_27 : decode cX12_buildTask 27 = .ok (.iconst 3, 1) := by decide +kernel
theorem dX12_buildTask_28 : decode cX12_buildTask 28 = .ok (.if_icmp .eq 22, 3) := by decide +kernel
theorem dX12_buildTask_31 : decode cX12_buildTask 31 = .ok (.aload_n 0, 1) := by decide +kernel
theorem dX12_buildTask_32 : decode cX12_buildTask 32 = .ok (.aload_n 0, 1) := by decide +kernel
theorem dX12_buildTask_33 : decode cX12_buildTask 33 = .ok (.getfield 87, 3) := by decide +kernel
theorem dX12_buildTask_36 : decode cX12_buildTask 36 = .ok (.iload_n 3, 1) := by decide +kernel
theorem dX12_buildTask_37 : decode cX12_buildTask 37 = .ok (.iaload, 1) := by decide +kernel
theorem dX12_buildTask_38 : decode cX12_buildTask 38 = .ok (.aload_n 0, 1) := by decide +kernel
theorem dX12_buildTask_39 : decode cX12_buildTask 39 = .ok (.getfield 90, 3) := by decide +kernel
theorem dX12_buildTask_42 : decode cX12_buildTask 42 = .ok (.iload_n 3, 1) := by decide +kernel
theorem dX12_buildTask_43 : decode cX12_buildTask 43 = .ok (.iaload, 1) := by decide +kernel
theorem dX12_buildTask_44 : decode cX12_buildTask 44 = .ok (.invokevirtual 542, 3) := by decide +kernel
theorem dX12_buildTask_47 : decode cX12_buildTask 47 = .ok (.goto 29, 3) := by decide +kernel
theorem dX12_buildTask_50 : decode cX12_buildTask 50 = .ok (.iinc 2 (-1), 3) := by decide +kernel
theorem dX12_buildTask_53 : decode cX12_buildTask 53 = .ok (.aload_n 0, 1) := by decide +kernel
theorem dX12_buildTask_54 : decode cX12_buildTask 54 = .ok (.iload_n 1, 1) := by decide +kernel
theorem dX12_buildTask_55 : decode cX12_buildTask 55 = .ok (.ifCond .eq 12, 3) := by decide +kernel
theorem dX12_buildTask_58 : decode cX12_buildTask 58 = .ok (.aload_n 0, 1) := by decide +kernel
theorem dX12_buildTask_59 : decode cX12_buildTask 59 = .ok (.getfield 124, 3) := by decide +kernel
theorem dX12_buildTask_62 : decode cX12_buildTask 62 = .ok (.iload_n 2, 1) := by decide +kernel
theorem dX12_buildTask_63 : decode cX12_buildTask 63 = .ok (.iaload, 1) := by decide +kernel
theorem dX12_buildTask_64 : decode cX12_buildTask 64 = .ok (.goto 9, 3) := by decide +kernel
theorem dX12_buildTask_67 : decode cX12_buildTask 67 = .ok (.aload_n 0, 1) := by decide +kernel
theorem dX12_buildTask_68 : decode cX12_buildTask 68 = .ok (.iconst 3, 1) := by decide +kernel
theorem dX12_buildTask_69 : decode cX12_buildTask 69 = .ok (.iload_n 2, 1) := by decide +kernel
theorem dX12_buildTask_70 : decode cX12_buildTask 70 = .ok (.invokevirtual 527, 3) := by decide +kernel
theorem dX12_buildTask_73 : decode cX12_buildTask 73 = .ok (.invokevirtual 533, 3) := by decide +kernel
theorem dX12_buildTask_76 : decode cX12_buildTask 76 = .ok (.iinc 3 (-1), 3) := by decide +kernel
theorem dX12_buildTask_79 : decode cX12_buildTask 79 = .ok (.goto (-62), 3) := by decide +kernel
theorem dX12_buildTask_82 : decode cX12_buildTask 82 = .ok (.iconst 0, 1) := by decide +kernel
theorem dX12_buildTask_83 : decode cX12_buildTask 83 = .ok (.istore_n 3, 1) := by decide +kernel
theorem dX12_buildTask_84 : decode cX12_buildTask 84 = .ok (.iload_n 3, 1) := by decide +kernel
theorem dX12_buildTask_85 : decode cX12_buildTask 85 = .ok (.aload_n 0, 1) := by decide +kernel
theorem dX12_buildTask_86 : decode cX12_buildTask 86 = .ok (.getfield 503, 3) := by decide +kernel
theorem dX12_buildTask_89 : decode cX12_buildTask 89 = .ok (.if_icmp .ge 19, 3) := by decide +kernel
theorem dX12_buildTask_92 : decode cX12_buildTask 92 = .ok (.aload_n 0, 1) := by decide +kernel
theorem dX12_buildTask_93 : decode cX12_buildTask 93 = .ok (.getfield 151, 3) := by decide +kernel
theorem dX12_buildTask_96 : decode cX12_buildTask 96 = .ok (.iload_n 3, 1) := by decide +kernel
theorem dX12_buildTask_97 : decode cX12_buildTask 97 = .ok (.aload_n 0, 1) := by decide +kernel
theorem dX12_buildTask_98 : decode cX12_buildTask 98 = .ok (.invokevirtual 536, 3) := by decide +kernel
theorem dX12_buildTask_101 : decode cX12_buildTask 101 = .ok (.iastore, 1) := by decide +kernel
theorem dX12_buildTask_102 : decode cX12_buildTask 102 = .ok (.iinc 3 1, 3) := by decide +kernel
theorem dX12_buildTask_105 : decode cX12_buildTask 105 = .ok (.goto (-21), 3) := by decide +kernel
theorem dX12_buildTask_108 : decode cX12_buildTask 108 = .ok (.return_, 1) := by decide +kernel
theorem dX12_specialiseNow_0 : decode cX12_specialiseNow 0 = .ok (.aload_n 0, 1) := by decide +kernel
theorem dX12_specialiseNow_1 : decode cX12_specialiseNow 1 = .ok (.iconst 0, 1) := by decide +kernel
theorem dX12_specialiseNow_2 : decode cX12_specialiseNow 2 = .ok (.putfield 524, 3) := by decide +kernel
theorem dX12_specialiseNow_5 : decode cX12_specialiseNow 5 = .ok (.aload_n 0, 1) := by decide +kernel
theorem dX12_specialiseNow_6 : decode cX12_specialiseNow 6 = .ok (.iconst 0, 1) := by decide +kernel
theorem dX12_specialiseNow_7 : decode cX12_specialiseNow 7 = .ok (.putfield 557, 3) := by decide +kernel
theorem dX12_specialiseNow_10 : decode cX12_specialiseNow 10 = .ok (.aload_n 0, 1) := by decide +kernel
theorem dX12_specialiseNow_11 : decode cX12_specialiseNow 11 = .ok (.iconst 0, 1) := by decide +kernel
theorem dX12_specialiseNow_12 : decode cX12_specialiseNow 12 = .ok (.putfield 682, 3) := by decide +kernel
theorem dX12_specialiseNow_15 : decode cX12_specialiseNow 15 = .ok (.aload_n 0, 1) := by decide +kernel
theorem dX12_specialiseNow_16 : decode cX12_specialiseNow 16 = .ok (.iconst 0, 1) := by decide +kernel
theorem dX12_specialiseNow_17 : decode cX12_specialiseNow 17 = .ok (.putfield 685, 3) := by decide +kernel
theorem dX12_specialiseNow_20 : decode cX12_specialiseNow 20 = .ok (.aload_n 0, 1) := by decide +kernel
theorem dX12_specialiseNow_21 : decode cX12_specialiseNow 21 = .ok (.iconst 0, 1) := by decide +kernel
theorem dX12_specialiseNow_22 : decode cX12_specialiseNow 22 = .ok (.putfield 688, 3) := by decide +kernel
theorem dX12_specialiseNow_25 : decode cX12_specialiseNow 25 = .ok (.aload_n 0, 1) := by decide +kernel
theorem dX12_specialiseNow_26 : decode cX12_specialiseNow 26 = .ok (.iconst 0, 1) := by decide +kernel
theorem dX12_specialiseNow_27 : decode cX12_specialiseNow 27 = .ok (.putfield 733, 3) := by decide +kernel
theorem dX12_specialiseNow_30 : decode cX12_specialiseNow 30 = .ok (.aload_n 0, 1) := by decide +kernel
theorem dX12_specialiseNow_31 : decode cX12_specialiseNow 31 = .ok (.iconst 0, 1) := by decide +kernel
theorem dX12_specialiseNow_32 : decode cX12_specialiseNow 32 = .ok (.putfield 724, 3) := by decide +kernel
theorem dX12_specialiseNow_35 : decode cX12_specialiseNow 35 = .ok (.aload_n 0, 1) := by decide +kernel
theorem dX12_specialiseNow_36 : decode cX12_specialiseNow 36 = .ok (.iconst 0, 1) := by decide +kernel
theorem dX12_specialiseNow_37 : decode cX12_specialiseNow 37 = .ok (.putfield 717, 3) := by decide +kernel
theorem dX12_specialiseNow_40 : decode cX12_specialiseNow 40 = .ok (.aload_n 0, 1) := by decide +kernel
theorem dX12_specialiseNow_41 : decode cX12_specialiseNow 41 = .ok (.iconst 0, 1) := by decide +kernel
theorem dX12_specialiseNow_42 : decode cX12_specialiseNow 42 = .ok (.putfield 757, 3) := by decide +kernel
theorem dX12_specialiseNow_45 : decode cX12_specialiseNow 45 = .ok (.aload_n 0, 1) := by decide +kernel
theorem dX12_specialiseNow_46 : decode cX12_specialiseNow 46 = .ok (.aload_n 0, 1) := by decide +kernel
theorem dX12_specialiseNow_47 : decode cX12_specialiseNow 47 = .ok (.getfield 99, 3) := by decide +kernel
theorem dX12_specialiseNow_50 : decode cX12_specialiseNow 50 = .ok (.aload_n 0, 1) := by decide +kernel
theorem dX12_specialiseNow_51 : decode cX12_specialiseNow 51 = .ok (.getfield 503, 3) := by decide +kernel
theorem dX12_specialiseNow_54 : decode cX12_specialiseNow 54 = .ok (.invokevirtual 667, 3) := by decide +kernel
theorem dX12_specialiseNow_57 : decode cX12_specialiseNow 57 = .ok (.istore_n 1, 1) := by decide +kernel
theorem dX12_specialiseNow_58 : decode cX12_specialiseNow 58 = .ok (.iload_n 1, 1) := by decide +kernel
theorem dX12_specialiseNow_59 : decode cX12_specialiseNow 59 = .ok (.iconst (-1), 1) := by decide +kernel
theorem dX12_specialiseNow_60 : decode cX12_specialiseNow 60 = .ok (.if_icmp .ne 10, 3) := by decide +kernel
theorem dX12_specialiseNow_63 : decode cX12_specialiseNow 63 = .ok (.aload_n 0, 1) := by decide +kernel
theorem dX12_specialiseNow_64 : decode cX12_specialiseNow 64 = .ok (.bipush (-6), 2) := by decide +kernel
theorem dX12_specialiseNow_66 : decode cX12_specialiseNow 66 = .ok (.putfield 557, 3) := by decide +kernel
theorem dX12_specialiseNow_69 : decode cX12_specialiseNow 69 = .ok (.return_, 1) := by decide +kernel
theorem dX12_specialiseNow_70 : decode cX12_specialiseNow 70 = .ok (.aload_n 0, 1) := by decide +kernel
theorem dX12_specialiseNow_71 : decode cX12_specialiseNow 71 = .ok (.iconst 0, 1) := by decide +kernel
theorem dX12_specialiseNow_72 : decode cX12_specialiseNow 72 = .ok (.invokevirtual 770, 3) := by decide +kernel
theorem dX12_specialiseNow_75 : decode cX12_specialiseNow 75 = .ok (.aload_n 0, 1) := by decide +kernel
theorem dX12_specialiseNow_76 : decode cX12_specialiseNow 76 = .ok (.aload_n 0, 1) := by decide +kernel
theorem dX12_specialiseNow_77 : decode cX12_specialiseNow 77 = .ok (.getfield 503, 3) := by decide +kernel
theorem dX12_specialiseNow_80 : decode cX12_specialiseNow 80 = .ok (.invokevirtual 739, 3) := by decide +kernel
theorem dX12_specialiseNow_83 : decode cX12_specialiseNow 83 = .ok (.aload_n 0, 1) := by decide +kernel
theorem dX12_specialiseNow_84 : decode cX12_specialiseNow 84 = .ok (.iload_n 1, 1) := by decide +kernel
theorem dX12_specialiseNow_85 : decode cX12_specialiseNow 85 = .ok (.iconst (-1), 1) := by decide +kernel
theorem dX12_specialiseNow_86 : decode cX12_specialiseNow 86 = .ok (.invokevirtual 760, 3) := by decide +kernel
theorem dX12_specialiseNow_89 : decode cX12_specialiseNow 89 = .ok (.istore_n 2, 1) := by decide +kernel
theorem dX12_specialiseNow_90 : decode cX12_specialiseNow 90 = .ok (.iconst 0, 1) := by decide +kernel
theorem dX12_specialiseNow_91 : decode cX12_specialiseNow 91 = .ok (.istore_n 3, 1) := by decide +kernel
theorem dX12_specialiseNow_92 : decode cX12_specialiseNow 92 = .ok (.iload_n 3, 1) := by decide +kernel
theorem dX12_specialiseNow_93 : decode cX12_specialiseNow 93 = .ok (.aload_n 0, 1) := by decide +kernel
theorem dX12_specialiseNow_94 : decode cX12_specialiseNow 94 = .ok (.getfield 724, 3) := by decide +kernel
theorem dX12_specialiseNow_97 : decode cX12_specialiseNow 97 = .ok (.if_icmp .ge 26, 3) := by decide +kernel
theorem dX12_specialiseNow_100 : decode cX12_specialiseNow 100 = .ok (.aload_n 0, 1) := by decide +kernel
theorem dX12_specialiseNow_101 : decode cX12_specialiseNow 101 = .ok (.getfield 557, 3) := by decide +kernel
theorem dX12_specialiseNow_104 : decode cX12_specialiseNow 104 = .ok (.ifCond .ne 19, 3) := by decide +kernel
theorem dX12_specialiseNow_107 : decode cX12_specialiseNow 107 = .ok (.aload_n 0, 1) := by decide +kernel
theorem dX12_specialiseNow_108 : decode cX12_specialiseNow 108 = .ok (.iconst 0, 1) := by decide +kernel
theorem dX12_specialiseNow_109 : decode cX12_specialiseNow 109 = .ok (.putfield 524, 3) := by decide +kernel
theorem dX12_specialiseNow_112 : decode cX12_specialiseNow 112 = .ok (.aload_n 0, 1) := by decide +kernel
theorem dX12_specialiseNow_113 : decode cX12_specialiseNow 113 = .ok (.iload_n 3, 1) := by decide +kernel
theorem dX12_specialiseNow_114 : decode cX12_specialiseNow 114 = .ok (.invokevirtual 773, 3) := by decide +kernel
theorem dX12_specialiseNow_117 : decode cX12_specialiseNow 117 = .ok (.iinc 3 1, 3) := by decide +kernel
theorem dX12_specialiseNow_120 : decode cX12_specialiseNow 120 = .ok (.goto (-28), 3) := by decide +kernel
theorem dX12_specialiseNow_123 : decode cX12_specialiseNow 123 = .ok (.return_, 1) := by decide +kernel
theorem dX12_specialise_0 : decode cX12_specialise 0 = .ok (.aload_n 0, 1) := by decide +kernel
theorem dX12_specialise_1 : decode cX12_specialise 1 = .ok (.invokevirtual 776, 3) := by decide +kernel
theorem dX12_specialise_4 : decode cX12_specialise 4 = .ok (.aload_n 0, 1) := by decide +kernel
theorem dX12_specialise_5 : decode cX12_specialise 5 = .ok (.aload_n 0, 1) := by decide +kernel
theorem dX12_specialise_6 : decode cX12_specialise 6 = .ok (.getfield 557, 3) := by decide +kernel
theorem dX12_specialise_9 : decode cX12_specialise 9 = .ok (.ifCond .ne 7, 3) := by decide +kernel
theorem dX12_specialise_12 : decode cX12_specialise 12 = .ok (.iconst 1, 1) := by decide +kernel
theorem dX12_specialise_13 : decode cX12_specialise 13 = .ok (.goto 4, 3) := by decide +kernel
theorem dX12_specialise_16 : decode cX12_specialise 16 = .ok (.iconst 0, 1) := by decide +kernel
theorem dX12_specialise_17 : decode cX12_specialise 17 = .ok (.putfield 464, 3) := by decide +kernel
theorem dX12_specialise_20 : decode cX12_specialise 20 = .ok (.aload_n 0, 1) := by decide +kernel
theorem dX12_specialise_21 : decode cX12_specialise 21 = .ok (.getfield 464, 3) := by decide +kernel
theorem dX12_specialise_24 : decode cX12_specialise 24 = .ok (.ifCond .eq 10, 3) := by decide +kernel
theorem dX12_specialise_27 : decode cX12_specialise 27 = .ok (.aload_n 0, 1) := by decide +kernel
theorem dX12_specialise_28 : decode cX12_specialise 28 = .ok (.getfield 724, 3) := by decide +kernel
theorem dX12_specialise_31 : decode cX12_specialise 31 = .ok (.goto 7, 3) := by decide +kernel
theorem dX12_specialise_34 : decode cX12_specialise 34 = .ok (.aload_n 0, 1) := by decide +kernel
theorem dX12_specialise_35 : decode cX12_specialise 35 = .ok (.getfield 557, 3) := by decide +kernel
theorem dX12_specialise_38 : decode cX12_specialise 38 = .ok (.ireturn, 1) := by decide +kernel
theorem dX12_residue_0 : decode cX12_residue 0 = .ok (.aload_n 0, 1) := by decide +kernel
theorem dX12_residue_1 : decode cX12_residue 1 = .ok (.getfield 464, 3) := by decide +kernel
theorem dX12_residue_4 : decode cX12_residue 4 = .ok (.ifCond .ne 5, 3) := by decide +kernel
theorem dX12_residue_7 : decode cX12_residue 7 = .ok (.iconst (-1), 1) := by decide +kernel
theorem dX12_residue_8 : decode cX12_residue 8 = .ok (.ireturn, 1) := by decide +kernel
theorem dX12_residue_9 : decode cX12_residue 9 = .ok (.iload_n 1, 1) := by decide +kernel
theorem dX12_residue_10 : decode cX12_residue 10 = .ok (.tableswitch 121 0 9 #[54, 59, 64, 69, 76, 83, 97, 104, 111, 116], 54) := by decide +kernel
theorem dX12_residue_64 : decode cX12_residue 64 = .ok (.aload_n 0, 1) := by decide +kernel
theorem dX12_residue_65 : decode cX12_residue 65 = .ok (.getfield 724, 3) := by decide +kernel
theorem dX12_residue_68 : decode cX12_residue 68 = .ok (.ireturn, 1) := by decide +kernel
theorem dX12_residue_69 : decode cX12_residue 69 = .ok (.aload_n 0, 1) := by decide +kernel
theorem dX12_residue_70 : decode cX12_residue 70 = .ok (.getfield 688, 3) := by decide +kernel
theorem dX12_residue_73 : decode cX12_residue 73 = .ok (.ireturn, 1) := by decide +kernel
theorem dX12_residue_74 : decode cX12_residue 74 = .ok (.aload_n 0, 1) := by decide +kernel
theorem dX12_residue_75 : decode cX12_residue 75 = .ok (.getfield 733, 3) := by decide +kernel
theorem dX12_residue_78 : decode cX12_residue 78 = .ok (.ireturn, 1) := by decide +kernel
theorem dX12_residue_79 : decode cX12_residue 79 = .ok (.aload_n 0, 1) := by decide +kernel
theorem dX12_residue_80 : decode cX12_residue 80 = .ok (.bipush 11, 2) := by decide +kernel
theorem dX12_residue_82 : decode cX12_residue 82 = .ok (.invokevirtual 782, 3) := by decide +kernel
theorem dX12_residue_85 : decode cX12_residue 85 = .ok (.ireturn, 1) := by decide +kernel
theorem dX12_residue_86 : decode cX12_residue 86 = .ok (.aload_n 0, 1) := by decide +kernel
theorem dX12_residue_87 : decode cX12_residue 87 = .ok (.bipush 7, 2) := by decide +kernel
theorem dX12_residue_89 : decode cX12_residue 89 = .ok (.invokevirtual 782, 3) := by decide +kernel
theorem dX12_residue_92 : decode cX12_residue 92 = .ok (.ireturn, 1) := by decide +kernel
theorem dX12_residue_93 : decode cX12_residue 93 = .ok (.aload_n 0, 1) := by decide +kernel
theorem dX12_residue_94 : decode cX12_residue 94 = .ok (.bipush 8, 2) := by decide +kernel
theorem dX12_residue_96 : decode cX12_residue 96 = .ok (.invokevirtual 782, 3) := by decide +kernel
theorem dX12_residue_99 : decode cX12_residue 99 = .ok (.aload_n 0, 1) := by decide +kernel
theorem dX12_residue_100 : decode cX12_residue 100 = .ok (.bipush 9, 2) := by decide +kernel
theorem dX12_residue_102 : decode cX12_residue 102 = .ok (.invokevirtual 782, 3) := by decide +kernel
theorem dX12_residue_105 : decode cX12_residue 105 = .ok (.iadd, 1) := by decide +kernel
theorem dX12_residue_106 : decode cX12_residue 106 = .ok (.ireturn, 1) := by decide +kernel
theorem dX12_residue_107 : decode cX12_residue 107 = .ok (.aload_n 0, 1) := by decide +kernel
theorem dX12_residue_108 : decode cX12_residue 108 = .ok (.bipush 10, 2) := by decide +kernel
theorem dX12_residue_110 : decode cX12_residue 110 = .ok (.invokevirtual 782, 3) := by decide +kernel
theorem dX12_residue_113 : decode cX12_residue 113 = .ok (.ireturn, 1) := by decide +kernel
theorem dX12_residue_114 : decode cX12_residue 114 = .ok (.aload_n 0, 1) := by decide +kernel
theorem dX12_residue_115 : decode cX12_residue 115 = .ok (.bipush 6, 2) := by decide +kernel
theorem dX12_residue_117 : decode cX12_residue 117 = .ok (.invokevirtual 782, 3) := by decide +kernel
theorem dX12_residue_120 : decode cX12_residue 120 = .ok (.ireturn, 1) := by decide +kernel
theorem dX12_residue_121 : decode cX12_residue 121 = .ok (.aload_n 0, 1) := by decide +kernel
theorem dX12_residue_122 : decode cX12_residue 122 = .ok (.getfield 717, 3) := by decide +kernel
theorem dX12_residue_125 : decode cX12_residue 125 = .ok (.ireturn, 1) := by decide +kernel
theorem dX12_residue_126 : decode cX12_residue 126 = .ok (.aload_n 0, 1) := by decide +kernel
theorem dX12_residue_127 : decode cX12_residue 127 = .ok (.getfield 757, 3) := by decide +kernel
theorem dX12_residue_130 : decode cX12_residue 130 = .ok (.ireturn, 1) := by decide +kernel
theorem dX12_residue_131 : decode cX12_residue 131 = .ok (.iconst (-1), 1) := by decide +kernel
theorem dX12_residue_132 : decode cX12_residue 132 = .ok (.ireturn, 1) := by decide +kernel
theorem dX12_isVariant_0 : decode cX12_isVariant 0 = .ok (.aload_n 0, 1) := by decide +kernel
theorem dX12_isVariant_1 : decode cX12_isVariant 1 = .ok (.getfield 464, 3) := by decide +kernel
theorem dX12_isVariant_4 : decode cX12_isVariant 4 = .ok (.ifCond .eq 21, 3) := by decide +kernel
theorem dX12_isVariant_7 : decode cX12_isVariant 7 = .ok (.iload_n 1, 1) := by decide +kernel
theorem dX12_isVariant_8 : decode cX12_isVariant 8 = .ok (.iconst 0, 1) := by decide +kernel
theorem dX12_isVariant_9 : decode cX12_isVariant 9 = .ok (.aload_n 0, 1) := by decide +kernel
theorem dX12_isVariant_10 : decode cX12_isVariant 10 = .ok (.getfield 724, 3) := by decide +kernel
theorem dX12_isVariant_13 : decode cX12_isVariant 13 = .ok (.iconst 1, 1) := by decide +kernel
theorem dX12_isVariant_14 : decode cX12_isVariant 14 = .ok (.isub, 1) := by decide +kernel
theorem dX12_isVariant_15 : decode cX12_isVariant 15 = .ok (.invokestatic 359, 3) := by decide +kernel
theorem dX12_isVariant_18 : decode cX12_isVariant 18 = .ok (.ifCond .eq 7, 3) := by decide +kernel
theorem dX12_isVariant_21 : decode cX12_isVariant 21 = .ok (.iconst 1, 1) := by decide +kernel
theorem dX12_isVariant_22 : decode cX12_isVariant 22 = .ok (.goto 4, 3) := by decide +kernel
theorem dX12_isVariant_25 : decode cX12_isVariant 25 = .ok (.iconst 0, 1) := by decide +kernel
theorem dX12_isVariant_26 : decode cX12_isVariant 26 = .ok (.ireturn, 1) := by decide +kernel
theorem dX12_variant_0 : decode cX12_variant 0 = .ok (.aload_n 0, 1) := by decide +kernel
theorem dX12_variant_1 : decode cX12_variant 1 = .ok (.iload_n 1, 1) := by decide +kernel
theorem dX12_variant_2 : decode cX12_variant 2 = .ok (.invokevirtual 785, 3) := by decide +kernel
theorem dX12_variant_5 : decode cX12_variant 5 = .ok (.ifCond .ne 5, 3) := by decide +kernel
theorem dX12_variant_8 : decode cX12_variant 8 = .ok (.iconst (-1), 1) := by decide +kernel
theorem dX12_variant_9 : decode cX12_variant 9 = .ok (.ireturn, 1) := by decide +kernel
theorem dX12_variant_10 : decode cX12_variant 10 = .ok (.iload_n 2, 1) := by decide +kernel
theorem dX12_variant_11 : decode cX12_variant 11 = .ok (.tableswitch 92 0 6 #[41, 53, 60, 67, 73, 80, 86], 41) := by decide +kernel
theorem dX12_variant_52 : decode cX12_variant 52 = .ok (.aload_n 0, 1) := by decide +kernel
theorem dX12_variant_53 : decode cX12_variant 53 = .ok (.getfield 17, 3) := by decide +kernel
theorem dX12_variant_56 : decode cX12_variant 56 = .ok (.aload_n 0, 1) := by decide +kernel
theorem dX12_variant_57 : decode cX12_variant 57 = .ok (.getfield 187, 3) := by decide +kernel
theorem dX12_variant_60 : decode cX12_variant 60 = .ok (.iload_n 1, 1) := by decide +kernel
theorem dX12_variant_61 : decode cX12_variant 61 = .ok (.iaload, 1) := by decide +kernel
theorem dX12_variant_62 : decode cX12_variant 62 = .ok (.iaload, 1) := by decide +kernel
theorem dX12_variant_63 : decode cX12_variant 63 = .ok (.ireturn, 1) := by decide +kernel
theorem dX12_variant_64 : decode cX12_variant 64 = .ok (.aload_n 0, 1) := by decide +kernel
theorem dX12_variant_65 : decode cX12_variant 65 = .ok (.getfield 211, 3) := by decide +kernel
theorem dX12_variant_68 : decode cX12_variant 68 = .ok (.iload_n 1, 1) := by decide +kernel
theorem dX12_variant_69 : decode cX12_variant 69 = .ok (.iaload, 1) := by decide +kernel
theorem dX12_variant_70 : decode cX12_variant 70 = .ok (.ireturn, 1) := by decide +kernel
theorem dX12_variant_71 : decode cX12_variant 71 = .ok (.aload_n 0, 1) := by decide +kernel
theorem dX12_variant_72 : decode cX12_variant 72 = .ok (.getfield 193, 3) := by decide +kernel
theorem dX12_variant_75 : decode cX12_variant 75 = .ok (.iload_n 1, 1) := by decide +kernel
theorem dX12_variant_76 : decode cX12_variant 76 = .ok (.iaload, 1) := by decide +kernel
theorem dX12_variant_77 : decode cX12_variant 77 = .ok (.ireturn, 1) := by decide +kernel
theorem dX12_variant_78 : decode cX12_variant 78 = .ok (.aload_n 0, 1) := by decide +kernel
theorem dX12_variant_79 : decode cX12_variant 79 = .ok (.iload_n 1, 1) := by decide +kernel
theorem dX12_variant_80 : decode cX12_variant 80 = .ok (.invokevirtual 788, 3) := by decide +kernel
theorem dX12_variant_83 : decode cX12_variant 83 = .ok (.ireturn, 1) := by decide +kernel
theorem dX12_variant_84 : decode cX12_variant 84 = .ok (.aload_n 0, 1) := by decide +kernel
theorem dX12_variant_85 : decode cX12_variant 85 = .ok (.getfield 214, 3) := by decide +kernel
theorem dX12_variant_88 : decode cX12_variant 88 = .ok (.iload_n 1, 1) := by decide +kernel
theorem dX12_variant_89 : decode cX12_variant 89 = .ok (.iaload, 1) := by decide +kernel
theorem dX12_variant_90 : decode cX12_variant 90 = .ok (.ireturn, 1) := by decide +kernel
theorem dX12_variant_91 : decode cX12_variant 91 = .ok (.aload_n 0, 1) := by decide +kernel
theorem dX12_variant_92 : decode cX12_variant 92 = .ok (.iload_n 1, 1) := by decide +kernel
theorem dX12_variant_93 : decode cX12_variant 93 = .ok (.invokevirtual 791, 3) := by decide +kernel
theorem dX12_variant_96 : decode cX12_variant 96 = .ok (.ireturn, 1) := by decide +kernel
theorem dX12_variant_97 : decode cX12_variant 97 = .ok (.aload_n 0, 1) := by decide +kernel
theorem dX12_variant_98 : decode cX12_variant 98 = .ok (.iload_n 1, 1) := by decide +kernel
theorem dX12_variant_99 : decode cX12_variant 99 = .ok (.invokevirtual 794, 3) := by decide +kernel
theorem dX12_variant_102 : decode cX12_variant 102 = .ok (.ireturn, 1) := by decide +kernel
theorem dX12_variant_103 : decode cX12_variant 103 = .ok (.iconst (-1), 1) := by decide +kernel
theorem dX12_variant_104 : decode cX12_variant 104 = .ok (.ireturn, 1) := by decide +kernel
theorem dX12_kinds_0 : decode cX12_kinds 0 = .ok (.aload_n 0, 1) := by decide +kernel
theorem dX12_kinds_1 : decode cX12_kinds 1 = .ok (.iload_n 1, 1) := by decide +kernel
theorem dX12_kinds_2 : decode cX12_kinds 2 = .ok (.invokevirtual 785, 3) := by decide +kernel
theorem dX12_kinds_5 : decode cX12_kinds 5 = .ok (.ifCond .eq 22, 3) := by decide +kernel
theorem dX12_kinds_8 : decode cX12_kinds 8 = .ok (.iload_n 2, 1) := by decide +kernel
theorem dX12_kinds_9 : decode cX12_kinds 9 = .ok (.iconst 0, 1) := by decide +kernel
theorem dX12_kinds_10 : decode cX12_kinds 10 = .ok (.bipush 12, 2) := by decide +kernel
theorem dX12_kinds_12 : decode cX12_kinds 12 = .ok (.invokestatic 359, 3) := by decide +kernel
theorem dX12_kinds_15 : decode cX12_kinds 15 = .ok (.ifCond .eq 12, 3) := by decide +kernel
theorem dX12_kinds_18 : decode cX12_kinds 18 = .ok (.aload_n 0, 1) := by decide +kernel
theorem dX12_kinds_19 : decode cX12_kinds 19 = .ok (.iload_n 1, 1) := by decide +kernel
theorem dX12_kinds_20 : decode cX12_kinds 20 = .ok (.iload_n 2, 1) := by decide +kernel
theorem dX12_kinds_21 : decode cX12_kinds 21 = .ok (.invokevirtual 779, 3) := by decide +kernel
theorem dX12_kinds_24 : decode cX12_kinds 24 = .ok (.goto 4, 3) := by decide +kernel
theorem dX12_kinds_27 : decode cX12_kinds 27 = .ok (.iconst (-1), 1) := by decide +kernel
theorem dX12_kinds_28 : decode cX12_kinds 28 = .ok (.ireturn, 1) := by decide +kernel
theorem dX12_beginRun_0 : decode cX12_beginRun 0 = .ok (.aload_n 0, 1) := by decide +kernel
theorem dX12_beginRun_1 : decode cX12_beginRun 1 = .ok (.iconst 0, 1) := by decide +kernel
theorem dX12_beginRun_2 : decode cX12_beginRun 2 = .ok (.putfield 524, 3) := by decide +kernel
theorem dX12_beginRun_5 : decode cX12_beginRun 5 = .ok (.aload_n 0, 1) := by decide +kernel
theorem dX12_beginRun_6 : decode cX12_beginRun 6 = .ok (.iconst 0, 1) := by decide +kernel
theorem dX12_beginRun_7 : decode cX12_beginRun 7 = .ok (.putfield 658, 3) := by decide +kernel
theorem dX12_beginRun_10 : decode cX12_beginRun 10 = .ok (.aload_n 0, 1) := by decide +kernel
theorem dX12_beginRun_11 : decode cX12_beginRun 11 = .ok (.iconst 0, 1) := by decide +kernel
theorem dX12_beginRun_12 : decode cX12_beginRun 12 = .ok (.putfield 661, 3) := by decide +kernel
theorem dX12_beginRun_15 : decode cX12_beginRun 15 = .ok (.aload_n 0, 1) := by decide +kernel
theorem dX12_beginRun_16 : decode cX12_beginRun 16 = .ok (.iconst 0, 1) := by decide +kernel
theorem dX12_beginRun_17 : decode cX12_beginRun 17 = .ok (.putfield 664, 3) := by decide +kernel
theorem dX12_beginRun_20 : decode cX12_beginRun 20 = .ok (.aload_n 0, 1) := by decide +kernel
theorem dX12_beginRun_21 : decode cX12_beginRun 21 = .ok (.iconst 0, 1) := by decide +kernel
theorem dX12_beginRun_22 : decode cX12_beginRun 22 = .ok (.putfield 649, 3) := by decide +kernel
theorem dX12_beginRun_25 : decode cX12_beginRun 25 = .ok (.aload_n 0, 1) := by decide +kernel
theorem dX12_beginRun_26 : decode cX12_beginRun 26 = .ok (.iconst 0, 1) := by decide +kernel
theorem dX12_beginRun_27 : decode cX12_beginRun 27 = .ok (.putfield 797, 3) := by decide +kernel
theorem dX12_beginRun_30 : decode cX12_beginRun 30 = .ok (.iconst 0, 1) := by decide +kernel
theorem dX12_beginRun_31 : decode cX12_beginRun 31 = .ok (.istore_n 1, 1) := by decide +kernel
theorem dX12_beginRun_32 : decode cX12_beginRun 32 = .ok (.iload_n 1, 1) := by decide +kernel
theorem dX12_beginRun_33 : decode cX12_beginRun 33 = .ok (.bipush 8, 2) := by decide +kernel
theorem dX12_beginRun_35 : decode cX12_beginRun 35 = .ok (.if_icmp .ge 16, 3) := by decide +kernel
theorem dX12_beginRun_38 : decode cX12_beginRun 38 = .ok (.aload_n 0, 1) := by decide +kernel
theorem dX12_beginRun_39 : decode cX12_beginRun 39 = .ok (.getfield 142, 3) := by decide +kernel
theorem dX12_beginRun_42 : decode cX12_beginRun 42 = .ok (.iload_n 1, 1) := by decide +kernel
theorem dX12_beginRun_43 : decode cX12_beginRun 43 = .ok (.iconst 0, 1) := by decide +kernel
theorem dX12_beginRun_44 : decode cX12_beginRun 44 = .ok (.iastore, 1) := by decide +kernel
theorem dX12_beginRun_45 : decode cX12_beginRun 45 = .ok (.iinc 1 1, 3) := by decide +kernel
theorem dX12_beginRun_48 : decode cX12_beginRun 48 = .ok (.goto (-16), 3) := by decide +kernel
theorem dX12_beginRun_51 : decode cX12_beginRun 51 = .ok (.aload_n 0, 1) := by decide +kernel
theorem dX12_beginRun_52 : decode cX12_beginRun 52 = .ok (.iconst 0, 1) := by decide +kernel
theorem dX12_beginRun_53 : decode cX12_beginRun 53 = .ok (.invokevirtual 763, 3) := by decide +kernel
theorem dX12_beginRun_56 : decode cX12_beginRun 56 = .ok (.aload_n 0, 1) := by decide +kernel
theorem dX12_beginRun_57 : decode cX12_beginRun 57 = .ok (.invokevirtual 800, 3) := by decide +kernel
theorem dX12_beginRun_60 : decode cX12_beginRun 60 = .ok (.return_, 1) := by decide +kernel
theorem dX12_endRun_0 : decode cX12_endRun 0 = .ok (.aload_n 0, 1) := by decide +kernel
theorem dX12_endRun_1 : decode cX12_endRun 1 = .ok (.getfield 235, 3) := by decide +kernel
theorem dX12_endRun_4 : decode cX12_endRun 4 = .ok (.iconst 0, 1) := by decide +kernel
theorem dX12_endRun_5 : decode cX12_endRun 5 = .ok (.aload_n 0, 1) := by decide +kernel
theorem dX12_endRun_6 : decode cX12_endRun 6 = .ok (.getfield 557, 3) := by decide +kernel
theorem dX12_endRun_9 : decode cX12_endRun 9 = .ok (.iastore, 1) := by decide +kernel
theorem dX12_endRun_10 : decode cX12_endRun 10 = .ok (.aload_n 0, 1) := by decide +kernel
theorem dX12_endRun_11 : decode cX12_endRun 11 = .ok (.getfield 235, 3) := by decide +kernel
theorem dX12_endRun_14 : decode cX12_endRun 14 = .ok (.iconst 1, 1) := by decide +kernel
theorem dX12_endRun_15 : decode cX12_endRun 15 = .ok (.aload_n 0, 1) := by decide +kernel
theorem dX12_endRun_16 : decode cX12_endRun 16 = .ok (.getfield 658, 3) := by decide +kernel
theorem dX12_endRun_19 : decode cX12_endRun 19 = .ok (.iastore, 1) := by decide +kernel
theorem dX12_endRun_20 : decode cX12_endRun 20 = .ok (.aload_n 0, 1) := by decide +kernel
theorem dX12_endRun_21 : decode cX12_endRun 21 = .ok (.getfield 235, 3) := by decide +kernel
theorem dX12_endRun_24 : decode cX12_endRun 24 = .ok (.iconst 2, 1) := by decide +kernel
theorem dX12_endRun_25 : decode cX12_endRun 25 = .ok (.aload_n 0, 1) := by decide +kernel
theorem dX12_endRun_26 : decode cX12_endRun 26 = .ok (.getfield 649, 3) := by decide +kernel
theorem dX12_endRun_29 : decode cX12_endRun 29 = .ok (.iastore, 1) := by decide +kernel
theorem dX12_endRun_30 : decode cX12_endRun 30 = .ok (.aload_n 0, 1) := by decide +kernel
theorem dX12_endRun_31 : decode cX12_endRun 31 = .ok (.getfield 235, 3) := by decide +kernel
theorem dX12_endRun_34 : decode cX12_endRun 34 = .ok (.iconst 3, 1) := by decide +kernel
theorem dX12_endRun_35 : decode cX12_endRun 35 = .ok (.aload_n 0, 1) := by decide +kernel
theorem dX12_endRun_36 : decode cX12_endRun 36 = .ok (.getfield 557, 3) := by decide +kernel
theorem dX12_endRun_39 : decode cX12_endRun 39 = .ok (.ifCond .ne 12, 3) := by decide +kernel
theorem dX12_endRun_42 : decode cX12_endRun 42 = .ok (.aload_n 0, 1) := by decide +kernel
theorem dX12_endRun_43 : decode cX12_endRun 43 = .ok (.getfield 115, 3) := by decide +kernel
theorem dX12_endRun_46 : decode cX12_endRun 46 = .ok (.iload_n 1, 1) := by decide +kernel
theorem dX12_endRun_47 : decode cX12_endRun 47 = .ok (.iaload, 1) := by decide +kernel
theorem dX12_endRun_48 : decode cX12_endRun 48 = .ok (.goto 4, 3) := by decide +kernel
theorem dX12_endRun_51 : decode cX12_endRun 51 = .ok (.iconst 0, 1) := by decide +kernel
theorem dX12_endRun_52 : decode cX12_endRun 52 = .ok (.iastore, 1) := by decide +kernel
theorem dX12_endRun_53 : decode cX12_endRun 53 = .ok (.aload_n 0, 1) := by decide +kernel
theorem dX12_endRun_54 : decode cX12_endRun 54 = .ok (.getfield 235, 3) := by decide +kernel
theorem dX12_endRun_57 : decode cX12_endRun 57 = .ok (.iconst 4, 1) := by decide +kernel
theorem dX12_endRun_58 : decode cX12_endRun 58 = .ok (.aload_n 0, 1) := by decide +kernel
theorem dX12_endRun_59 : decode cX12_endRun 59 = .ok (.getfield 557, 3) := by decide +kernel
theorem dX12_endRun_62 : decode cX12_endRun 62 = .ok (.ifCond .ne 12, 3) := by decide +kernel
theorem dX12_endRun_65 : decode cX12_endRun 65 = .ok (.aload_n 0, 1) := by decide +kernel
theorem dX12_endRun_66 : decode cX12_endRun 66 = .ok (.getfield 118, 3) := by decide +kernel
theorem dX12_endRun_69 : decode cX12_endRun 69 = .ok (.iload_n 1, 1) := by decide +kernel
theorem dX12_endRun_70 : decode cX12_endRun 70 = .ok (.iaload, 1) := by decide +kernel
theorem dX12_endRun_71 : decode cX12_endRun 71 = .ok (.goto 4, 3) := by decide +kernel
theorem dX12_endRun_74 : decode cX12_endRun 74 = .ok (.iconst 0, 1) := by decide +kernel
theorem dX12_endRun_75 : decode cX12_endRun 75 = .ok (.iastore, 1) := by decide +kernel
theorem dX12_endRun_76 : decode cX12_endRun 76 = .ok (.aload_n 0, 1) := by decide +kernel
theorem dX12_endRun_77 : decode cX12_endRun 77 = .ok (.getfield 235, 3) := by decide +kernel
theorem dX12_endRun_80 : decode cX12_endRun 80 = .ok (.iconst 5, 1) := by decide +kernel
theorem dX12_endRun_81 : decode cX12_endRun 81 = .ok (.aload_n 0, 1) := by decide +kernel
theorem dX12_endRun_82 : decode cX12_endRun 82 = .ok (.getfield 664, 3) := by decide +kernel
theorem dX12_endRun_85 : decode cX12_endRun 85 = .ok (.iastore, 1) := by decide +kernel
theorem dX12_endRun_86 : decode cX12_endRun 86 = .ok (.aload_n 0, 1) := by decide +kernel
theorem dX12_endRun_87 : decode cX12_endRun 87 = .ok (.getfield 557, 3) := by decide +kernel
theorem dX12_endRun_90 : decode cX12_endRun 90 = .ok (.ifCond .ne 8, 3) := by decide +kernel
theorem dX12_endRun_93 : decode cX12_endRun 93 = .ok (.aload_n 0, 1) := by decide +kernel
theorem dX12_endRun_94 : decode cX12_endRun 94 = .ok (.iload_n 1, 1) := by decide +kernel
theorem dX12_endRun_95 : decode cX12_endRun 95 = .ok (.invokevirtual 803, 3) := by decide +kernel
theorem dX12_endRun_98 : decode cX12_endRun 98 = .ok (.return_, 1) := by decide +kernel
theorem dX12_runTask_0 : decode cX12_runTask 0 = .ok (.aload_n 0, 1) := by decide +kernel
theorem dX12_runTask_1 : decode cX12_runTask 1 = .ok (.invokevirtual 806, 3) := by decide +kernel
theorem dX12_runTask_4 : decode cX12_runTask 4 = .ok (.aload_n 0, 1) := by decide +kernel
theorem dX12_runTask_5 : decode cX12_runTask 5 = .ok (.iconst 1, 1) := by decide +kernel
theorem dX12_runTask_6 : decode cX12_runTask 6 = .ok (.invokevirtual 770, 3) := by decide +kernel
theorem dX12_runTask_9 : decode cX12_runTask 9 = .ok (.iconst 0, 1) := by decide +kernel
theorem dX12_runTask_10 : decode cX12_runTask 10 = .ok (.istore_n 1, 1) := by decide +kernel
theorem dX12_runTask_11 : decode cX12_runTask 11 = .ok (.iload_n 1, 1) := by decide +kernel
theorem dX12_runTask_12 : decode cX12_runTask 12 = .ok (.aload_n 0, 1) := by decide +kernel
theorem dX12_runTask_13 : decode cX12_runTask 13 = .ok (.getfield 503, 3) := by decide +kernel
theorem dX12_runTask_16 : decode cX12_runTask 16 = .ok (.if_icmp .ge 30, 3) := by decide +kernel
theorem dX12_runTask_19 : decode cX12_runTask 19 = .ok (.aload_n 0, 1) := by decide +kernel
theorem dX12_runTask_20 : decode cX12_runTask 20 = .ok (.getfield 115, 3) := by decide +kernel
theorem dX12_runTask_23 : decode cX12_runTask 23 = .ok (.aload_n 0, 1) := by decide +kernel
theorem dX12_runTask_24 : decode cX12_runTask 24 = .ok (.getfield 151, 3) := by decide +kernel
theorem dX12_runTask_27 : decode cX12_runTask 27 = .ok (.iload_n 1, 1) := by decide +kernel
theorem dX12_runTask_28 : decode cX12_runTask 28 = .ok (.iaload, 1) := by decide +kernel
theorem dX12_runTask_29 : decode cX12_runTask 29 = .ok (.iaload, 1) := by decide +kernel
theorem dX12_runTask_30 : decode cX12_runTask 30 = .ok (.bipush 40, 2) := by decide +kernel
theorem dX12_runTask_32 : decode cX12_runTask 32 = .ok (.if_icmp .le 8, 3) := by decide +kernel
theorem dX12_runTask_35 : decode cX12_runTask 35 = .ok (.aload_n 0, 1) := by decide +kernel
theorem dX12_runTask_36 : decode cX12_runTask 36 = .ok (.iconst 2, 1) := by decide +kernel
theorem dX12_runTask_37 : decode cX12_runTask 37 = .ok (.putfield 557, 3) := by decide +kernel
theorem dX12_runTask_40 : decode cX12_runTask 40 = .ok (.iinc 1 1, 3) := by decide +kernel
theorem dX12_runTask_43 : decode cX12_runTask 43 = .ok (.goto (-32), 3) := by decide +kernel
theorem dX12_runTask_46 : decode cX12_runTask 46 = .ok (.aload_n 0, 1) := by decide +kernel
theorem dX12_runTask_47 : decode cX12_runTask 47 = .ok (.aload_n 0, 1) := by decide +kernel
theorem dX12_runTask_48 : decode cX12_runTask 48 = .ok (.getfield 99, 3) := by decide +kernel
theorem dX12_runTask_51 : decode cX12_runTask 51 = .ok (.aload_n 0, 1) := by decide +kernel
theorem dX12_runTask_52 : decode cX12_runTask 52 = .ok (.getfield 503, 3) := by decide +kernel
theorem dX12_runTask_55 : decode cX12_runTask 55 = .ok (.invokevirtual 667, 3) := by decide +kernel
theorem dX12_runTask_58 : decode cX12_runTask 58 = .ok (.istore_n 1, 1) := by decide +kernel
theorem dX12_runTask_59 : decode cX12_runTask 59 = .ok (.aload_n 0, 1) := by decide +kernel
theorem dX12_runTask_60 : decode cX12_runTask 60 = .ok (.getfield 557, 3) := by decide +kernel
theorem dX12_runTask_63 : decode cX12_runTask 63 = .ok (.ifCond .ne 13, 3) := by decide +kernel
theorem dX12_runTask_66 : decode cX12_runTask 66 = .ok (.iload_n 1, 1) := by decide +kernel
theorem dX12_runTask_67 : decode cX12_runTask 67 = .ok (.iconst (-1), 1) := by decide +kernel
theorem dX12_runTask_68 : decode cX12_runTask 68 = .ok (.if_icmp .ne 8, 3) := by decide +kernel
theorem dX12_runTask_71 : decode cX12_runTask 71 = .ok (.aload_n 0, 1) := by decide +kernel
theorem dX12_runTask_72 : decode cX12_runTask 72 = .ok (.iconst 4, 1) := by decide +kernel
theorem dX12_runTask_73 : decode cX12_runTask 73 = .ok (.putfield 557, 3) := by decide +kernel
theorem dX12_runTask_76 : decode cX12_runTask 76 = .ok (.aload_n 0, 1) := by decide +kernel
theorem dX12_runTask_77 : decode cX12_runTask 77 = .ok (.getfield 557, 3) := by decide +kernel
theorem dX12_runTask_80 : decode cX12_runTask 80 = .ok (.ifCond .ne 19, 3) := by decide +kernel
theorem dX12_runTask_83 : decode cX12_runTask 83 = .ok (.aload_n 0, 1) := by decide +kernel
theorem dX12_runTask_84 : decode cX12_runTask 84 = .ok (.invokevirtual 673, 3) := by decide +kernel
theorem dX12_runTask_87 : decode cX12_runTask 87 = .ok (.ifCond .eq 12, 3) := by decide +kernel
theorem dX12_runTask_90 : decode cX12_runTask 90 = .ok (.aload_n 0, 1) := by decide +kernel
theorem dX12_runTask_91 : decode cX12_runTask 91 = .ok (.iload_n 1, 1) := by decide +kernel
theorem dX12_runTask_92 : decode cX12_runTask 92 = .ok (.invokevirtual 676, 3) := by decide +kernel
theorem dX12_runTask_95 : decode cX12_runTask 95 = .ok (.aload_n 0, 1) := by decide +kernel
theorem dX12_runTask_96 : decode cX12_runTask 96 = .ok (.invokevirtual 767, 3) := by decide +kernel
theorem dX12_runTask_99 : decode cX12_runTask 99 = .ok (.aload_n 0, 1) := by decide +kernel
theorem dX12_runTask_100 : decode cX12_runTask 100 = .ok (.aload_n 0, 1) := by decide +kernel
theorem dX12_runTask_101 : decode cX12_runTask 101 = .ok (.getfield 557, 3) := by decide +kernel
theorem dX12_runTask_104 : decode cX12_runTask 104 = .ok (.ifCond .ne 10, 3) := by decide +kernel
theorem dX12_runTask_107 : decode cX12_runTask 107 = .ok (.aload_n 0, 1) := by decide +kernel
theorem dX12_runTask_108 : decode cX12_runTask 108 = .ok (.invokevirtual 594, 3) := by decide +kernel
theorem dX12_runTask_111 : decode cX12_runTask 111 = .ok (.goto 4, 3) := by decide +kernel
theorem dX12_runTask_114 : decode cX12_runTask 114 = .ok (.iconst (-1), 1) := by decide +kernel
theorem dX12_runTask_115 : decode cX12_runTask 115 = .ok (.invokevirtual 809, 3) := by decide +kernel
theorem dX12_runTask_118 : decode cX12_runTask 118 = .ok (.return_, 1) := by decide +kernel
theorem dX12_canRun_0 : decode cX12_canRun 0 = .ok (.iload_n 1, 1) := by decide +kernel
theorem dX12_canRun_1 : decode cX12_canRun 1 = .ok (.ifCond .eq 15, 3) := by decide +kernel
theorem dX12_canRun_4 : decode cX12_canRun 4 = .ok (.iload_n 1, 1) := by decide +kernel
theorem dX12_canRun_5 : decode cX12_canRun 5 = .ok (.iconst 1, 1) := by decide +kernel
theorem dX12_canRun_6 : decode cX12_canRun 6 = .ok (.if_icmp .ne 25, 3) := by decide +kernel
theorem dX12_canRun_9 : decode cX12_canRun 9 = .ok (.aload_n 0, 1) := by decide +kernel
theorem dX12_canRun_10 : decode cX12_canRun 10 = .ok (.getfield 464, 3) := by decide +kernel
theorem dX12_canRun_13 : decode cX12_canRun 13 = .ok (.ifCond .eq 18, 3) := by decide +kernel
theorem dX12_canRun_16 : decode cX12_canRun 16 = .ok (.aload_n 0, 1) := by decide +kernel
theorem dX12_canRun_17 : decode cX12_canRun 17 = .ok (.getfield 512, 3) := by decide +kernel
theorem dX12_canRun_20 : decode cX12_canRun 20 = .ok (.aload_n 0, 1) := by decide +kernel
theorem dX12_canRun_21 : decode cX12_canRun 21 = .ok (.getfield 509, 3) := by decide +kernel
theorem dX12_canRun_24 : decode cX12_canRun 24 = .ok (.if_icmp .ne 7, 3) := by decide +kernel
theorem dX12_canRun_27 : decode cX12_canRun 27 = .ok (.iconst 1, 1) := by decide +kernel
theorem dX12_canRun_28 : decode cX12_canRun 28 = .ok (.goto 4, 3) := by decide +kernel
theorem dX12_canRun_31 : decode cX12_canRun 31 = .ok (.iconst 0, 1) := by decide +kernel
theorem dX12_canRun_32 : decode cX12_canRun 32 = .ok (.ireturn, 1) := by decide +kernel
theorem dX12_runNow_0 : decode cX12_runNow 0 = .ok (.iload_n 1, 1) := by decide +kernel
theorem dX12_runNow_1 : decode cX12_runNow 1 = .ok (.ifCond .ne 10, 3) := by decide +kernel
theorem dX12_runNow_4 : decode cX12_runNow 4 = .ok (.aload_n 0, 1) := by decide +kernel
theorem dX12_runNow_5 : decode cX12_runNow 5 = .ok (.invokevirtual 833, 3) := by decide +kernel
theorem dX12_runNow_8 : decode cX12_runNow 8 = .ok (.goto 7, 3) := by decide +kernel
theorem dX12_runNow_11 : decode cX12_runNow 11 = .ok (.aload_n 0, 1) := by decide +kernel
theorem dX12_runNow_12 : decode cX12_runNow 12 = .ok (.invokevirtual 836, 3) := by decide +kernel
theorem dX12_runNow_15 : decode cX12_runNow 15 = .ok (.return_, 1) := by decide +kernel
theorem dX12_run_0 : decode cX12_run 0 = .ok (.aload_n 0, 1) := by decide +kernel
theorem dX12_run_1 : decode cX12_run 1 = .ok (.iload_n 1, 1) := by decide +kernel
theorem dX12_run_2 : decode cX12_run 2 = .ok (.invokevirtual 839, 3) := by decide +kernel
theorem dX12_run_5 : decode cX12_run 5 = .ok (.ifCond .eq 12, 3) := by decide +kernel
theorem dX12_run_8 : decode cX12_run 8 = .ok (.iload_n 2, 1) := by decide +kernel
theorem dX12_run_9 : decode cX12_run 9 = .ok (.iconst 0, 1) := by decide +kernel
theorem dX12_run_10 : decode cX12_run 10 = .ok (.iconst 5, 1) := by decide +kernel
theorem dX12_run_11 : decode cX12_run 11 = .ok (.invokestatic 359, 3) := by decide +kernel
theorem dX12_run_14 : decode cX12_run 14 = .ok (.ifCond .ne 5, 3) := by decide +kernel
theorem dX12_run_17 : decode cX12_run 17 = .ok (.iconst (-1), 1) := by decide +kernel
theorem dX12_run_18 : decode cX12_run 18 = .ok (.ireturn, 1) := by decide +kernel
theorem dX12_run_19 : decode cX12_run 19 = .ok (.aload_n 0, 1) := by decide +kernel
theorem dX12_run_20 : decode cX12_run 20 = .ok (.iload_n 1, 1) := by decide +kernel
theorem dX12_run_21 : decode cX12_run 21 = .ok (.invokevirtual 842, 3) := by decide +kernel
theorem dX12_run_24 : decode cX12_run 24 = .ok (.aload_n 0, 1) := by decide +kernel
theorem dX12_run_25 : decode cX12_run 25 = .ok (.aload_n 0, 1) := by decide +kernel
theorem dX12_run_26 : decode cX12_run 26 = .ok (.getfield 649, 3) := by decide +kernel
theorem dX12_run_29 : decode cX12_run 29 = .ok (.bipush 60, 2) := by decide +kernel
theorem dX12_run_31 : decode cX12_run 31 = .ok (.if_icmp .ge 10, 3) := by decide +kernel
theorem dX12_run_34 : decode cX12_run 34 = .ok (.aload_n 0, 1) := by decide +kernel
theorem dX12_run_35 : decode cX12_run 35 = .ok (.getfield 649, 3) := by decide +kernel
theorem dX12_run_38 : decode cX12_run 38 = .ok (.goto 5, 3) := by decide +kernel
theorem dX12_run_41 : decode cX12_run 41 = .ok (.bipush 60, 2) := by decide +kernel
theorem dX12_run_43 : decode cX12_run 43 = .ok (.putfield 845, 3) := by decide +kernel
theorem dX12_run_46 : decode cX12_run 46 = .ok (.aload_n 0, 1) := by decide +kernel
theorem dX12_run_47 : decode cX12_run 47 = .ok (.getfield 145, 3) := by decide +kernel
theorem dX12_run_50 : decode cX12_run 50 = .ok (.iconst 0, 1) := by decide +kernel
theorem dX12_run_51 : decode cX12_run 51 = .ok (.aload_n 0, 1) := by decide +kernel
theorem dX12_run_52 : decode cX12_run 52 = .ok (.getfield 845, 3) := by decide +kernel
theorem dX12_run_55 : decode cX12_run 55 = .ok (.aload_n 0, 1) := by decide +kernel
theorem dX12_run_56 : decode cX12_run 56 = .ok (.getfield 253, 3) := by decide +kernel
theorem dX12_run_59 : decode cX12_run 59 = .ok (.iconst 0, 1) := by decide +kernel
theorem dX12_run_60 : decode cX12_run 60 = .ok (.invokestatic 471, 3) := by decide +kernel
theorem dX12_run_63 : decode cX12_run 63 = .ok (.aload_n 0, 1) := by decide +kernel
theorem dX12_run_64 : decode cX12_run 64 = .ok (.getfield 148, 3) := by decide +kernel
theorem dX12_run_67 : decode cX12_run 67 = .ok (.iconst 0, 1) := by decide +kernel
theorem dX12_run_68 : decode cX12_run 68 = .ok (.aload_n 0, 1) := by decide +kernel
theorem dX12_run_69 : decode cX12_run 69 = .ok (.getfield 845, 3) := by decide +kernel
theorem dX12_run_72 : decode cX12_run 72 = .ok (.aload_n 0, 1) := by decide +kernel
theorem dX12_run_73 : decode cX12_run 73 = .ok (.getfield 256, 3) := by decide +kernel
theorem dX12_run_76 : decode cX12_run 76 = .ok (.iconst 0, 1) := by decide +kernel
theorem dX12_run_77 : decode cX12_run 77 = .ok (.invokestatic 471, 3) := by decide +kernel
theorem dX12_run_80 : decode cX12_run 80 = .ok (.aload_n 0, 1) := by decide +kernel
theorem dX12_run_81 : decode cX12_run 81 = .ok (.getfield 142, 3) := by decide +kernel
theorem dX12_run_84 : decode cX12_run 84 = .ok (.iconst 0, 1) := by decide +kernel
theorem dX12_run_85 : decode cX12_run 85 = .ok (.bipush 8, 2) := by decide +kernel
theorem dX12_run_87 : decode cX12_run 87 = .ok (.aload_n 0, 1) := by decide +kernel
theorem dX12_run_88 : decode cX12_run 88 = .ok (.getfield 259, 3) := by decide +kernel
theorem dX12_run_91 : decode cX12_run 91 = .ok (.iconst 0, 1) := by decide +kernel
theorem dX12_run_92 : decode cX12_run 92 = .ok (.invokestatic 471, 3) := by decide +kernel
theorem dX12_run_95 : decode cX12_run 95 = .ok (.aload_n 0, 1) := by decide +kernel
theorem dX12_run_96 : decode cX12_run 96 = .ok (.getfield 557, 3) := by decide +kernel
theorem dX12_run_99 : decode cX12_run 99 = .ok (.ifCond .ne 45, 3) := by decide +kernel
theorem dX12_run_102 : decode cX12_run 102 = .ok (.aload_n 0, 1) := by decide +kernel
theorem dX12_run_103 : decode cX12_run 103 = .ok (.aload_n 0, 1) := by decide +kernel
theorem dX12_run_104 : decode cX12_run 104 = .ok (.getfield 797, 3) := by decide +kernel
theorem dX12_run_107 : decode cX12_run 107 = .ok (.putfield 848, 3) := by decide +kernel
theorem dX12_run_110 : decode cX12_run 110 = .ok (.aload_n 0, 1) := by decide +kernel
theorem dX12_run_111 : decode cX12_run 111 = .ok (.getfield 238, 3) := by decide +kernel
theorem dX12_run_114 : decode cX12_run 114 = .ok (.iconst 0, 1) := by decide +kernel
theorem dX12_run_115 : decode cX12_run 115 = .ok (.aload_n 0, 1) := by decide +kernel
theorem dX12_run_116 : decode cX12_run 116 = .ok (.getfield 797, 3) := by decide +kernel
theorem dX12_run_119 : decode cX12_run 119 = .ok (.aload_n 0, 1) := by decide +kernel
theorem dX12_run_120 : decode cX12_run 120 = .ok (.getfield 262, 3) := by decide +kernel
theorem dX12_run_123 : decode cX12_run 123 = .ok (.iconst 0, 1) := by decide +kernel
theorem dX12_run_124 : decode cX12_run 124 = .ok (.invokestatic 471, 3) := by decide +kernel
theorem dX12_run_127 : decode cX12_run 127 = .ok (.aload_n 0, 1) := by decide +kernel
theorem dX12_run_128 : decode cX12_run 128 = .ok (.getfield 241, 3) := by decide +kernel
theorem dX12_run_131 : decode cX12_run 131 = .ok (.iconst 0, 1) := by decide +kernel
theorem dX12_run_132 : decode cX12_run 132 = .ok (.aload_n 0, 1) := by decide +kernel
theorem dX12_run_133 : decode cX12_run 133 = .ok (.getfield 797, 3) := by decide +kernel
theorem dX12_run_136 : decode cX12_run 136 = .ok (.aload_n 0, 1) := by decide +kernel
theorem dX12_run_137 : decode cX12_run 137 = .ok (.getfield 265, 3) := by decide +kernel
theorem dX12_run_140 : decode cX12_run 140 = .ok (.iconst 0, 1) := by decide +kernel
theorem dX12_run_141 : decode cX12_run 141 = .ok (.invokestatic 471, 3) := by decide +kernel
theorem dX12_run_144 : decode cX12_run 144 = .ok (.aload_n 0, 1) := by decide +kernel
theorem dX12_run_145 : decode cX12_run 145 = .ok (.getfield 235, 3) := by decide +kernel
theorem dX12_run_148 : decode cX12_run 148 = .ok (.iload_n 2, 1) := by decide +kernel
theorem dX12_run_149 : decode cX12_run 149 = .ok (.iaload, 1) := by decide +kernel
theorem dX12_run_150 : decode cX12_run 150 = .ok (.ireturn, 1) := by decide +kernel
theorem dX12_output_0 : decode cX12_output 0 = .ok (.iload_n 1, 1) := by decide +kernel
theorem dX12_output_1 : decode cX12_output 1 = .ok (.iconst 0, 1) := by decide +kernel
theorem dX12_output_2 : decode cX12_output 2 = .ok (.aload_n 0, 1) := by decide +kernel
theorem dX12_output_3 : decode cX12_output 3 = .ok (.getfield 845, 3) := by decide +kernel
theorem dX12_output_6 : decode cX12_output 6 = .ok (.iconst 1, 1) := by decide +kernel
theorem dX12_output_7 : decode cX12_output 7 = .ok (.isub, 1) := by decide +kernel
theorem dX12_output_8 : decode cX12_output 8 = .ok (.invokestatic 359, 3) := by decide +kernel
theorem dX12_output_11 : decode cX12_output 11 = .ok (.ifCond .eq 34, 3) := by decide +kernel
theorem dX12_output_14 : decode cX12_output 14 = .ok (.iload_n 2, 1) := by decide +kernel
theorem dX12_output_15 : decode cX12_output 15 = .ok (.iconst 0, 1) := by decide +kernel
theorem dX12_output_16 : decode cX12_output 16 = .ok (.iconst 1, 1) := by decide +kernel
theorem dX12_output_17 : decode cX12_output 17 = .ok (.invokestatic 359, 3) := by decide +kernel
theorem dX12_output_20 : decode cX12_output 20 = .ok (.ifCond .eq 25, 3) := by decide +kernel
theorem dX12_output_23 : decode cX12_output 23 = .ok (.iload_n 2, 1) := by decide +kernel
theorem dX12_output_24 : decode cX12_output 24 = .ok (.ifCond .ne 12, 3) := by decide +kernel
theorem dX12_output_27 : decode cX12_output 27 = .ok (.aload_n 0, 1) := by decide +kernel
theorem dX12_output_28 : decode cX12_output 28 = .ok (.getfield 253, 3) := by decide +kernel
theorem dX12_output_31 : decode cX12_output 31 = .ok (.iload_n 1, 1) := by decide +kernel
theorem dX12_output_32 : decode cX12_output 32 = .ok (.iaload, 1) := by decide +kernel
theorem dX12_output_33 : decode cX12_output 33 = .ok (.goto 13, 3) := by decide +kernel
theorem dX12_output_36 : decode cX12_output 36 = .ok (.aload_n 0, 1) := by decide +kernel
theorem dX12_output_37 : decode cX12_output 37 = .ok (.getfield 256, 3) := by decide +kernel
theorem dX12_output_40 : decode cX12_output 40 = .ok (.iload_n 1, 1) := by decide +kernel
theorem dX12_output_41 : decode cX12_output 41 = .ok (.iaload, 1) := by decide +kernel
theorem dX12_output_42 : decode cX12_output 42 = .ok (.goto 4, 3) := by decide +kernel
theorem dX12_output_45 : decode cX12_output 45 = .ok (.iconst (-1), 1) := by decide +kernel
theorem dX12_output_46 : decode cX12_output 46 = .ok (.ireturn, 1) := by decide +kernel
theorem dX12_place_0 : decode cX12_place 0 = .ok (.iload_n 1, 1) := by decide +kernel
theorem dX12_place_1 : decode cX12_place 1 = .ok (.iconst 0, 1) := by decide +kernel
theorem dX12_place_2 : decode cX12_place 2 = .ok (.bipush 7, 2) := by decide +kernel
theorem dX12_place_4 : decode cX12_place 4 = .ok (.invokestatic 359, 3) := by decide +kernel
theorem dX12_place_7 : decode cX12_place 7 = .ok (.ifCond .eq 12, 3) := by decide +kernel
theorem dX12_place_10 : decode cX12_place 10 = .ok (.aload_n 0, 1) := by decide +kernel
theorem dX12_place_11 : decode cX12_place 11 = .ok (.getfield 259, 3) := by decide +kernel
theorem dX12_place_14 : decode cX12_place 14 = .ok (.iload_n 1, 1) := by decide +kernel
theorem dX12_place_15 : decode cX12_place 15 = .ok (.iaload, 1) := by decide +kernel
theorem dX12_place_16 : decode cX12_place 16 = .ok (.goto 4, 3) := by decide +kernel
theorem dX12_place_19 : decode cX12_place 19 = .ok (.iconst 0, 1) := by decide +kernel
theorem dX12_place_20 : decode cX12_place 20 = .ok (.ireturn, 1) := by decide +kernel
theorem dX12_agree_0 : decode cX12_agree 0 = .ok (.aload_n 0, 1) := by decide +kernel
theorem dX12_agree_1 : decode cX12_agree 1 = .ok (.iconst 0, 1) := by decide +kernel
theorem dX12_agree_2 : decode cX12_agree 2 = .ok (.invokevirtual 839, 3) := by decide +kernel
theorem dX12_agree_5 : decode cX12_agree 5 = .ok (.ifCond .eq 11, 3) := by decide +kernel
theorem dX12_agree_8 : decode cX12_agree 8 = .ok (.aload_n 0, 1) := by decide +kernel
theorem dX12_agree_9 : decode cX12_agree 9 = .ok (.iconst 1, 1) := by decide +kernel
theorem dX12_agree_10 : decode cX12_agree 10 = .ok (.invokevirtual 839, 3) := by decide +kernel
theorem dX12_agree_13 : decode cX12_agree 13 = .ok (.ifCond .ne 5, 3) := by decide +kernel
theorem dX12_agree_16 : decode cX12_agree 16 = .ok (.iconst (-1), 1) := by decide +kernel
theorem dX12_agree_17 : decode cX12_agree 17 = .ok (.ireturn, 1) := by decide +kernel
theorem dX12_agree_18 : decode cX12_agree 18 = .ok (.aload_n 0, 1) := by decide +kernel
theorem dX12_agree_19 : decode cX12_agree 19 = .ok (.invokevirtual 833, 3) := by decide +kernel
theorem dX12_agree_22 : decode cX12_agree 22 = .ok (.aload_n 0, 1) := by decide +kernel
theorem dX12_agree_23 : decode cX12_agree 23 = .ok (.getfield 649, 3) := by decide +kernel
theorem dX12_agree_26 : decode cX12_agree 26 = .ok (.bipush 60, 2) := by decide +kernel
theorem dX12_agree_28 : decode cX12_agree 28 = .ok (.if_icmp .ge 10, 3) := by decide +kernel
theorem dX12_agree_31 : decode cX12_agree 31 = .ok (.aload_n 0, 1) := by decide +kernel
theorem dX12_agree_32 : decode cX12_agree 32 = .ok (.getfield 649, 3) := by decide +kernel
theorem dX12_agree_35 : decode cX12_agree 35 = .ok (.goto 5, 3) := by decide +kernel
theorem dX12_agree_38 : decode cX12_agree 38 = .ok (.bipush 60, 2) := by decide +kernel
theorem dX12_agree_40 : decode cX12_agree 40 = .ok (.istore_n 1, 1) := by decide +kernel
theorem dX12_agree_41 : decode cX12_agree 41 = .ok (.aload_n 0, 1) := by decide +kernel
theorem dX12_agree_42 : decode cX12_agree 42 = .ok (.getfield 145, 3) := by decide +kernel
theorem dX12_agree_45 : decode cX12_agree 45 = .ok (.iconst 0, 1) := by decide +kernel
theorem dX12_agree_46 : decode cX12_agree 46 = .ok (.iload_n 1, 1) := by decide +kernel
theorem dX12_agree_47 : decode cX12_agree 47 = .ok (.aload_n 0, 1) := by decide +kernel
theorem dX12_agree_48 : decode cX12_agree 48 = .ok (.getfield 268, 3) := by decide +kernel
theorem dX12_agree_51 : decode cX12_agree 51 = .ok (.iconst 0, 1) := by decide +kernel
theorem dX12_agree_52 : decode cX12_agree 52 = .ok (.invokestatic 471, 3) := by decide +kernel
theorem dX12_agree_55 : decode cX12_agree 55 = .ok (.aload_n 0, 1) := by decide +kernel
theorem dX12_agree_56 : decode cX12_agree 56 = .ok (.getfield 148, 3) := by decide +kernel
theorem dX12_agree_59 : decode cX12_agree 59 = .ok (.iconst 0, 1) := by decide +kernel
theorem dX12_agree_60 : decode cX12_agree 60 = .ok (.iload_n 1, 1) := by decide +kernel
theorem dX12_agree_61 : decode cX12_agree 61 = .ok (.aload_n 0, 1) := by decide +kernel
theorem dX12_agree_62 : decode cX12_agree 62 = .ok (.getfield 271, 3) := by decide +kernel
theorem dX12_agree_65 : decode cX12_agree 65 = .ok (.iconst 0, 1) := by decide +kernel
theorem dX12_agree_66 : decode cX12_agree 66 = .ok (.invokestatic 471, 3) := by decide +kernel
theorem dX12_agree_69 : decode cX12_agree 69 = .ok (.aload_n 0, 1) := by decide +kernel
theorem dX12_agree_70 : decode cX12_agree 70 = .ok (.getfield 238, 3) := by decide +kernel
theorem dX12_agree_73 : decode cX12_agree 73 = .ok (.iconst 0, 1) := by decide +kernel
theorem dX12_agree_74 : decode cX12_agree 74 = .ok (.aload_n 0, 1) := by decide +kernel
theorem dX12_agree_75 : decode cX12_agree 75 = .ok (.getfield 797, 3) := by decide +kernel
theorem dX12_agree_78 : decode cX12_agree 78 = .ok (.aload_n 0, 1) := by decide +kernel
theorem dX12_agree_79 : decode cX12_agree 79 = .ok (.getfield 268, 3) := by decide +kernel
theorem dX12_agree_82 : decode cX12_agree 82 = .ok (.bipush 60, 2) := by decide +kernel
theorem dX12_agree_84 : decode cX12_agree 84 = .ok (.invokestatic 471, 3) := by decide +kernel
theorem dX12_agree_87 : decode cX12_agree 87 = .ok (.aload_n 0, 1) := by decide +kernel
theorem dX12_agree_88 : decode cX12_agree 88 = .ok (.getfield 241, 3) := by decide +kernel
theorem dX12_agree_91 : decode cX12_agree 91 = .ok (.iconst 0, 1) := by decide +kernel
theorem dX12_agree_92 : decode cX12_agree 92 = .ok (.aload_n 0, 1) := by decide +kernel
theorem dX12_agree_93 : decode cX12_agree 93 = .ok (.getfield 797, 3) := by decide +kernel
theorem dX12_agree_96 : decode cX12_agree 96 = .ok (.aload_n 0, 1) := by decide +kernel
theorem dX12_agree_97 : decode cX12_agree 97 = .ok (.getfield 271, 3) := by decide +kernel
theorem dX12_agree_100 : decode cX12_agree 100 = .ok (.bipush 60, 2) := by decide +kernel
theorem dX12_agree_102 : decode cX12_agree 102 = .ok (.invokestatic 471, 3) := by decide +kernel
theorem dX12_agree_105 : decode cX12_agree 105 = .ok (.aload_n 0, 1) := by decide +kernel
theorem dX12_agree_106 : decode cX12_agree 106 = .ok (.getfield 142, 3) := by decide +kernel
theorem dX12_agree_109 : decode cX12_agree 109 = .ok (.iconst 0, 1) := by decide +kernel
theorem dX12_agree_110 : decode cX12_agree 110 = .ok (.bipush 8, 2) := by decide +kernel
theorem dX12_agree_112 : decode cX12_agree 112 = .ok (.aload_n 0, 1) := by decide +kernel
theorem dX12_agree_113 : decode cX12_agree 113 = .ok (.getfield 274, 3) := by decide +kernel
theorem dX12_agree_116 : decode cX12_agree 116 = .ok (.iconst 0, 1) := by decide +kernel
theorem dX12_agree_117 : decode cX12_agree 117 = .ok (.invokestatic 471, 3) := by decide +kernel
theorem dX12_agree_120 : decode cX12_agree 120 = .ok (.aload_n 0, 1) := by decide +kernel
theorem dX12_agree_121 : decode cX12_agree 121 = .ok (.getfield 557, 3) := by decide +kernel
theorem dX12_agree_124 : decode cX12_agree 124 = .ok (.istore_n 2, 1) := by decide +kernel
theorem dX12_agree_125 : decode cX12_agree 125 = .ok (.aload_n 0, 1) := by decide +kernel
theorem dX12_agree_126 : decode cX12_agree 126 = .ok (.getfield 649, 3) := by decide +kernel
theorem dX12_agree_129 : decode cX12_agree 129 = .ok (.istore_n 3, 1) := by decide +kernel
theorem dX12_agree_130 : decode cX12_agree 130 = .ok (.aload_n 0, 1) := by decide +kernel
theorem dX12_agree_131 : decode cX12_agree 131 = .ok (.getfield 797, 3) := by decide +kernel
theorem dX12_agree_134 : decode cX12_agree 134 = .ok (.istore 4, 2) := by decide +kernel
theorem dX12_agree_136 : decode cX12_agree 136 = .ok (.aload_n 0, 1) := by decide +kernel
theorem dX12_agree_137 : decode cX12_agree 137 = .ok (.invokevirtual 836, 3) := by decide +kernel
theorem dX12_agree_140 : decode cX12_agree 140 = .ok (.aload_n 0, 1) := by decide +kernel
theorem dX12_agree_141 : decode cX12_agree 141 = .ok (.getfield 557, 3) := by decide +kernel
theorem dX12_agree_144 : decode cX12_agree 144 = .ok (.iload_n 2, 1) := by decide +kernel
theorem dX12_agree_145 : decode cX12_agree 145 = .ok (.if_icmp .ne 70, 3) := by decide +kernel
theorem dX12_agree_148 : decode cX12_agree 148 = .ok (.aload_n 0, 1) := by decide +kernel
theorem dX12_agree_149 : decode cX12_agree 149 = .ok (.getfield 649, 3) := by decide +kernel
theorem dX12_agree_152 : decode cX12_agree 152 = .ok (.iload_n 3, 1) := by decide +kernel
theorem dX12_agree_153 : decode cX12_agree 153 = .ok (.if_icmp .ne 62, 3) := by decide +kernel
theorem dX12_agree_156 : decode cX12_agree 156 = .ok (.aload_n 0, 1) := by decide +kernel
theorem dX12_agree_157 : decode cX12_agree 157 = .ok (.getfield 797, 3) := by decide +kernel
theorem dX12_agree_160 : decode cX12_agree 160 = .ok (.iload 4, 2) := by decide +kernel
theorem dX12_agree_162 : decode cX12_agree 162 = .ok (.if_icmp .ne 53, 3) := by decide +kernel
theorem dX12_agree_165 : decode cX12_agree 165 = .ok (.aload_n 0, 1) := by decide +kernel
theorem dX12_agree_166 : decode cX12_agree 166 = .ok (.getfield 145, 3) := by decide +kernel
theorem dX12_agree_169 : decode cX12_agree 169 = .ok (.aload_n 0, 1) := by decide +kernel
theorem dX12_agree_170 : decode cX12_agree 170 = .ok (.getfield 268, 3) := by decide +kernel
theorem dX12_agree_173 : decode cX12_agree 173 = .ok (.iload_n 1, 1) := by decide +kernel
theorem dX12_agree_174 : decode cX12_agree 174 = .ok (.invokestatic 851, 3) := by decide +kernel
theorem dX12_agree_177 : decode cX12_agree 177 = .ok (.ifCond .eq 38, 3) := by decide +kernel
theorem dX12_agree_180 : decode cX12_agree 180 = .ok (.aload_n 0, 1) := by decide +kernel
theorem dX12_agree_181 : decode cX12_agree 181 = .ok (.getfield 148, 3) := by decide +kernel
theorem dX12_agree_184 : decode cX12_agree 184 = .ok (.aload_n 0, 1) := by decide +kernel
theorem dX12_agree_185 : decode cX12_agree 185 = .ok (.getfield 271, 3) := by decide +kernel
theorem dX12_agree_188 : decode cX12_agree 188 = .ok (.iload_n 1, 1) := by decide +kernel
theorem dX12_agree_189 : decode cX12_agree 189 = .ok (.invokestatic 851, 3) := by decide +kernel
theorem dX12_agree_192 : decode cX12_agree 192 = .ok (.ifCond .eq 23, 3) := by decide +kernel
theorem dX12_agree_195 : decode cX12_agree 195 = .ok (.aload_n 0, 1) := by decide +kernel
theorem dX12_agree_196 : decode cX12_agree 196 = .ok (.getfield 142, 3) := by decide +kernel
theorem dX12_agree_199 : decode cX12_agree 199 = .ok (.aload_n 0, 1) := by decide +kernel
theorem dX12_agree_200 : decode cX12_agree 200 = .ok (.getfield 274, 3) := by decide +kernel
theorem dX12_agree_203 : decode cX12_agree 203 = .ok (.bipush 8, 2) := by decide +kernel
theorem dX12_agree_205 : decode cX12_agree 205 = .ok (.invokestatic 851, 3) := by decide +kernel
theorem dX12_agree_208 : decode cX12_agree 208 = .ok (.ifCond .eq 7, 3) := by decide +kernel
theorem dX12_agree_211 : decode cX12_agree 211 = .ok (.iconst 1, 1) := by decide +kernel
theorem dX12_agree_212 : decode cX12_agree 212 = .ok (.goto 4, 3) := by decide +kernel
theorem dX12_agree_215 : decode cX12_agree 215 = .ok (.iconst 0, 1) := by decide +kernel
theorem dX12_agree_216 : decode cX12_agree 216 = .ok (.istore 5, 2) := by decide +kernel
theorem dX12_agree_218 : decode cX12_agree 218 = .ok (.iload 5, 2) := by decide +kernel
theorem dX12_agree_220 : decode cX12_agree 220 = .ok (.ifCond .eq 45, 3) := by decide +kernel
theorem dX12_agree_223 : decode cX12_agree 223 = .ok (.aload_n 0, 1) := by decide +kernel
theorem dX12_agree_224 : decode cX12_agree 224 = .ok (.aload_n 0, 1) := by decide +kernel
theorem dX12_agree_225 : decode cX12_agree 225 = .ok (.getfield 238, 3) := by decide +kernel
theorem dX12_agree_228 : decode cX12_agree 228 = .ok (.iload 4, 2) := by decide +kernel
theorem dX12_agree_230 : decode cX12_agree 230 = .ok (.aload_n 0, 1) := by decide +kernel
theorem dX12_agree_231 : decode cX12_agree 231 = .ok (.getfield 268, 3) := by decide +kernel
