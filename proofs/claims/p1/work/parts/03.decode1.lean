theorem dX0_make_0 : decode cX0_make 0 = .ok (.iload_n 0, 1) := by decide +kernel
theorem dX0_make_1 : decode cX0_make 1 = .ok (.i2l, 1) := by decide +kernel
theorem dX0_make_2 : decode cX0_make 2 = .ok (.bipush 32, 2) := by decide +kernel
theorem dX0_make_4 : decode cX0_make 4 = .ok (.lshl, 1) := by decide +kernel
theorem dX0_make_5 : decode cX0_make 5 = .ok (.iload_n 1, 1) := by decide +kernel
theorem dX0_make_6 : decode cX0_make 6 = .ok (.i2l, 1) := by decide +kernel
theorem dX0_make_7 : decode cX0_make 7 = .ok (.ldc2_w 7, 3) := by decide +kernel
theorem dX0_make_10 : decode cX0_make 10 = .ok (.land, 1) := by decide +kernel
theorem dX0_make_11 : decode cX0_make 11 = .ok (.lor, 1) := by decide +kernel
theorem dX0_make_12 : decode cX0_make 12 = .ok (.lreturn, 1) := by decide +kernel
theorem dX0_kind_0 : decode cX0_kind 0 = .ok (.lload_n 0, 1) := by decide +kernel
theorem dX0_kind_1 : decode cX0_kind 1 = .ok (.bipush 32, 2) := by decide +kernel
theorem dX0_kind_3 : decode cX0_kind 3 = .ok (.lushr, 1) := by decide +kernel
theorem dX0_kind_4 : decode cX0_kind 4 = .ok (.l2i, 1) := by decide +kernel
theorem dX0_kind_5 : decode cX0_kind 5 = .ok (.ireturn, 1) := by decide +kernel
theorem dX0_bits_0 : decode cX0_bits 0 = .ok (.lload_n 0, 1) := by decide +kernel
theorem dX0_bits_1 : decode cX0_bits 1 = .ok (.l2i, 1) := by decide +kernel
theorem dX0_bits_2 : decode cX0_bits 2 = .ok (.ireturn, 1) := by decide +kernel
theorem dX0_isKnown_0 : decode cX0_isKnown 0 = .ok (.lload_n 0, 1) := by decide +kernel
theorem dX0_isKnown_1 : decode cX0_isKnown 1 = .ok (.bipush 32, 2) := by decide +kernel
theorem dX0_isKnown_3 : decode cX0_isKnown 3 = .ok (.lushr, 1) := by decide +kernel
theorem dX0_isKnown_4 : decode cX0_isKnown 4 = .ok (.lconst 1, 1) := by decide +kernel
theorem dX0_isKnown_5 : decode cX0_isKnown 5 = .ok (.lcmp, 1) := by decide +kernel
theorem dX0_isKnown_6 : decode cX0_isKnown 6 = .ok (.ifCond .gt 7, 3) := by decide +kernel
theorem dX0_isKnown_9 : decode cX0_isKnown 9 = .ok (.iconst 1, 1) := by decide +kernel
theorem dX0_isKnown_10 : decode cX0_isKnown 10 = .ok (.goto 4, 3) := by decide +kernel
theorem dX0_isKnown_13 : decode cX0_isKnown 13 = .ok (.iconst 0, 1) := by decide +kernel
theorem dX0_isKnown_14 : decode cX0_isKnown 14 = .ok (.ireturn, 1) := by decide +kernel
theorem dX0_isSign_0 : decode cX0_isSign 0 = .ok (.iload_n 0, 1) := by decide +kernel
theorem dX0_isSign_1 : decode cX0_isSign 1 = .ok (.bipush 43, 2) := by decide +kernel
theorem dX0_isSign_3 : decode cX0_isSign 3 = .ok (.if_icmp .eq 39, 3) := by decide +kernel
theorem dX0_isSign_6 : decode cX0_isSign 6 = .ok (.iload_n 0, 1) := by decide +kernel
theorem dX0_isSign_7 : decode cX0_isSign 7 = .ok (.bipush 45, 2) := by decide +kernel
theorem dX0_isSign_9 : decode cX0_isSign 9 = .ok (.if_icmp .eq 33, 3) := by decide +kernel
theorem dX0_isSign_12 : decode cX0_isSign 12 = .ok (.iload_n 0, 1) := by decide +kernel
theorem dX0_isSign_13 : decode cX0_isSign 13 = .ok (.bipush 42, 2) := by decide +kernel
theorem dX0_isSign_15 : decode cX0_isSign 15 = .ok (.if_icmp .eq 27, 3) := by decide +kernel
theorem dX0_isSign_18 : decode cX0_isSign 18 = .ok (.iload_n 0, 1) := by decide +kernel
theorem dX0_isSign_19 : decode cX0_isSign 19 = .ok (.bipush 47, 2) := by decide +kernel
theorem dX0_isSign_21 : decode cX0_isSign 21 = .ok (.if_icmp .eq 21, 3) := by decide +kernel
theorem dX0_isSign_24 : decode cX0_isSign 24 = .ok (.iload_n 0, 1) := by decide +kernel
theorem dX0_isSign_25 : decode cX0_isSign 25 = .ok (.bipush 37, 2) := by decide +kernel
theorem dX0_isSign_27 : decode cX0_isSign 27 = .ok (.if_icmp .eq 15, 3) := by decide +kernel
theorem dX0_isSign_30 : decode cX0_isSign 30 = .ok (.iload_n 0, 1) := by decide +kernel
theorem dX0_isSign_31 : decode cX0_isSign 31 = .ok (.bipush 60, 2) := by decide +kernel
theorem dX0_isSign_33 : decode cX0_isSign 33 = .ok (.if_icmp .eq 9, 3) := by decide +kernel
theorem dX0_isSign_36 : decode cX0_isSign 36 = .ok (.iload_n 0, 1) := by decide +kernel
theorem dX0_isSign_37 : decode cX0_isSign 37 = .ok (.bipush 61, 2) := by decide +kernel
theorem dX0_isSign_39 : decode cX0_isSign 39 = .ok (.if_icmp .ne 7, 3) := by decide +kernel
theorem dX0_isSign_42 : decode cX0_isSign 42 = .ok (.iconst 1, 1) := by decide +kernel
theorem dX0_isSign_43 : decode cX0_isSign 43 = .ok (.goto 4, 3) := by decide +kernel
theorem dX0_isSign_46 : decode cX0_isSign 46 = .ok (.iconst 0, 1) := by decide +kernel
theorem dX0_isSign_47 : decode cX0_isSign 47 = .ok (.ireturn, 1) := by decide +kernel
theorem dX0_apply_0 : decode cX0_apply 0 = .ok (.iload_n 0, 1) := by decide +kernel
theorem dX0_apply_1 : decode cX0_apply 1 = .ok (.bipush 37, 2) := by decide +kernel
theorem dX0_apply_3 : decode cX0_apply 3 = .ok (.if_icmp .ne 19, 3) := by decide +kernel
theorem dX0_apply_6 : decode cX0_apply 6 = .ok (.iconst 0, 1) := by decide +kernel
theorem dX0_apply_7 : decode cX0_apply 7 = .ok (.lload_n 1, 1) := by decide +kernel
theorem dX0_apply_8 : decode cX0_apply 8 = .ok (.invokestatic 11, 3) := by decide +kernel
theorem dX0_apply_11 : decode cX0_apply 11 = .ok (.lload_n 3, 1) := by decide +kernel
theorem dX0_apply_12 : decode cX0_apply 12 = .ok (.invokestatic 11, 3) := by decide +kernel
theorem dX0_apply_15 : decode cX0_apply 15 = .ok (.invokestatic 15, 3) := by decide +kernel
theorem dX0_apply_18 : decode cX0_apply 18 = .ok (.invokestatic 19, 3) := by decide +kernel
theorem dX0_apply_21 : decode cX0_apply 21 = .ok (.lreturn, 1) := by decide +kernel
theorem dX0_apply_22 : decode cX0_apply 22 = .ok (.lload_n 1, 1) := by decide +kernel
theorem dX0_apply_23 : decode cX0_apply 23 = .ok (.invokestatic 23, 3) := by decide +kernel
theorem dX0_apply_26 : decode cX0_apply 26 = .ok (.ifCond .ne 27, 3) := by decide +kernel
theorem dX0_apply_29 : decode cX0_apply 29 = .ok (.lload_n 3, 1) := by decide +kernel
theorem dX0_apply_30 : decode cX0_apply 30 = .ok (.invokestatic 23, 3) := by decide +kernel
theorem dX0_apply_33 : decode cX0_apply 33 = .ok (.ifCond .ne 20, 3) := by decide +kernel
theorem dX0_apply_36 : decode cX0_apply 36 = .ok (.iconst 0, 1) := by decide +kernel
theorem dX0_apply_37 : decode cX0_apply 37 = .ok (.iload_n 0, 1) := by decide +kernel
theorem dX0_apply_38 : decode cX0_apply 38 = .ok (.lload_n 1, 1) := by decide +kernel
theorem dX0_apply_39 : decode cX0_apply 39 = .ok (.invokestatic 26, 3) := by decide +kernel
theorem dX0_apply_42 : decode cX0_apply 42 = .ok (.lload_n 3, 1) := by decide +kernel
theorem dX0_apply_43 : decode cX0_apply 43 = .ok (.invokestatic 26, 3) := by decide +kernel
theorem dX0_apply_46 : decode cX0_apply 46 = .ok (.invokestatic 29, 3) := by decide +kernel
theorem dX0_apply_49 : decode cX0_apply 49 = .ok (.invokestatic 19, 3) := by decide +kernel
theorem dX0_apply_52 : decode cX0_apply 52 = .ok (.lreturn, 1) := by decide +kernel
theorem dX0_apply_53 : decode cX0_apply 53 = .ok (.lload_n 1, 1) := by decide +kernel
theorem dX0_apply_54 : decode cX0_apply 54 = .ok (.invokestatic 33, 3) := by decide +kernel
theorem dX0_apply_57 : decode cX0_apply 57 = .ok (.istore 5, 2) := by decide +kernel
theorem dX0_apply_59 : decode cX0_apply 59 = .ok (.lload_n 3, 1) := by decide +kernel
theorem dX0_apply_60 : decode cX0_apply 60 = .ok (.invokestatic 33, 3) := by decide +kernel
theorem dX0_apply_63 : decode cX0_apply 63 = .ok (.istore 6, 2) := by decide +kernel
theorem dX0_apply_65 : decode cX0_apply 65 = .ok (.iload 5, 2) := by decide +kernel
theorem dX0_apply_67 : decode cX0_apply 67 = .ok (.invokestatic 36, 3) := by decide +kernel
theorem dX0_apply_70 : decode cX0_apply 70 = .ok (.ifCond .ne 11, 3) := by decide +kernel
theorem dX0_apply_73 : decode cX0_apply 73 = .ok (.iload 6, 2) := by decide +kernel
theorem dX0_apply_75 : decode cX0_apply 75 = .ok (.invokestatic 36, 3) := by decide +kernel
theorem dX0_apply_78 : decode cX0_apply 78 = .ok (.ifCond .eq 7, 3) := by decide +kernel
theorem dX0_apply_81 : decode cX0_apply 81 = .ok (.iconst 1, 1) := by decide +kernel
theorem dX0_apply_82 : decode cX0_apply 82 = .ok (.goto 4, 3) := by decide +kernel
theorem dX0_apply_85 : decode cX0_apply 85 = .ok (.iconst 0, 1) := by decide +kernel
theorem dX0_apply_86 : decode cX0_apply 86 = .ok (.istore 7, 2) := by decide +kernel
theorem dX0_apply_88 : decode cX0_apply 88 = .ok (.iload_n 0, 1) := by decide +kernel
theorem dX0_apply_89 : decode cX0_apply 89 = .ok (.lookupswitch 160 #[(42, 138), (43, 91), (45, 113), (60, 51), (61, 71)], 51) := by decide +kernel
theorem dX0_apply_140 : decode cX0_apply 140 = .ok (.iconst 0, 1) := by decide +kernel
theorem dX0_apply_141 : decode cX0_apply 141 = .ok (.iload 5, 2) := by decide +kernel
theorem dX0_apply_143 : decode cX0_apply 143 = .ok (.iload 6, 2) := by decide +kernel
theorem dX0_apply_145 : decode cX0_apply 145 = .ok (.invokestatic 40, 3) := by decide +kernel
theorem dX0_apply_148 : decode cX0_apply 148 = .ok (.ifCond .eq 7, 3) := by decide +kernel
theorem dX0_apply_151 : decode cX0_apply 151 = .ok (.iconst 1, 1) := by decide +kernel
theorem dX0_apply_152 : decode cX0_apply 152 = .ok (.goto 4, 3) := by decide +kernel
theorem dX0_apply_155 : decode cX0_apply 155 = .ok (.iconst 0, 1) := by decide +kernel
theorem dX0_apply_156 : decode cX0_apply 156 = .ok (.invokestatic 19, 3) := by decide +kernel
theorem dX0_apply_159 : decode cX0_apply 159 = .ok (.lreturn, 1) := by decide +kernel
theorem dX0_apply_160 : decode cX0_apply 160 = .ok (.iconst 0, 1) := by decide +kernel
theorem dX0_apply_161 : decode cX0_apply 161 = .ok (.iload 5, 2) := by decide +kernel
theorem dX0_apply_163 : decode cX0_apply 163 = .ok (.iload 6, 2) := by decide +kernel
theorem dX0_apply_165 : decode cX0_apply 165 = .ok (.invokestatic 44, 3) := by decide +kernel
theorem dX0_apply_168 : decode cX0_apply 168 = .ok (.ifCond .eq 7, 3) := by decide +kernel
theorem dX0_apply_171 : decode cX0_apply 171 = .ok (.iconst 1, 1) := by decide +kernel
theorem dX0_apply_172 : decode cX0_apply 172 = .ok (.goto 4, 3) := by decide +kernel
theorem dX0_apply_175 : decode cX0_apply 175 = .ok (.iconst 0, 1) := by decide +kernel
theorem dX0_apply_176 : decode cX0_apply 176 = .ok (.invokestatic 19, 3) := by decide +kernel
theorem dX0_apply_179 : decode cX0_apply 179 = .ok (.lreturn, 1) := by decide +kernel
theorem dX0_apply_180 : decode cX0_apply 180 = .ok (.iconst 1, 1) := by decide +kernel
theorem dX0_apply_181 : decode cX0_apply 181 = .ok (.iload 7, 2) := by decide +kernel
theorem dX0_apply_183 : decode cX0_apply 183 = .ok (.ifCond .eq 8, 3) := by decide +kernel
theorem dX0_apply_186 : decode cX0_apply 186 = .ok (.ldc 47, 2) := by decide +kernel
theorem dX0_apply_188 : decode cX0_apply 188 = .ok (.goto 10, 3) := by decide +kernel
theorem dX0_apply_191 : decode cX0_apply 191 = .ok (.iload 5, 2) := by decide +kernel
theorem dX0_apply_193 : decode cX0_apply 193 = .ok (.iload 6, 2) := by decide +kernel
theorem dX0_apply_195 : decode cX0_apply 195 = .ok (.invokestatic 48, 3) := by decide +kernel
theorem dX0_apply_198 : decode cX0_apply 198 = .ok (.invokestatic 19, 3) := by decide +kernel
theorem dX0_apply_201 : decode cX0_apply 201 = .ok (.lreturn, 1) := by decide +kernel
theorem dX0_apply_202 : decode cX0_apply 202 = .ok (.iconst 1, 1) := by decide +kernel
theorem dX0_apply_203 : decode cX0_apply 203 = .ok (.iload 7, 2) := by decide +kernel
theorem dX0_apply_205 : decode cX0_apply 205 = .ok (.ifCond .eq 8, 3) := by decide +kernel
theorem dX0_apply_208 : decode cX0_apply 208 = .ok (.ldc 47, 2) := by decide +kernel
theorem dX0_apply_210 : decode cX0_apply 210 = .ok (.goto 13, 3) := by decide +kernel
theorem dX0_apply_213 : decode cX0_apply 213 = .ok (.iload 5, 2) := by decide +kernel
theorem dX0_apply_215 : decode cX0_apply 215 = .ok (.iload 6, 2) := by decide +kernel
theorem dX0_apply_217 : decode cX0_apply 217 = .ok (.ldc 51, 2) := by decide +kernel
theorem dX0_apply_219 : decode cX0_apply 219 = .ok (.ixor, 1) := by decide +kernel
theorem dX0_apply_220 : decode cX0_apply 220 = .ok (.invokestatic 48, 3) := by decide +kernel
theorem dX0_apply_223 : decode cX0_apply 223 = .ok (.invokestatic 19, 3) := by decide +kernel
theorem dX0_apply_226 : decode cX0_apply 226 = .ok (.lreturn, 1) := by decide +kernel
theorem dX0_apply_227 : decode cX0_apply 227 = .ok (.iconst 1, 1) := by decide +kernel
theorem dX0_apply_228 : decode cX0_apply 228 = .ok (.iload 7, 2) := by decide +kernel
theorem dX0_apply_230 : decode cX0_apply 230 = .ok (.ifCond .eq 8, 3) := by decide +kernel
theorem dX0_apply_233 : decode cX0_apply 233 = .ok (.ldc 47, 2) := by decide +kernel
theorem dX0_apply_235 : decode cX0_apply 235 = .ok (.goto 10, 3) := by decide +kernel
theorem dX0_apply_238 : decode cX0_apply 238 = .ok (.iload 5, 2) := by decide +kernel
theorem dX0_apply_240 : decode cX0_apply 240 = .ok (.iload 6, 2) := by decide +kernel
theorem dX0_apply_242 : decode cX0_apply 242 = .ok (.invokestatic 52, 3) := by decide +kernel
theorem dX0_apply_245 : decode cX0_apply 245 = .ok (.invokestatic 19, 3) := by decide +kernel
theorem dX0_apply_248 : decode cX0_apply 248 = .ok (.lreturn, 1) := by decide +kernel
theorem dX0_apply_249 : decode cX0_apply 249 = .ok (.iconst 1, 1) := by decide +kernel
theorem dX0_apply_250 : decode cX0_apply 250 = .ok (.iload 7, 2) := by decide +kernel
theorem dX0_apply_252 : decode cX0_apply 252 = .ok (.ifCond .eq 8, 3) := by decide +kernel
theorem dX0_apply_255 : decode cX0_apply 255 = .ok (.ldc 47, 2) := by decide +kernel
theorem dX0_apply_257 : decode cX0_apply 257 = .ok (.goto 10, 3) := by decide +kernel
theorem dX0_apply_260 : decode cX0_apply 260 = .ok (.iload 5, 2) := by decide +kernel
theorem dX0_apply_262 : decode cX0_apply 262 = .ok (.iload 6, 2) := by decide +kernel
theorem dX0_apply_264 : decode cX0_apply 264 = .ok (.invokestatic 55, 3) := by decide +kernel
theorem dX0_apply_267 : decode cX0_apply 267 = .ok (.invokestatic 19, 3) := by decide +kernel
theorem dX0_apply_270 : decode cX0_apply 270 = .ok (.lreturn, 1) := by decide +kernel
theorem dX0_rest_0 : decode cX0_rest 0 = .ok (.iload_n 1, 1) := by decide +kernel
theorem dX0_rest_1 : decode cX0_rest 1 = .ok (.ifCond .eq 8, 3) := by decide +kernel
theorem dX0_rest_4 : decode cX0_rest 4 = .ok (.iload_n 1, 1) := by decide +kernel
theorem dX0_rest_5 : decode cX0_rest 5 = .ok (.iconst (-1), 1) := by decide +kernel
theorem dX0_rest_6 : decode cX0_rest 6 = .ok (.if_icmp .ne 7, 3) := by decide +kernel
theorem dX0_rest_9 : decode cX0_rest 9 = .ok (.iconst 0, 1) := by decide +kernel
theorem dX0_rest_10 : decode cX0_rest 10 = .ok (.goto 6, 3) := by decide +kernel
theorem dX0_rest_13 : decode cX0_rest 13 = .ok (.iload_n 0, 1) := by decide +kernel
theorem dX0_rest_14 : decode cX0_rest 14 = .ok (.iload_n 1, 1) := by decide +kernel
theorem dX0_rest_15 : decode cX0_rest 15 = .ok (.irem, 1) := by decide +kernel
theorem dX0_rest_16 : decode cX0_rest 16 = .ok (.ireturn, 1) := by decide +kernel
theorem dX0_applyInts_0 : decode cX0_applyInts 0 = .ok (.iload_n 0, 1) := by decide +kernel
theorem dX0_applyInts_1 : decode cX0_applyInts 1 = .ok (.lookupswitch 86 #[(42, 59), (43, 51), (45, 55), (47, 63), (60, 75)], 51) := by decide +kernel
theorem dX0_applyInts_52 : decode cX0_applyInts 52 = .ok (.iload_n 1, 1) := by decide +kernel
theorem dX0_applyInts_53 : decode cX0_applyInts 53 = .ok (.iload_n 2, 1) := by decide +kernel
theorem dX0_applyInts_54 : decode cX0_applyInts 54 = .ok (.iadd, 1) := by decide +kernel
theorem dX0_applyInts_55 : decode cX0_applyInts 55 = .ok (.ireturn, 1) := by decide +kernel
theorem dX0_applyInts_56 : decode cX0_applyInts 56 = .ok (.iload_n 1, 1) := by decide +kernel
theorem dX0_applyInts_57 : decode cX0_applyInts 57 = .ok (.iload_n 2, 1) := by decide +kernel
theorem dX0_applyInts_58 : decode cX0_applyInts 58 = .ok (.isub, 1) := by decide +kernel
theorem dX0_applyInts_59 : decode cX0_applyInts 59 = .ok (.ireturn, 1) := by decide +kernel
theorem dX0_applyInts_60 : decode cX0_applyInts 60 = .ok (.iload_n 1, 1) := by decide +kernel
theorem dX0_applyInts_61 : decode cX0_applyInts 61 = .ok (.iload_n 2, 1) := by decide +kernel
theorem dX0_applyInts_62 : decode cX0_applyInts 62 = .ok (.imul, 1) := by decide +kernel
theorem dX0_applyInts_63 : decode cX0_applyInts 63 = .ok (.ireturn, 1) := by decide +kernel
theorem dX0_applyInts_64 : decode cX0_applyInts 64 = .ok (.iload_n 2, 1) := by decide +kernel
theorem dX0_applyInts_65 : decode cX0_applyInts 65 = .ok (.ifCond .ne 7, 3) := by decide +kernel
theorem dX0_applyInts_68 : decode cX0_applyInts 68 = .ok (.iconst 0, 1) := by decide +kernel
theorem dX0_applyInts_69 : decode cX0_applyInts 69 = .ok (.goto 6, 3) := by decide +kernel
theorem dX0_applyInts_72 : decode cX0_applyInts 72 = .ok (.iload_n 1, 1) := by decide +kernel
theorem dX0_applyInts_73 : decode cX0_applyInts 73 = .ok (.iload_n 2, 1) := by decide +kernel
theorem dX0_applyInts_74 : decode cX0_applyInts 74 = .ok (.idiv, 1) := by decide +kernel
theorem dX0_applyInts_75 : decode cX0_applyInts 75 = .ok (.ireturn, 1) := by decide +kernel
theorem dX0_applyInts_76 : decode cX0_applyInts 76 = .ok (.iload_n 1, 1) := by decide +kernel
theorem dX0_applyInts_77 : decode cX0_applyInts 77 = .ok (.iload_n 2, 1) := by decide +kernel
theorem dX0_applyInts_78 : decode cX0_applyInts 78 = .ok (.if_icmp .ge 7, 3) := by decide +kernel
theorem dX0_applyInts_81 : decode cX0_applyInts 81 = .ok (.iconst 1, 1) := by decide +kernel
theorem dX0_applyInts_82 : decode cX0_applyInts 82 = .ok (.goto 4, 3) := by decide +kernel
theorem dX0_applyInts_85 : decode cX0_applyInts 85 = .ok (.iconst 0, 1) := by decide +kernel
theorem dX0_applyInts_86 : decode cX0_applyInts 86 = .ok (.ireturn, 1) := by decide +kernel
theorem dX0_applyInts_87 : decode cX0_applyInts 87 = .ok (.iload_n 1, 1) := by decide +kernel
theorem dX0_applyInts_88 : decode cX0_applyInts 88 = .ok (.iload_n 2, 1) := by decide +kernel
theorem dX0_applyInts_89 : decode cX0_applyInts 89 = .ok (.if_icmp .ne 7, 3) := by decide +kernel
theorem dX0_applyInts_92 : decode cX0_applyInts 92 = .ok (.iconst 1, 1) := by decide +kernel
theorem dX0_applyInts_93 : decode cX0_applyInts 93 = .ok (.goto 4, 3) := by decide +kernel
theorem dX0_applyInts_96 : decode cX0_applyInts 96 = .ok (.iconst 0, 1) := by decide +kernel
theorem dX0_applyInts_97 : decode cX0_applyInts 97 = .ok (.ireturn, 1) := by decide +kernel
theorem dX0_turn_0 : decode cX0_turn 0 = .ok (.iload_n 0, 1) := by decide +kernel
theorem dX0_turn_1 : decode cX0_turn 1 = .ok (.bipush 36, 2) := by decide +kernel
theorem dX0_turn_3 : decode cX0_turn 3 = .ok (.if_icmp .ne 12, 3) := by decide +kernel
theorem dX0_turn_6 : decode cX0_turn 6 = .ok (.iconst 0, 1) := by decide +kernel
theorem dX0_turn_7 : decode cX0_turn 7 = .ok (.lload_n 1, 1) := by decide +kernel
theorem dX0_turn_8 : decode cX0_turn 8 = .ok (.invokestatic 11, 3) := by decide +kernel
theorem dX0_turn_11 : decode cX0_turn 11 = .ok (.invokestatic 19, 3) := by decide +kernel
theorem dX0_turn_14 : decode cX0_turn 14 = .ok (.lreturn, 1) := by decide +kernel
theorem dX0_turn_15 : decode cX0_turn 15 = .ok (.iload_n 0, 1) := by decide +kernel
theorem dX0_turn_16 : decode cX0_turn 16 = .ok (.bipush 94, 2) := by decide +kernel
theorem dX0_turn_18 : decode cX0_turn 18 = .ok (.if_icmp .ne 12, 3) := by decide +kernel
theorem dX0_turn_21 : decode cX0_turn 21 = .ok (.iconst 1, 1) := by decide +kernel
theorem dX0_turn_22 : decode cX0_turn 22 = .ok (.lload_n 1, 1) := by decide +kernel
theorem dX0_turn_23 : decode cX0_turn 23 = .ok (.invokestatic 33, 3) := by decide +kernel
theorem dX0_turn_26 : decode cX0_turn 26 = .ok (.invokestatic 19, 3) := by decide +kernel
theorem dX0_turn_29 : decode cX0_turn 29 = .ok (.lreturn, 1) := by decide +kernel
theorem dX0_turn_30 : decode cX0_turn 30 = .ok (.iconst 0, 1) := by decide +kernel
theorem dX0_turn_31 : decode cX0_turn 31 = .ok (.lload_n 1, 1) := by decide +kernel
theorem dX0_turn_32 : decode cX0_turn 32 = .ok (.invokestatic 33, 3) := by decide +kernel
theorem dX0_turn_35 : decode cX0_turn 35 = .ok (.invokestatic 19, 3) := by decide +kernel
theorem dX0_turn_38 : decode cX0_turn 38 = .ok (.lreturn, 1) := by decide +kernel
theorem dX0_isTrue_0 : decode cX0_isTrue 0 = .ok (.lload_n 0, 1) := by decide +kernel
theorem dX0_isTrue_1 : decode cX0_isTrue 1 = .ok (.invokestatic 23, 3) := by decide +kernel
theorem dX0_isTrue_4 : decode cX0_isTrue 4 = .ok (.iconst 1, 1) := by decide +kernel
theorem dX0_isTrue_5 : decode cX0_isTrue 5 = .ok (.if_icmp .ne 21, 3) := by decide +kernel
theorem dX0_isTrue_8 : decode cX0_isTrue 8 = .ok (.lload_n 0, 1) := by decide +kernel
theorem dX0_isTrue_9 : decode cX0_isTrue 9 = .ok (.invokestatic 26, 3) := by decide +kernel
theorem dX0_isTrue_12 : decode cX0_isTrue 12 = .ok (.ldc 58, 2) := by decide +kernel
theorem dX0_isTrue_14 : decode cX0_isTrue 14 = .ok (.iand, 1) := by decide +kernel
theorem dX0_isTrue_15 : decode cX0_isTrue 15 = .ok (.ifCond .eq 7, 3) := by decide +kernel
theorem dX0_isTrue_18 : decode cX0_isTrue 18 = .ok (.iconst 1, 1) := by decide +kernel
theorem dX0_isTrue_19 : decode cX0_isTrue 19 = .ok (.goto 19, 3) := by decide +kernel
theorem dX0_isTrue_22 : decode cX0_isTrue 22 = .ok (.iconst 0, 1) := by decide +kernel
theorem dX0_isTrue_23 : decode cX0_isTrue 23 = .ok (.goto 15, 3) := by decide +kernel
theorem dX0_isTrue_26 : decode cX0_isTrue 26 = .ok (.lload_n 0, 1) := by decide +kernel
theorem dX0_isTrue_27 : decode cX0_isTrue 27 = .ok (.invokestatic 26, 3) := by decide +kernel
theorem dX0_isTrue_30 : decode cX0_isTrue 30 = .ok (.ifCond .eq 7, 3) := by decide +kernel
theorem dX0_isTrue_33 : decode cX0_isTrue 33 = .ok (.iconst 1, 1) := by decide +kernel
theorem dX0_isTrue_34 : decode cX0_isTrue 34 = .ok (.goto 4, 3) := by decide +kernel
theorem dX0_isTrue_37 : decode cX0_isTrue 37 = .ok (.iconst 0, 1) := by decide +kernel
theorem dX0_isTrue_38 : decode cX0_isTrue 38 = .ok (.ireturn, 1) := by decide +kernel
theorem dX0_stored_0 : decode cX0_stored 0 = .ok (.iload_n 0, 1) := by decide +kernel
theorem dX0_stored_1 : decode cX0_stored 1 = .ok (.iconst 4, 1) := by decide +kernel
theorem dX0_stored_2 : decode cX0_stored 2 = .ok (.if_icmp .ge 14, 3) := by decide +kernel
theorem dX0_stored_5 : decode cX0_stored 5 = .ok (.iconst 0, 1) := by decide +kernel
theorem dX0_stored_6 : decode cX0_stored 6 = .ok (.lload_n 1, 1) := by decide +kernel
theorem dX0_stored_7 : decode cX0_stored 7 = .ok (.invokestatic 11, 3) := by decide +kernel
theorem dX0_stored_10 : decode cX0_stored 10 = .ok (.invokestatic 19, 3) := by decide +kernel
theorem dX0_stored_13 : decode cX0_stored 13 = .ok (.goto 11, 3) := by decide +kernel
theorem dX0_stored_16 : decode cX0_stored 16 = .ok (.iconst 1, 1) := by decide +kernel
theorem dX0_stored_17 : decode cX0_stored 17 = .ok (.lload_n 1, 1) := by decide +kernel
theorem dX0_stored_18 : decode cX0_stored 18 = .ok (.invokestatic 33, 3) := by decide +kernel
theorem dX0_stored_21 : decode cX0_stored 21 = .ok (.invokestatic 19, 3) := by decide +kernel
theorem dX0_stored_24 : decode cX0_stored 24 = .ok (.lreturn, 1) := by decide +kernel
theorem dX0_floatBits_0 : decode cX0_floatBits 0 = .ok (.lload_n 0, 1) := by decide +kernel
theorem dX0_floatBits_1 : decode cX0_floatBits 1 = .ok (.invokestatic 26, 3) := by decide +kernel
theorem dX0_floatBits_4 : decode cX0_floatBits 4 = .ok (.istore_n 2, 1) := by decide +kernel
theorem dX0_floatBits_5 : decode cX0_floatBits 5 = .ok (.lload_n 0, 1) := by decide +kernel
theorem dX0_floatBits_6 : decode cX0_floatBits 6 = .ok (.invokestatic 23, 3) := by decide +kernel
theorem dX0_floatBits_9 : decode cX0_floatBits 9 = .ok (.iconst 1, 1) := by decide +kernel
theorem dX0_floatBits_10 : decode cX0_floatBits 10 = .ok (.if_icmp .ne 17, 3) := by decide +kernel
theorem dX0_floatBits_13 : decode cX0_floatBits 13 = .ok (.iload_n 2, 1) := by decide +kernel
theorem dX0_floatBits_14 : decode cX0_floatBits 14 = .ok (.invokestatic 36, 3) := by decide +kernel
theorem dX0_floatBits_17 : decode cX0_floatBits 17 = .ok (.ifCond .eq 8, 3) := by decide +kernel
theorem dX0_floatBits_20 : decode cX0_floatBits 20 = .ok (.ldc 47, 2) := by decide +kernel
theorem dX0_floatBits_22 : decode cX0_floatBits 22 = .ok (.goto 4, 3) := by decide +kernel
theorem dX0_floatBits_25 : decode cX0_floatBits 25 = .ok (.iload_n 2, 1) := by decide +kernel
theorem dX0_floatBits_26 : decode cX0_floatBits 26 = .ok (.ireturn, 1) := by decide +kernel
theorem dX0_floatBits_27 : decode cX0_floatBits 27 = .ok (.iload_n 2, 1) := by decide +kernel
theorem dX0_floatBits_28 : decode cX0_floatBits 28 = .ok (.i2l, 1) := by decide +kernel
theorem dX0_floatBits_29 : decode cX0_floatBits 29 = .ok (.lstore_n 3, 1) := by decide +kernel
theorem dX0_floatBits_30 : decode cX0_floatBits 30 = .ok (.lload_n 3, 1) := by decide +kernel
theorem dX0_floatBits_31 : decode cX0_floatBits 31 = .ok (.lconst 0, 1) := by decide +kernel
theorem dX0_floatBits_32 : decode cX0_floatBits 32 = .ok (.lcmp, 1) := by decide +kernel
theorem dX0_floatBits_33 : decode cX0_floatBits 33 = .ok (.ifCond .ge 13, 3) := by decide +kernel
theorem dX0_floatBits_36 : decode cX0_floatBits 36 = .ok (.iconst 1, 1) := by decide +kernel
theorem dX0_floatBits_37 : decode cX0_floatBits 37 = .ok (.lload_n 3, 1) := by decide +kernel
theorem dX0_floatBits_38 : decode cX0_floatBits 38 = .ok (.lneg, 1) := by decide +kernel
theorem dX0_floatBits_39 : decode cX0_floatBits 39 = .ok (.iconst 0, 1) := by decide +kernel
theorem dX0_floatBits_40 : decode cX0_floatBits 40 = .ok (.invokestatic 59, 3) := by decide +kernel
theorem dX0_floatBits_43 : decode cX0_floatBits 43 = .ok (.goto 9, 3) := by decide +kernel
theorem dX0_floatBits_46 : decode cX0_floatBits 46 = .ok (.iconst 0, 1) := by decide +kernel
theorem dX0_floatBits_47 : decode cX0_floatBits 47 = .ok (.lload_n 3, 1) := by decide +kernel
theorem dX0_floatBits_48 : decode cX0_floatBits 48 = .ok (.iconst 0, 1) := by decide +kernel
theorem dX0_floatBits_49 : decode cX0_floatBits 49 = .ok (.invokestatic 59, 3) := by decide +kernel
theorem dX0_floatBits_52 : decode cX0_floatBits 52 = .ok (.ireturn, 1) := by decide +kernel
theorem dX0_cut_0 : decode cX0_cut 0 = .ok (.lload_n 0, 1) := by decide +kernel
theorem dX0_cut_1 : decode cX0_cut 1 = .ok (.invokestatic 26, 3) := by decide +kernel
theorem dX0_cut_4 : decode cX0_cut 4 = .ok (.istore_n 2, 1) := by decide +kernel
theorem dX0_cut_5 : decode cX0_cut 5 = .ok (.lload_n 0, 1) := by decide +kernel
theorem dX0_cut_6 : decode cX0_cut 6 = .ok (.invokestatic 23, 3) := by decide +kernel
theorem dX0_cut_9 : decode cX0_cut 9 = .ok (.iconst 1, 1) := by decide +kernel
theorem dX0_cut_10 : decode cX0_cut 10 = .ok (.if_icmp .eq 5, 3) := by decide +kernel
theorem dX0_cut_13 : decode cX0_cut 13 = .ok (.iload_n 2, 1) := by decide +kernel
theorem dX0_cut_14 : decode cX0_cut 14 = .ok (.ireturn, 1) := by decide +kernel
theorem dX0_cut_15 : decode cX0_cut 15 = .ok (.iload_n 2, 1) := by decide +kernel
theorem dX0_cut_16 : decode cX0_cut 16 = .ok (.invokestatic 36, 3) := by decide +kernel
theorem dX0_cut_19 : decode cX0_cut 19 = .ok (.ifCond .eq 5, 3) := by decide +kernel
theorem dX0_cut_22 : decode cX0_cut 22 = .ok (.iconst 0, 1) := by decide +kernel
theorem dX0_cut_23 : decode cX0_cut 23 = .ok (.ireturn, 1) := by decide +kernel
theorem dX0_cut_24 : decode cX0_cut 24 = .ok (.iload_n 2, 1) := by decide +kernel
theorem dX0_cut_25 : decode cX0_cut 25 = .ok (.invokestatic 63, 3) := by decide +kernel
theorem dX0_cut_28 : decode cX0_cut 28 = .ok (.istore_n 3, 1) := by decide +kernel
theorem dX0_cut_29 : decode cX0_cut 29 = .ok (.iload_n 3, 1) := by decide +kernel
theorem dX0_cut_30 : decode cX0_cut 30 = .ok (.bipush 7, 2) := by decide +kernel
theorem dX0_cut_32 : decode cX0_cut 32 = .ok (.if_icmp .le 15, 3) := by decide +kernel
theorem dX0_cut_35 : decode cX0_cut 35 = .ok (.iload_n 2, 1) := by decide +kernel
theorem dX0_cut_36 : decode cX0_cut 36 = .ok (.ifCond .ge 8, 3) := by decide +kernel
theorem dX0_cut_39 : decode cX0_cut 39 = .ok (.ldc 51, 2) := by decide +kernel
theorem dX0_cut_41 : decode cX0_cut 41 = .ok (.goto 5, 3) := by decide +kernel
theorem dX0_cut_44 : decode cX0_cut 44 = .ok (.ldc 58, 2) := by decide +kernel
theorem dX0_cut_46 : decode cX0_cut 46 = .ok (.ireturn, 1) := by decide +kernel
theorem dX0_cut_47 : decode cX0_cut 47 = .ok (.iload_n 3, 1) := by decide +kernel
theorem dX0_cut_48 : decode cX0_cut 48 = .ok (.bipush (-24), 2) := by decide +kernel
theorem dX0_cut_50 : decode cX0_cut 50 = .ok (.if_icmp .ge 5, 3) := by decide +kernel
theorem dX0_cut_53 : decode cX0_cut 53 = .ok (.iconst 0, 1) := by decide +kernel
theorem dX0_cut_54 : decode cX0_cut 54 = .ok (.ireturn, 1) := by decide +kernel
theorem dX0_cut_55 : decode cX0_cut 55 = .ok (.iload_n 3, 1) := by decide +kernel
theorem dX0_cut_56 : decode cX0_cut 56 = .ok (.ifCond .lt 12, 3) := by decide +kernel
theorem dX0_cut_59 : decode cX0_cut 59 = .ok (.iload_n 2, 1) := by decide +kernel
theorem dX0_cut_60 : decode cX0_cut 60 = .ok (.invokestatic 67, 3) := by decide +kernel
theorem dX0_cut_63 : decode cX0_cut 63 = .ok (.iload_n 3, 1) := by decide +kernel
theorem dX0_cut_64 : decode cX0_cut 64 = .ok (.lshl, 1) := by decide +kernel
theorem dX0_cut_65 : decode cX0_cut 65 = .ok (.goto 10, 3) := by decide +kernel
theorem dX0_cut_68 : decode cX0_cut 68 = .ok (.iload_n 2, 1) := by decide +kernel
theorem dX0_cut_69 : decode cX0_cut 69 = .ok (.invokestatic 67, 3) := by decide +kernel
theorem dX0_cut_72 : decode cX0_cut 72 = .ok (.iload_n 3, 1) := by decide +kernel
theorem dX0_cut_73 : decode cX0_cut 73 = .ok (.ineg, 1) := by decide +kernel
theorem dX0_cut_74 : decode cX0_cut 74 = .ok (.lshr, 1) := by decide +kernel
theorem dX0_cut_75 : decode cX0_cut 75 = .ok (.l2i, 1) := by decide +kernel
theorem dX0_cut_76 : decode cX0_cut 76 = .ok (.istore 4, 2) := by decide +kernel
theorem dX0_cut_78 : decode cX0_cut 78 = .ok (.iload_n 2, 1) := by decide +kernel
theorem dX0_cut_79 : decode cX0_cut 79 = .ok (.ifCond .ge 9, 3) := by decide +kernel
theorem dX0_cut_82 : decode cX0_cut 82 = .ok (.iload 4, 2) := by decide +kernel
theorem dX0_cut_84 : decode cX0_cut 84 = .ok (.ineg, 1) := by decide +kernel
theorem dX0_cut_85 : decode cX0_cut 85 = .ok (.goto 5, 3) := by decide +kernel
theorem dX0_cut_88 : decode cX0_cut 88 = .ok (.iload 4, 2) := by decide +kernel
theorem dX0_cut_90 : decode cX0_cut 90 = .ok (.ireturn, 1) := by decide +kernel
theorem dX0_isNan_0 : decode cX0_isNan 0 = .ok (.iload_n 0, 1) := by decide +kernel
theorem dX0_isNan_1 : decode cX0_isNan 1 = .ok (.ldc 58, 2) := by decide +kernel
theorem dX0_isNan_3 : decode cX0_isNan 3 = .ok (.iand, 1) := by decide +kernel
theorem dX0_isNan_4 : decode cX0_isNan 4 = .ok (.ldc 71, 2) := by decide +kernel
theorem dX0_isNan_6 : decode cX0_isNan 6 = .ok (.if_icmp .le 7, 3) := by decide +kernel
theorem dX0_isNan_9 : decode cX0_isNan 9 = .ok (.iconst 1, 1) := by decide +kernel
theorem dX0_isNan_10 : decode cX0_isNan 10 = .ok (.goto 4, 3) := by decide +kernel
theorem dX0_isNan_13 : decode cX0_isNan 13 = .ok (.iconst 0, 1) := by decide +kernel
theorem dX0_isNan_14 : decode cX0_isNan 14 = .ok (.ireturn, 1) := by decide +kernel
theorem dX0_isBelow_0 : decode cX0_isBelow 0 = .ok (.iload_n 0, 1) := by decide +kernel
theorem dX0_isBelow_1 : decode cX0_isBelow 1 = .ok (.invokestatic 36, 3) := by decide +kernel
theorem dX0_isBelow_4 : decode cX0_isBelow 4 = .ok (.ifCond .ne 25, 3) := by decide +kernel
theorem dX0_isBelow_7 : decode cX0_isBelow 7 = .ok (.iload_n 1, 1) := by decide +kernel
theorem dX0_isBelow_8 : decode cX0_isBelow 8 = .ok (.invokestatic 36, 3) := by decide +kernel
theorem dX0_isBelow_11 : decode cX0_isBelow 11 = .ok (.ifCond .ne 18, 3) := by decide +kernel
theorem dX0_isBelow_14 : decode cX0_isBelow 14 = .ok (.iload_n 0, 1) := by decide +kernel
theorem dX0_isBelow_15 : decode cX0_isBelow 15 = .ok (.invokestatic 72, 3) := by decide +kernel
theorem dX0_isBelow_18 : decode cX0_isBelow 18 = .ok (.iload_n 1, 1) := by decide +kernel
theorem dX0_isBelow_19 : decode cX0_isBelow 19 = .ok (.invokestatic 72, 3) := by decide +kernel
theorem dX0_isBelow_22 : decode cX0_isBelow 22 = .ok (.if_icmp .ge 7, 3) := by decide +kernel
theorem dX0_isBelow_25 : decode cX0_isBelow 25 = .ok (.iconst 1, 1) := by decide +kernel
theorem dX0_isBelow_26 : decode cX0_isBelow 26 = .ok (.goto 4, 3) := by decide +kernel
theorem dX0_isBelow_29 : decode cX0_isBelow 29 = .ok (.iconst 0, 1) := by decide +kernel
theorem dX0_isBelow_30 : decode cX0_isBelow 30 = .ok (.ireturn, 1) := by decide +kernel
theorem dX0_isEqual_0 : decode cX0_isEqual 0 = .ok (.iload_n 0, 1) := by decide +kernel
theorem dX0_isEqual_1 : decode cX0_isEqual 1 = .ok (.invokestatic 36, 3) := by decide +kernel
theorem dX0_isEqual_4 : decode cX0_isEqual 4 = .ok (.ifCond .ne 25, 3) := by decide +kernel
theorem dX0_isEqual_7 : decode cX0_isEqual 7 = .ok (.iload_n 1, 1) := by decide +kernel
theorem dX0_isEqual_8 : decode cX0_isEqual 8 = .ok (.invokestatic 36, 3) := by decide +kernel
theorem dX0_isEqual_11 : decode cX0_isEqual 11 = .ok (.ifCond .ne 18, 3) := by decide +kernel
theorem dX0_isEqual_14 : decode cX0_isEqual 14 = .ok (.iload_n 0, 1) := by decide +kernel
theorem dX0_isEqual_15 : decode cX0_isEqual 15 = .ok (.invokestatic 72, 3) := by decide +kernel
theorem dX0_isEqual_18 : decode cX0_isEqual 18 = .ok (.iload_n 1, 1) := by decide +kernel
theorem dX0_isEqual_19 : decode cX0_isEqual 19 = .ok (.invokestatic 72, 3) := by decide +kernel
theorem dX0_isEqual_22 : decode cX0_isEqual 22 = .ok (.if_icmp .ne 7, 3) := by decide +kernel
theorem dX0_isEqual_25 : decode cX0_isEqual 25 = .ok (.iconst 1, 1) := by decide +kernel
theorem dX0_isEqual_26 : decode cX0_isEqual 26 = .ok (.goto 4, 3) := by decide +kernel
theorem dX0_isEqual_29 : decode cX0_isEqual 29 = .ok (.iconst 0, 1) := by decide +kernel
theorem dX0_isEqual_30 : decode cX0_isEqual 30 = .ok (.ireturn, 1) := by decide +kernel
theorem dX0_ordered_0 : decode cX0_ordered 0 = .ok (.iload_n 0, 1) := by decide +kernel
theorem dX0_ordered_1 : decode cX0_ordered 1 = .ok (.ifCond .ge 11, 3) := by decide +kernel
theorem dX0_ordered_4 : decode cX0_ordered 4 = .ok (.iload_n 0, 1) := by decide +kernel
theorem dX0_ordered_5 : decode cX0_ordered 5 = .ok (.ldc 58, 2) := by decide +kernel
theorem dX0_ordered_7 : decode cX0_ordered 7 = .ok (.iand, 1) := by decide +kernel
theorem dX0_ordered_8 : decode cX0_ordered 8 = .ok (.ineg, 1) := by decide +kernel
theorem dX0_ordered_9 : decode cX0_ordered 9 = .ok (.goto 4, 3) := by decide +kernel
theorem dX0_ordered_12 : decode cX0_ordered 12 = .ok (.iload_n 0, 1) := by decide +kernel
theorem dX0_ordered_13 : decode cX0_ordered 13 = .ok (.ireturn, 1) := by decide +kernel
theorem dX0_wholeOf_0 : decode cX0_wholeOf 0 = .ok (.iload_n 0, 1) := by decide +kernel
theorem dX0_wholeOf_1 : decode cX0_wholeOf 1 = .ok (.ldc 75, 2) := by decide +kernel
theorem dX0_wholeOf_3 : decode cX0_wholeOf 3 = .ok (.iand, 1) := by decide +kernel
theorem dX0_wholeOf_4 : decode cX0_wholeOf 4 = .ok (.istore_n 1, 1) := by decide +kernel
theorem dX0_wholeOf_5 : decode cX0_wholeOf 5 = .ok (.iload_n 0, 1) := by decide +kernel
theorem dX0_wholeOf_6 : decode cX0_wholeOf 6 = .ok (.ldc 71, 2) := by decide +kernel
theorem dX0_wholeOf_8 : decode cX0_wholeOf 8 = .ok (.iand, 1) := by decide +kernel
theorem dX0_wholeOf_9 : decode cX0_wholeOf 9 = .ok (.ifCond .ne 8, 3) := by decide +kernel
theorem dX0_wholeOf_12 : decode cX0_wholeOf 12 = .ok (.iload_n 1, 1) := by decide +kernel
theorem dX0_wholeOf_13 : decode cX0_wholeOf 13 = .ok (.i2l, 1) := by decide +kernel
theorem dX0_wholeOf_14 : decode cX0_wholeOf 14 = .ok (.goto 8, 3) := by decide +kernel
theorem dX0_wholeOf_17 : decode cX0_wholeOf 17 = .ok (.iload_n 1, 1) := by decide +kernel
theorem dX0_wholeOf_18 : decode cX0_wholeOf 18 = .ok (.ldc 76, 2) := by decide +kernel
theorem dX0_wholeOf_20 : decode cX0_wholeOf 20 = .ok (.ior, 1) := by decide +kernel
theorem dX0_wholeOf_21 : decode cX0_wholeOf 21 = .ok (.i2l, 1) := by decide +kernel
theorem dX0_wholeOf_22 : decode cX0_wholeOf 22 = .ok (.lreturn, 1) := by decide +kernel
theorem dX0_lastBitOf_0 : decode cX0_lastBitOf 0 = .ok (.iload_n 0, 1) := by decide +kernel
theorem dX0_lastBitOf_1 : decode cX0_lastBitOf 1 = .ok (.ldc 71, 2) := by decide +kernel
theorem dX0_lastBitOf_3 : decode cX0_lastBitOf 3 = .ok (.iand, 1) := by decide +kernel
theorem dX0_lastBitOf_4 : decode cX0_lastBitOf 4 = .ok (.bipush 23, 2) := by decide +kernel
theorem dX0_lastBitOf_6 : decode cX0_lastBitOf 6 = .ok (.iushr, 1) := by decide +kernel
theorem dX0_lastBitOf_7 : decode cX0_lastBitOf 7 = .ok (.istore_n 1, 1) := by decide +kernel
theorem dX0_lastBitOf_8 : decode cX0_lastBitOf 8 = .ok (.iload_n 1, 1) := by decide +kernel
theorem dX0_lastBitOf_9 : decode cX0_lastBitOf 9 = .ok (.ifCond .ne 7, 3) := by decide +kernel
theorem dX0_lastBitOf_12 : decode cX0_lastBitOf 12 = .ok (.iconst 1, 1) := by decide +kernel
theorem dX0_lastBitOf_13 : decode cX0_lastBitOf 13 = .ok (.goto 4, 3) := by decide +kernel
theorem dX0_lastBitOf_16 : decode cX0_lastBitOf 16 = .ok (.iload_n 1, 1) := by decide +kernel
theorem dX0_lastBitOf_17 : decode cX0_lastBitOf 17 = .ok (.sipush 150, 3) := by decide +kernel
theorem dX0_lastBitOf_20 : decode cX0_lastBitOf 20 = .ok (.isub, 1) := by decide +kernel
theorem dX0_lastBitOf_21 : decode cX0_lastBitOf 21 = .ok (.ireturn, 1) := by decide +kernel
theorem dX0_add_0 : decode cX0_add 0 = .ok (.iload_n 0, 1) := by decide +kernel
theorem dX0_add_1 : decode cX0_add 1 = .ok (.ldc 58, 2) := by decide +kernel
theorem dX0_add_3 : decode cX0_add 3 = .ok (.iand, 1) := by decide +kernel
theorem dX0_add_4 : decode cX0_add 4 = .ok (.ldc 71, 2) := by decide +kernel
theorem dX0_add_6 : decode cX0_add 6 = .ok (.if_icmp .ne 7, 3) := by decide +kernel
theorem dX0_add_9 : decode cX0_add 9 = .ok (.iconst 1, 1) := by decide +kernel
theorem dX0_add_10 : decode cX0_add 10 = .ok (.goto 4, 3) := by decide +kernel
theorem dX0_add_13 : decode cX0_add 13 = .ok (.iconst 0, 1) := by decide +kernel
theorem dX0_add_14 : decode cX0_add 14 = .ok (.istore_n 2, 1) := by decide +kernel
theorem dX0_add_15 : decode cX0_add 15 = .ok (.iload_n 2, 1) := by decide +kernel
theorem dX0_add_16 : decode cX0_add 16 = .ok (.ifCond .ne 12, 3) := by decide +kernel
theorem dX0_add_19 : decode cX0_add 19 = .ok (.iload_n 1, 1) := by decide +kernel
theorem dX0_add_20 : decode cX0_add 20 = .ok (.ldc 58, 2) := by decide +kernel
theorem dX0_add_22 : decode cX0_add 22 = .ok (.iand, 1) := by decide +kernel
theorem dX0_add_23 : decode cX0_add 23 = .ok (.ldc 71, 2) := by decide +kernel
theorem dX0_add_25 : decode cX0_add 25 = .ok (.if_icmp .ne 36, 3) := by decide +kernel
theorem dX0_add_28 : decode cX0_add 28 = .ok (.iload_n 0, 1) := by decide +kernel
theorem dX0_add_29 : decode cX0_add 29 = .ok (.iload_n 1, 1) := by decide +kernel
theorem dX0_add_30 : decode cX0_add 30 = .ok (.ixor, 1) := by decide +kernel
theorem dX0_add_31 : decode cX0_add 31 = .ok (.ldc 51, 2) := by decide +kernel
theorem dX0_add_33 : decode cX0_add 33 = .ok (.if_icmp .ne 7, 3) := by decide +kernel
theorem dX0_add_36 : decode cX0_add 36 = .ok (.iconst 1, 1) := by decide +kernel
theorem dX0_add_37 : decode cX0_add 37 = .ok (.goto 4, 3) := by decide +kernel
theorem dX0_add_40 : decode cX0_add 40 = .ok (.iconst 0, 1) := by decide +kernel
theorem dX0_add_41 : decode cX0_add 41 = .ok (.istore_n 3, 1) := by decide +kernel
theorem dX0_add_42 : decode cX0_add 42 = .ok (.iload_n 3, 1) := by decide +kernel
theorem dX0_add_43 : decode cX0_add 43 = .ok (.ifCond .eq 8, 3) := by decide +kernel
theorem dX0_add_46 : decode cX0_add 46 = .ok (.ldc 47, 2) := by decide +kernel
theorem dX0_add_48 : decode cX0_add 48 = .ok (.goto 12, 3) := by decide +kernel
theorem dX0_add_51 : decode cX0_add 51 = .ok (.iload_n 2, 1) := by decide +kernel
theorem dX0_add_52 : decode cX0_add 52 = .ok (.ifCond .eq 7, 3) := by decide +kernel
theorem dX0_add_55 : decode cX0_add 55 = .ok (.iload_n 0, 1) := by decide +kernel
theorem dX0_add_56 : decode cX0_add 56 = .ok (.goto 4, 3) := by decide +kernel
theorem dX0_add_59 : decode cX0_add 59 = .ok (.iload_n 1, 1) := by decide +kernel
theorem dX0_add_60 : decode cX0_add 60 = .ok (.ireturn, 1) := by decide +kernel
theorem dX0_add_61 : decode cX0_add 61 = .ok (.iload_n 0, 1) := by decide +kernel
theorem dX0_add_62 : decode cX0_add 62 = .ok (.ldc 58, 2) := by decide +kernel
theorem dX0_add_64 : decode cX0_add 64 = .ok (.iand, 1) := by decide +kernel
theorem dX0_add_65 : decode cX0_add 65 = .ok (.iload_n 1, 1) := by decide +kernel
theorem dX0_add_66 : decode cX0_add 66 = .ok (.ldc 58, 2) := by decide +kernel
theorem dX0_add_68 : decode cX0_add 68 = .ok (.iand, 1) := by decide +kernel
theorem dX0_add_69 : decode cX0_add 69 = .ok (.if_icmp .lt 7, 3) := by decide +kernel
theorem dX0_add_72 : decode cX0_add 72 = .ok (.iload_n 0, 1) := by decide +kernel
theorem dX0_add_73 : decode cX0_add 73 = .ok (.goto 4, 3) := by decide +kernel
theorem dX0_add_76 : decode cX0_add 76 = .ok (.iload_n 1, 1) := by decide +kernel
theorem dX0_add_77 : decode cX0_add 77 = .ok (.istore_n 3, 1) := by decide +kernel
theorem dX0_add_78 : decode cX0_add 78 = .ok (.iload_n 3, 1) := by decide +kernel
theorem dX0_add_79 : decode cX0_add 79 = .ok (.iload_n 0, 1) := by decide +kernel
theorem dX0_add_80 : decode cX0_add 80 = .ok (.if_icmp .ne 7, 3) := by decide +kernel
theorem dX0_add_83 : decode cX0_add 83 = .ok (.iload_n 1, 1) := by decide +kernel
theorem dX0_add_84 : decode cX0_add 84 = .ok (.goto 4, 3) := by decide +kernel
theorem dX0_add_87 : decode cX0_add 87 = .ok (.iload_n 0, 1) := by decide +kernel
theorem dX0_add_88 : decode cX0_add 88 = .ok (.istore 4, 2) := by decide +kernel
theorem dX0_add_90 : decode cX0_add 90 = .ok (.iload_n 3, 1) := by decide +kernel
theorem dX0_add_91 : decode cX0_add 91 = .ok (.invokestatic 63, 3) := by decide +kernel
theorem dX0_add_94 : decode cX0_add 94 = .ok (.iload 4, 2) := by decide +kernel
theorem dX0_add_96 : decode cX0_add 96 = .ok (.invokestatic 63, 3) := by decide +kernel
theorem dX0_add_99 : decode cX0_add 99 = .ok (.isub, 1) := by decide +kernel
theorem dX0_add_100 : decode cX0_add 100 = .ok (.istore 5, 2) := by decide +kernel
theorem dX0_add_102 : decode cX0_add 102 = .ok (.iload 5, 2) := by decide +kernel
theorem dX0_add_104 : decode cX0_add 104 = .ok (.bipush 36, 2) := by decide +kernel
theorem dX0_add_106 : decode cX0_add 106 = .ok (.if_icmp .le 5, 3) := by decide +kernel
theorem dX0_add_109 : decode cX0_add 109 = .ok (.iload_n 3, 1) := by decide +kernel
theorem dX0_add_110 : decode cX0_add 110 = .ok (.ireturn, 1) := by decide +kernel
theorem dX0_add_111 : decode cX0_add 111 = .ok (.iload_n 3, 1) := by decide +kernel
theorem dX0_add_112 : decode cX0_add 112 = .ok (.invokestatic 67, 3) := by decide +kernel
theorem dX0_add_115 : decode cX0_add 115 = .ok (.iload 5, 2) := by decide +kernel
theorem dX0_add_117 : decode cX0_add 117 = .ok (.lshl, 1) := by decide +kernel
theorem dX0_add_118 : decode cX0_add 118 = .ok (.lstore 6, 2) := by decide +kernel
theorem dX0_add_120 : decode cX0_add 120 = .ok (.iload_n 0, 1) := by decide +kernel
theorem dX0_add_121 : decode cX0_add 121 = .ok (.iload_n 1, 1) := by decide +kernel
theorem dX0_add_122 : decode cX0_add 122 = .ok (.ixor, 1) := by decide +kernel
theorem dX0_add_123 : decode cX0_add 123 = .ok (.ifCond .ge 14, 3) := by decide +kernel
theorem dX0_add_126 : decode cX0_add 126 = .ok (.lload 6, 2) := by decide +kernel
theorem dX0_add_128 : decode cX0_add 128 = .ok (.iload 4, 2) := by decide +kernel
theorem dX0_add_130 : decode cX0_add 130 = .ok (.invokestatic 67, 3) := by decide +kernel
theorem dX0_add_133 : decode cX0_add 133 = .ok (.lsub, 1) := by decide +kernel
theorem dX0_add_134 : decode cX0_add 134 = .ok (.goto 11, 3) := by decide +kernel
theorem dX0_add_137 : decode cX0_add 137 = .ok (.lload 6, 2) := by decide +kernel
theorem dX0_add_139 : decode cX0_add 139 = .ok (.iload 4, 2) := by decide +kernel
theorem dX0_add_141 : decode cX0_add 141 = .ok (.invokestatic 67, 3) := by decide +kernel
theorem dX0_add_144 : decode cX0_add 144 = .ok (.ladd, 1) := by decide +kernel
theorem dX0_add_145 : decode cX0_add 145 = .ok (.lstore 6, 2) := by decide +kernel
theorem dX0_add_147 : decode cX0_add 147 = .ok (.lload 6, 2) := by decide +kernel
theorem dX0_add_149 : decode cX0_add 149 = .ok (.lconst 0, 1) := by decide +kernel
theorem dX0_add_150 : decode cX0_add 150 = .ok (.lcmp, 1) := by decide +kernel
theorem dX0_add_151 : decode cX0_add 151 = .ok (.ifCond .ne 10, 3) := by decide +kernel
theorem dX0_add_154 : decode cX0_add 154 = .ok (.iload_n 0, 1) := by decide +kernel
theorem dX0_add_155 : decode cX0_add 155 = .ok (.iload_n 1, 1) := by decide +kernel
theorem dX0_add_156 : decode cX0_add 156 = .ok (.iand, 1) := by decide +kernel
theorem dX0_add_157 : decode cX0_add 157 = .ok (.ldc 51, 2) := by decide +kernel
theorem dX0_add_159 : decode cX0_add 159 = .ok (.iand, 1) := by decide +kernel
theorem dX0_add_160 : decode cX0_add 160 = .ok (.ireturn, 1) := by decide +kernel
theorem dX0_add_161 : decode cX0_add 161 = .ok (.iload_n 3, 1) := by decide +kernel
theorem dX0_add_162 : decode cX0_add 162 = .ok (.bipush 31, 2) := by decide +kernel
theorem dX0_add_164 : decode cX0_add 164 = .ok (.iushr, 1) := by decide +kernel
theorem dX0_add_165 : decode cX0_add 165 = .ok (.lload 6, 2) := by decide +kernel
theorem dX0_add_167 : decode cX0_add 167 = .ok (.iload 4, 2) := by decide +kernel
theorem dX0_add_169 : decode cX0_add 169 = .ok (.invokestatic 63, 3) := by decide +kernel
theorem dX0_add_172 : decode cX0_add 172 = .ok (.invokestatic 59, 3) := by decide +kernel
theorem dX0_add_175 : decode cX0_add 175 = .ok (.ireturn, 1) := by decide +kernel
theorem dX0_multiply_0 : decode cX0_multiply 0 = .ok (.iload_n 0, 1) := by decide +kernel
theorem dX0_multiply_1 : decode cX0_multiply 1 = .ok (.iload_n 1, 1) := by decide +kernel
theorem dX0_multiply_2 : decode cX0_multiply 2 = .ok (.ixor, 1) := by decide +kernel
theorem dX0_multiply_3 : decode cX0_multiply 3 = .ok (.bipush 31, 2) := by decide +kernel
theorem dX0_multiply_5 : decode cX0_multiply 5 = .ok (.iushr, 1) := by decide +kernel
theorem dX0_multiply_6 : decode cX0_multiply 6 = .ok (.istore_n 2, 1) := by decide +kernel
theorem dX0_multiply_7 : decode cX0_multiply 7 = .ok (.iload_n 0, 1) := by decide +kernel
theorem dX0_multiply_8 : decode cX0_multiply 8 = .ok (.ldc 58, 2) := by decide +kernel
theorem dX0_multiply_10 : decode cX0_multiply 10 = .ok (.iand, 1) := by decide +kernel
theorem dX0_multiply_11 : decode cX0_multiply 11 = .ok (.ldc 71, 2) := by decide +kernel
theorem dX0_multiply_13 : decode cX0_multiply 13 = .ok (.if_icmp .eq 12, 3) := by decide +kernel
theorem dX0_multiply_16 : decode cX0_multiply 16 = .ok (.iload_n 1, 1) := by decide +kernel
theorem dX0_multiply_17 : decode cX0_multiply 17 = .ok (.ldc 58, 2) := by decide +kernel
theorem dX0_multiply_19 : decode cX0_multiply 19 = .ok (.iand, 1) := by decide +kernel
theorem dX0_multiply_20 : decode cX0_multiply 20 = .ok (.ldc 71, 2) := by decide +kernel
theorem dX0_multiply_22 : decode cX0_multiply 22 = .ok (.if_icmp .ne 7, 3) := by decide +kernel
theorem dX0_multiply_25 : decode cX0_multiply 25 = .ok (.iconst 1, 1) := by decide +kernel
theorem dX0_multiply_26 : decode cX0_multiply 26 = .ok (.goto 4, 3) := by decide +kernel
theorem dX0_multiply_29 : decode cX0_multiply 29 = .ok (.iconst 0, 1) := by decide +kernel
theorem dX0_multiply_30 : decode cX0_multiply 30 = .ok (.istore_n 3, 1) := by decide +kernel
theorem dX0_multiply_31 : decode cX0_multiply 31 = .ok (.iload_n 0, 1) := by decide +kernel
theorem dX0_multiply_32 : decode cX0_multiply 32 = .ok (.ldc 58, 2) := by decide +kernel
theorem dX0_multiply_34 : decode cX0_multiply 34 = .ok (.iand, 1) := by decide +kernel
theorem dX0_multiply_35 : decode cX0_multiply 35 = .ok (.ifCond .eq 10, 3) := by decide +kernel
theorem dX0_multiply_38 : decode cX0_multiply 38 = .ok (.iload_n 1, 1) := by decide +kernel
theorem dX0_multiply_39 : decode cX0_multiply 39 = .ok (.ldc 58, 2) := by decide +kernel
theorem dX0_multiply_41 : decode cX0_multiply 41 = .ok (.iand, 1) := by decide +kernel
theorem dX0_multiply_42 : decode cX0_multiply 42 = .ok (.ifCond .ne 7, 3) := by decide +kernel
theorem dX0_multiply_45 : decode cX0_multiply 45 = .ok (.iconst 1, 1) := by decide +kernel
theorem dX0_multiply_46 : decode cX0_multiply 46 = .ok (.goto 4, 3) := by decide +kernel
theorem dX0_multiply_49 : decode cX0_multiply 49 = .ok (.iconst 0, 1) := by decide +kernel
theorem dX0_multiply_50 : decode cX0_multiply 50 = .ok (.istore 4, 2) := by decide +kernel
theorem dX0_multiply_52 : decode cX0_multiply 52 = .ok (.iload_n 3, 1) := by decide +kernel
theorem dX0_multiply_53 : decode cX0_multiply 53 = .ok (.ifCond .eq 21, 3) := by decide +kernel
theorem dX0_multiply_56 : decode cX0_multiply 56 = .ok (.iload 4, 2) := by decide +kernel
theorem dX0_multiply_58 : decode cX0_multiply 58 = .ok (.ifCond .eq 8, 3) := by decide +kernel
theorem dX0_multiply_61 : decode cX0_multiply 61 = .ok (.ldc 47, 2) := by decide +kernel
theorem dX0_multiply_63 : decode cX0_multiply 63 = .ok (.goto 10, 3) := by decide +kernel
theorem dX0_multiply_66 : decode cX0_multiply 66 = .ok (.iload_n 2, 1) := by decide +kernel
theorem dX0_multiply_67 : decode cX0_multiply 67 = .ok (.bipush 31, 2) := by decide +kernel
theorem dX0_multiply_69 : decode cX0_multiply 69 = .ok (.ishl, 1) := by decide +kernel
theorem dX0_multiply_70 : decode cX0_multiply 70 = .ok (.ldc 71, 2) := by decide +kernel
theorem dX0_multiply_72 : decode cX0_multiply 72 = .ok (.ior, 1) := by decide +kernel
theorem dX0_multiply_73 : decode cX0_multiply 73 = .ok (.ireturn, 1) := by decide +kernel
theorem dX0_multiply_74 : decode cX0_multiply 74 = .ok (.iload_n 2, 1) := by decide +kernel
theorem dX0_multiply_75 : decode cX0_multiply 75 = .ok (.iload_n 0, 1) := by decide +kernel
theorem dX0_multiply_76 : decode cX0_multiply 76 = .ok (.invokestatic 67, 3) := by decide +kernel
theorem dX0_multiply_79 : decode cX0_multiply 79 = .ok (.iload_n 1, 1) := by decide +kernel
theorem dX0_multiply_80 : decode cX0_multiply 80 = .ok (.invokestatic 67, 3) := by decide +kernel
theorem dX0_multiply_83 : decode cX0_multiply 83 = .ok (.lmul, 1) := by decide +kernel
theorem dX0_multiply_84 : decode cX0_multiply 84 = .ok (.iload_n 0, 1) := by decide +kernel
theorem dX0_multiply_85 : decode cX0_multiply 85 = .ok (.invokestatic 63, 3) := by decide +kernel
theorem dX0_multiply_88 : decode cX0_multiply 88 = .ok (.iload_n 1, 1) := by decide +kernel
theorem dX0_multiply_89 : decode cX0_multiply 89 = .ok (.invokestatic 63, 3) := by decide +kernel
theorem dX0_multiply_92 : decode cX0_multiply 92 = .ok (.iadd, 1) := by decide +kernel
theorem dX0_multiply_93 : decode cX0_multiply 93 = .ok (.invokestatic 59, 3) := by decide +kernel
theorem dX0_multiply_96 : decode cX0_multiply 96 = .ok (.ireturn, 1) := by decide +kernel
theorem dX0_divide_0 : decode cX0_divide 0 = .ok (.iload_n 0, 1) := by decide +kernel
theorem dX0_divide_1 : decode cX0_divide 1 = .ok (.iload_n 1, 1) := by decide +kernel
theorem dX0_divide_2 : decode cX0_divide 2 = .ok (.ixor, 1) := by decide +kernel
theorem dX0_divide_3 : decode cX0_divide 3 = .ok (.bipush 31, 2) := by decide +kernel
theorem dX0_divide_5 : decode cX0_divide 5 = .ok (.iushr, 1) := by decide +kernel
theorem dX0_divide_6 : decode cX0_divide 6 = .ok (.istore_n 2, 1) := by decide +kernel
theorem dX0_divide_7 : decode cX0_divide 7 = .ok (.iload_n 0, 1) := by decide +kernel
theorem dX0_divide_8 : decode cX0_divide 8 = .ok (.ldc 58, 2) := by decide +kernel
theorem dX0_divide_10 : decode cX0_divide 10 = .ok (.iand, 1) := by decide +kernel
theorem dX0_divide_11 : decode cX0_divide 11 = .ok (.ldc 71, 2) := by decide +kernel
theorem dX0_divide_13 : decode cX0_divide 13 = .ok (.if_icmp .ne 7, 3) := by decide +kernel
theorem dX0_divide_16 : decode cX0_divide 16 = .ok (.iconst 1, 1) := by decide +kernel
theorem dX0_divide_17 : decode cX0_divide 17 = .ok (.goto 4, 3) := by decide +kernel
theorem dX0_divide_20 : decode cX0_divide 20 = .ok (.iconst 0, 1) := by decide +kernel
theorem dX0_divide_21 : decode cX0_divide 21 = .ok (.istore_n 3, 1) := by decide +kernel
theorem dX0_divide_22 : decode cX0_divide 22 = .ok (.iload_n 1, 1) := by decide +kernel
theorem dX0_divide_23 : decode cX0_divide 23 = .ok (.ldc 58, 2) := by decide +kernel
theorem dX0_divide_25 : decode cX0_divide 25 = .ok (.iand, 1) := by decide +kernel
theorem dX0_divide_26 : decode cX0_divide 26 = .ok (.ldc 71, 2) := by decide +kernel
theorem dX0_divide_28 : decode cX0_divide 28 = .ok (.if_icmp .ne 7, 3) := by decide +kernel
theorem dX0_divide_31 : decode cX0_divide 31 = .ok (.iconst 1, 1) := by decide +kernel
theorem dX0_divide_32 : decode cX0_divide 32 = .ok (.goto 4, 3) := by decide +kernel
theorem dX0_divide_35 : decode cX0_divide 35 = .ok (.iconst 0, 1) := by decide +kernel
theorem dX0_divide_36 : decode cX0_divide 36 = .ok (.istore 4, 2) := by decide +kernel
theorem dX0_divide_38 : decode cX0_divide 38 = .ok (.iload_n 0, 1) := by decide +kernel
theorem dX0_divide_39 : decode cX0_divide 39 = .ok (.invokestatic 67, 3) := by decide +kernel
theorem dX0_divide_42 : decode cX0_divide 42 = .ok (.lstore 5, 2) := by decide +kernel
theorem dX0_divide_44 : decode cX0_divide 44 = .ok (.iload_n 1, 1) := by decide +kernel
theorem dX0_divide_45 : decode cX0_divide 45 = .ok (.invokestatic 67, 3) := by decide +kernel
theorem dX0_divide_48 : decode cX0_divide 48 = .ok (.lstore 7, 2) := by decide +kernel
theorem dX0_divide_50 : decode cX0_divide 50 = .ok (.iload_n 3, 1) := by decide +kernel
theorem dX0_divide_51 : decode cX0_divide 51 = .ok (.ifCond .eq 21, 3) := by decide +kernel
theorem dX0_divide_54 : decode cX0_divide 54 = .ok (.iload 4, 2) := by decide +kernel
theorem dX0_divide_56 : decode cX0_divide 56 = .ok (.ifCond .eq 8, 3) := by decide +kernel
theorem dX0_divide_59 : decode cX0_divide 59 = .ok (.ldc 47, 2) := by decide +kernel
theorem dX0_divide_61 : decode cX0_divide 61 = .ok (.goto 10, 3) := by decide +kernel
theorem dX0_divide_64 : decode cX0_divide 64 = .ok (.iload_n 2, 1) := by decide +kernel
theorem dX0_divide_65 : decode cX0_divide 65 = .ok (.bipush 31, 2) := by decide +kernel
theorem dX0_divide_67 : decode cX0_divide 67 = .ok (.ishl, 1) := by decide +kernel
theorem dX0_divide_68 : decode cX0_divide 68 = .ok (.ldc 71, 2) := by decide +kernel
theorem dX0_divide_70 : decode cX0_divide 70 = .ok (.ior, 1) := by decide +kernel
theorem dX0_divide_71 : decode cX0_divide 71 = .ok (.ireturn, 1) := by decide +kernel
theorem dX0_divide_72 : decode cX0_divide 72 = .ok (.iload 4, 2) := by decide +kernel
theorem dX0_divide_74 : decode cX0_divide 74 = .ok (.ifCond .eq 8, 3) := by decide +kernel
theorem dX0_divide_77 : decode cX0_divide 77 = .ok (.iload_n 2, 1) := by decide +kernel
theorem dX0_divide_78 : decode cX0_divide 78 = .ok (.bipush 31, 2) := by decide +kernel
theorem dX0_divide_80 : decode cX0_divide 80 = .ok (.ishl, 1) := by decide +kernel
theorem dX0_divide_81 : decode cX0_divide 81 = .ok (.ireturn, 1) := by decide +kernel
theorem dX0_divide_82 : decode cX0_divide 82 = .ok (.lload 7, 2) := by decide +kernel
theorem dX0_divide_84 : decode cX0_divide 84 = .ok (.lconst 0, 1) := by decide +kernel
theorem dX0_divide_85 : decode cX0_divide 85 = .ok (.lcmp, 1) := by decide +kernel
theorem dX0_divide_86 : decode cX0_divide 86 = .ok (.ifCond .ne 23, 3) := by decide +kernel
theorem dX0_divide_89 : decode cX0_divide 89 = .ok (.lload 5, 2) := by decide +kernel
theorem dX0_divide_91 : decode cX0_divide 91 = .ok (.lconst 0, 1) := by decide +kernel
theorem dX0_divide_92 : decode cX0_divide 92 = .ok (.lcmp, 1) := by decide +kernel
theorem dX0_divide_93 : decode cX0_divide 93 = .ok (.ifCond .ne 8, 3) := by decide +kernel
theorem dX0_divide_96 : decode cX0_divide 96 = .ok (.ldc 47, 2) := by decide +kernel
theorem dX0_divide_98 : decode cX0_divide 98 = .ok (.goto 10, 3) := by decide +kernel
theorem dX0_divide_101 : decode cX0_divide 101 = .ok (.iload_n 2, 1) := by decide +kernel
theorem dX0_divide_102 : decode cX0_divide 102 = .ok (.bipush 31, 2) := by decide +kernel
theorem dX0_divide_104 : decode cX0_divide 104 = .ok (.ishl, 1) := by decide +kernel
theorem dX0_divide_105 : decode cX0_divide 105 = .ok (.ldc 71, 2) := by decide +kernel
theorem dX0_divide_107 : decode cX0_divide 107 = .ok (.ior, 1) := by decide +kernel
theorem dX0_divide_108 : decode cX0_divide 108 = .ok (.ireturn, 1) := by decide +kernel
theorem dX0_divide_109 : decode cX0_divide 109 = .ok (.lload 5, 2) := by decide +kernel
theorem dX0_divide_111 : decode cX0_divide 111 = .ok (.lconst 0, 1) := by decide +kernel
theorem dX0_divide_112 : decode cX0_divide 112 = .ok (.lcmp, 1) := by decide +kernel
theorem dX0_divide_113 : decode cX0_divide 113 = .ok (.ifCond .ne 8, 3) := by decide +kernel
theorem dX0_divide_116 : decode cX0_divide 116 = .ok (.iload_n 2, 1) := by decide +kernel
theorem dX0_divide_117 : decode cX0_divide 117 = .ok (.bipush 31, 2) := by decide +kernel
theorem dX0_divide_119 : decode cX0_divide 119 = .ok (.ishl, 1) := by decide +kernel
theorem dX0_divide_120 : decode cX0_divide 120 = .ok (.ireturn, 1) := by decide +kernel
theorem dX0_divide_121 : decode cX0_divide 121 = .ok (.lload 5, 2) := by decide +kernel
theorem dX0_divide_123 : decode cX0_divide 123 = .ok (.invokestatic 77, 3) := by decide +kernel
theorem dX0_divide_126 : decode cX0_divide 126 = .ok (.iconst 3, 1) := by decide +kernel
theorem dX0_divide_127 : decode cX0_divide 127 = .ok (.isub, 1) := by decide +kernel
theorem dX0_divide_128 : decode cX0_divide 128 = .ok (.istore 9, 2) := by decide +kernel
theorem dX0_divide_130 : decode cX0_divide 130 = .ok (.lload 5, 2) := by decide +kernel
theorem dX0_divide_132 : decode cX0_divide 132 = .ok (.iload 9, 2) := by decide +kernel
theorem dX0_divide_134 : decode cX0_divide 134 = .ok (.lshl, 1) := by decide +kernel
theorem dX0_divide_135 : decode cX0_divide 135 = .ok (.lstore 5, 2) := by decide +kernel
theorem dX0_divide_137 : decode cX0_divide 137 = .ok (.lload 5, 2) := by decide +kernel
theorem dX0_divide_139 : decode cX0_divide 139 = .ok (.lload 7, 2) := by decide +kernel
theorem dX0_divide_141 : decode cX0_divide 141 = .ok (.ldiv, 1) := by decide +kernel
theorem dX0_divide_142 : decode cX0_divide 142 = .ok (.lstore 10, 2) := by decide +kernel
theorem dX0_divide_144 : decode cX0_divide 144 = .ok (.lload 5, 2) := by decide +kernel
theorem dX0_divide_146 : decode cX0_divide 146 = .ok (.lload 7, 2) := by decide +kernel
theorem dX0_divide_148 : decode cX0_divide 148 = .ok (.lrem, 1) := by decide +kernel
theorem dX0_divide_149 : decode cX0_divide 149 = .ok (.lconst 0, 1) := by decide +kernel
theorem dX0_divide_150 : decode cX0_divide 150 = .ok (.lcmp, 1) := by decide +kernel
theorem dX0_divide_151 : decode cX0_divide 151 = .ok (.ifCond .ne 7, 3) := by decide +kernel
theorem dX0_divide_154 : decode cX0_divide 154 = .ok (.lconst 0, 1) := by decide +kernel
theorem dX0_divide_155 : decode cX0_divide 155 = .ok (.goto 4, 3) := by decide +kernel
theorem dX0_divide_158 : decode cX0_divide 158 = .ok (.lconst 1, 1) := by decide +kernel
theorem dX0_divide_159 : decode cX0_divide 159 = .ok (.lstore 12, 2) := by decide +kernel
theorem dX0_divide_161 : decode cX0_divide 161 = .ok (.iload_n 2, 1) := by decide +kernel
theorem dX0_divide_162 : decode cX0_divide 162 = .ok (.lload 10, 2) := by decide +kernel
theorem dX0_divide_164 : decode cX0_divide 164 = .ok (.lload 12, 2) := by decide +kernel
theorem dX0_divide_166 : decode cX0_divide 166 = .ok (.lor, 1) := by decide +kernel
theorem dX0_divide_167 : decode cX0_divide 167 = .ok (.iload_n 0, 1) := by decide +kernel
theorem dX0_divide_168 : decode cX0_divide 168 = .ok (.invokestatic 63, 3) := by decide +kernel
theorem dX0_divide_171 : decode cX0_divide 171 = .ok (.iload_n 1, 1) := by decide +kernel
theorem dX0_divide_172 : decode cX0_divide 172 = .ok (.invokestatic 63, 3) := by decide +kernel
theorem dX0_divide_175 : decode cX0_divide 175 = .ok (.isub, 1) := by decide +kernel
theorem dX0_divide_176 : decode cX0_divide 176 = .ok (.iload 9, 2) := by decide +kernel
theorem dX0_divide_178 : decode cX0_divide 178 = .ok (.isub, 1) := by decide +kernel
theorem dX0_divide_179 : decode cX0_divide 179 = .ok (.invokestatic 59, 3) := by decide +kernel
theorem dX0_divide_182 : decode cX0_divide 182 = .ok (.ireturn, 1) := by decide +kernel
theorem dX0_pack_0 : decode cX0_pack 0 = .ok (.lload_n 1, 1) := by decide +kernel
theorem dX0_pack_1 : decode cX0_pack 1 = .ok (.lconst 0, 1) := by decide +kernel
theorem dX0_pack_2 : decode cX0_pack 2 = .ok (.lcmp, 1) := by decide +kernel
theorem dX0_pack_3 : decode cX0_pack 3 = .ok (.ifCond .ne 8, 3) := by decide +kernel
theorem dX0_pack_6 : decode cX0_pack 6 = .ok (.iload_n 0, 1) := by decide +kernel
theorem dX0_pack_7 : decode cX0_pack 7 = .ok (.bipush 31, 2) := by decide +kernel
theorem dX0_pack_9 : decode cX0_pack 9 = .ok (.ishl, 1) := by decide +kernel
theorem dX0_pack_10 : decode cX0_pack 10 = .ok (.ireturn, 1) := by decide +kernel
theorem dX0_pack_11 : decode cX0_pack 11 = .ok (.bipush 64, 2) := by decide +kernel
theorem dX0_pack_13 : decode cX0_pack 13 = .ok (.lload_n 1, 1) := by decide +kernel
theorem dX0_pack_14 : decode cX0_pack 14 = .ok (.invokestatic 77, 3) := by decide +kernel
theorem dX0_pack_17 : decode cX0_pack 17 = .ok (.isub, 1) := by decide +kernel
theorem dX0_pack_18 : decode cX0_pack 18 = .ok (.istore 4, 2) := by decide +kernel
theorem dX0_pack_20 : decode cX0_pack 20 = .ok (.iload_n 3, 1) := by decide +kernel
theorem dX0_pack_21 : decode cX0_pack 21 = .ok (.iload 4, 2) := by decide +kernel
theorem dX0_pack_23 : decode cX0_pack 23 = .ok (.iadd, 1) := by decide +kernel
theorem dX0_pack_24 : decode cX0_pack 24 = .ok (.bipush 24, 2) := by decide +kernel
theorem dX0_pack_26 : decode cX0_pack 26 = .ok (.isub, 1) := by decide +kernel
theorem dX0_pack_27 : decode cX0_pack 27 = .ok (.sipush (-149), 3) := by decide +kernel
theorem dX0_pack_30 : decode cX0_pack 30 = .ok (.invokestatic 82, 3) := by decide +kernel
theorem dX0_pack_33 : decode cX0_pack 33 = .ok (.istore 5, 2) := by decide +kernel
theorem dX0_pack_35 : decode cX0_pack 35 = .ok (.iload 5, 2) := by decide +kernel
theorem dX0_pack_37 : decode cX0_pack 37 = .ok (.iload_n 3, 1) := by decide +kernel
theorem dX0_pack_38 : decode cX0_pack 38 = .ok (.isub, 1) := by decide +kernel
theorem dX0_pack_39 : decode cX0_pack 39 = .ok (.istore 6, 2) := by decide +kernel
theorem dX0_pack_41 : decode cX0_pack 41 = .ok (.lconst 0, 1) := by decide +kernel
theorem dX0_pack_42 : decode cX0_pack 42 = .ok (.lstore 7, 2) := by decide +kernel
theorem dX0_pack_44 : decode cX0_pack 44 = .ok (.iload 6, 2) := by decide +kernel
theorem dX0_pack_46 : decode cX0_pack 46 = .ok (.ifCond .gt 13, 3) := by decide +kernel
theorem dX0_pack_49 : decode cX0_pack 49 = .ok (.lload_n 1, 1) := by decide +kernel
theorem dX0_pack_50 : decode cX0_pack 50 = .ok (.iload 6, 2) := by decide +kernel
theorem dX0_pack_52 : decode cX0_pack 52 = .ok (.ineg, 1) := by decide +kernel
theorem dX0_pack_53 : decode cX0_pack 53 = .ok (.lshl, 1) := by decide +kernel
theorem dX0_pack_54 : decode cX0_pack 54 = .ok (.lstore 7, 2) := by decide +kernel
theorem dX0_pack_56 : decode cX0_pack 56 = .ok (.goto 68, 3) := by decide +kernel
theorem dX0_pack_59 : decode cX0_pack 59 = .ok (.iload 6, 2) := by decide +kernel
theorem dX0_pack_61 : decode cX0_pack 61 = .ok (.bipush 62, 2) := by decide +kernel
theorem dX0_pack_63 : decode cX0_pack 63 = .ok (.if_icmp .gt 61, 3) := by decide +kernel
theorem dX0_pack_66 : decode cX0_pack 66 = .ok (.lload_n 1, 1) := by decide +kernel
theorem dX0_pack_67 : decode cX0_pack 67 = .ok (.iload 6, 2) := by decide +kernel
theorem dX0_pack_69 : decode cX0_pack 69 = .ok (.lshr, 1) := by decide +kernel
theorem dX0_pack_70 : decode cX0_pack 70 = .ok (.lstore 7, 2) := by decide +kernel
theorem dX0_pack_72 : decode cX0_pack 72 = .ok (.lload_n 1, 1) := by decide +kernel
theorem dX0_pack_73 : decode cX0_pack 73 = .ok (.lload 7, 2) := by decide +kernel
theorem dX0_pack_75 : decode cX0_pack 75 = .ok (.iload 6, 2) := by decide +kernel
theorem dX0_pack_77 : decode cX0_pack 77 = .ok (.lshl, 1) := by decide +kernel
theorem dX0_pack_78 : decode cX0_pack 78 = .ok (.lsub, 1) := by decide +kernel
theorem dX0_pack_79 : decode cX0_pack 79 = .ok (.lstore 9, 2) := by decide +kernel
theorem dX0_pack_81 : decode cX0_pack 81 = .ok (.lconst 1, 1) := by decide +kernel
theorem dX0_pack_82 : decode cX0_pack 82 = .ok (.iload 6, 2) := by decide +kernel
theorem dX0_pack_84 : decode cX0_pack 84 = .ok (.iconst 1, 1) := by decide +kernel
theorem dX0_pack_85 : decode cX0_pack 85 = .ok (.isub, 1) := by decide +kernel
theorem dX0_pack_86 : decode cX0_pack 86 = .ok (.lshl, 1) := by decide +kernel
theorem dX0_pack_87 : decode cX0_pack 87 = .ok (.lstore 11, 2) := by decide +kernel
theorem dX0_pack_89 : decode cX0_pack 89 = .ok (.lload 7, 2) := by decide +kernel
theorem dX0_pack_91 : decode cX0_pack 91 = .ok (.lload 9, 2) := by decide +kernel
theorem dX0_pack_93 : decode cX0_pack 93 = .ok (.lload 11, 2) := by decide +kernel
theorem dX0_pack_95 : decode cX0_pack 95 = .ok (.lcmp, 1) := by decide +kernel
theorem dX0_pack_96 : decode cX0_pack 96 = .ok (.ifCond .gt 20, 3) := by decide +kernel
theorem dX0_pack_99 : decode cX0_pack 99 = .ok (.lload 9, 2) := by decide +kernel
theorem dX0_pack_101 : decode cX0_pack 101 = .ok (.lload 11, 2) := by decide +kernel
theorem dX0_pack_103 : decode cX0_pack 103 = .ok (.lcmp, 1) := by decide +kernel
theorem dX0_pack_104 : decode cX0_pack 104 = .ok (.ifCond .ne 16, 3) := by decide +kernel
theorem dX0_pack_107 : decode cX0_pack 107 = .ok (.lload 7, 2) := by decide +kernel
theorem dX0_pack_109 : decode cX0_pack 109 = .ok (.lconst 1, 1) := by decide +kernel
theorem dX0_pack_110 : decode cX0_pack 110 = .ok (.land, 1) := by decide +kernel
theorem dX0_pack_111 : decode cX0_pack 111 = .ok (.lconst 1, 1) := by decide +kernel
theorem dX0_pack_112 : decode cX0_pack 112 = .ok (.lcmp, 1) := by decide +kernel
theorem dX0_pack_113 : decode cX0_pack 113 = .ok (.ifCond .ne 7, 3) := by decide +kernel
theorem dX0_pack_116 : decode cX0_pack 116 = .ok (.lconst 1, 1) := by decide +kernel
theorem dX0_pack_117 : decode cX0_pack 117 = .ok (.goto 4, 3) := by decide +kernel
theorem dX0_pack_120 : decode cX0_pack 120 = .ok (.lconst 0, 1) := by decide +kernel
theorem dX0_pack_121 : decode cX0_pack 121 = .ok (.ladd, 1) := by decide +kernel
theorem dX0_pack_122 : decode cX0_pack 122 = .ok (.lstore 7, 2) := by decide +kernel
theorem dX0_pack_124 : decode cX0_pack 124 = .ok (.lload 7, 2) := by decide +kernel
theorem dX0_pack_126 : decode cX0_pack 126 = .ok (.ldc2_w 87, 3) := by decide +kernel
theorem dX0_pack_129 : decode cX0_pack 129 = .ok (.lcmp, 1) := by decide +kernel
theorem dX0_pack_130 : decode cX0_pack 130 = .ok (.ifCond .lt 12, 3) := by decide +kernel
theorem dX0_pack_133 : decode cX0_pack 133 = .ok (.lload 7, 2) := by decide +kernel
theorem dX0_pack_135 : decode cX0_pack 135 = .ok (.iconst 1, 1) := by decide +kernel
theorem dX0_pack_136 : decode cX0_pack 136 = .ok (.lshr, 1) := by decide +kernel
theorem dX0_pack_137 : decode cX0_pack 137 = .ok (.lstore 7, 2) := by decide +kernel
theorem dX0_pack_139 : decode cX0_pack 139 = .ok (.iinc 5 1, 3) := by decide +kernel
theorem dX0_pack_142 : decode cX0_pack 142 = .ok (.iload 5, 2) := by decide +kernel
theorem dX0_pack_144 : decode cX0_pack 144 = .ok (.sipush 150, 3) := by decide +kernel
theorem dX0_pack_147 : decode cX0_pack 147 = .ok (.iadd, 1) := by decide +kernel
theorem dX0_pack_148 : decode cX0_pack 148 = .ok (.sipush 255, 3) := by decide +kernel
theorem dX0_pack_151 : decode cX0_pack 151 = .ok (.if_icmp .lt 11, 3) := by decide +kernel
theorem dX0_pack_154 : decode cX0_pack 154 = .ok (.iload_n 0, 1) := by decide +kernel
theorem dX0_pack_155 : decode cX0_pack 155 = .ok (.bipush 31, 2) := by decide +kernel
theorem dX0_pack_157 : decode cX0_pack 157 = .ok (.ishl, 1) := by decide +kernel
theorem dX0_pack_158 : decode cX0_pack 158 = .ok (.ldc 71, 2) := by decide +kernel
theorem dX0_pack_160 : decode cX0_pack 160 = .ok (.ior, 1) := by decide +kernel
theorem dX0_pack_161 : decode cX0_pack 161 = .ok (.ireturn, 1) := by decide +kernel
theorem dX0_pack_162 : decode cX0_pack 162 = .ok (.lload 7, 2) := by decide +kernel
theorem dX0_pack_164 : decode cX0_pack 164 = .ok (.ldc2_w 89, 3) := by decide +kernel
theorem dX0_pack_167 : decode cX0_pack 167 = .ok (.lcmp, 1) := by decide +kernel
theorem dX0_pack_168 : decode cX0_pack 168 = .ok (.ifCond .ge 7, 3) := by decide +kernel
theorem dX0_pack_171 : decode cX0_pack 171 = .ok (.iconst 0, 1) := by decide +kernel
theorem dX0_pack_172 : decode cX0_pack 172 = .ok (.goto 9, 3) := by decide +kernel
theorem dX0_pack_175 : decode cX0_pack 175 = .ok (.iload 5, 2) := by decide +kernel
theorem dX0_pack_177 : decode cX0_pack 177 = .ok (.sipush 150, 3) := by decide +kernel
theorem dX0_pack_180 : decode cX0_pack 180 = .ok (.iadd, 1) := by decide +kernel
theorem dX0_pack_181 : decode cX0_pack 181 = .ok (.istore 9, 2) := by decide +kernel
theorem dX0_pack_183 : decode cX0_pack 183 = .ok (.iload_n 0, 1) := by decide +kernel
theorem dX0_pack_184 : decode cX0_pack 184 = .ok (.bipush 31, 2) := by decide +kernel
theorem dX0_pack_186 : decode cX0_pack 186 = .ok (.ishl, 1) := by decide +kernel
theorem dX0_pack_187 : decode cX0_pack 187 = .ok (.iload 9, 2) := by decide +kernel
theorem dX0_pack_189 : decode cX0_pack 189 = .ok (.bipush 23, 2) := by decide +kernel
theorem dX0_pack_191 : decode cX0_pack 191 = .ok (.ishl, 1) := by decide +kernel
theorem dX0_pack_192 : decode cX0_pack 192 = .ok (.ior, 1) := by decide +kernel
theorem dX0_pack_193 : decode cX0_pack 193 = .ok (.lload 7, 2) := by decide +kernel
theorem dX0_pack_195 : decode cX0_pack 195 = .ok (.l2i, 1) := by decide +kernel
theorem dX0_pack_196 : decode cX0_pack 196 = .ok (.ldc 75, 2) := by decide +kernel
theorem dX0_pack_198 : decode cX0_pack 198 = .ok (.iand, 1) := by decide +kernel
theorem dX0_pack_199 : decode cX0_pack 199 = .ok (.ior, 1) := by decide +kernel
theorem dX0_pack_200 : decode cX0_pack 200 = .ok (.ireturn, 1) := by decide +kernel
theorem dX1_init_0 : decode cX1_init 0 = .ok (.aload_n 0, 1) := by decide +kernel
theorem dX1_init_1 : decode cX1_init 1 = .ok (.invokespecial 3, 3) := by decide +kernel
theorem dX1_init_4 : decode cX1_init 4 = .ok (.aload_n 0, 1) := by decide +kernel
theorem dX1_init_5 : decode cX1_init 5 = .ok (.bipush 60, 2) := by decide +kernel
theorem dX1_init_7 : decode cX1_init 7 = .ok (.newarray .long, 2) := by decide +kernel
theorem dX1_init_9 : decode cX1_init 9 = .ok (.putfield 11, 3) := by decide +kernel
theorem dX1_init_12 : decode cX1_init 12 = .ok (.aload_n 0, 1) := by decide +kernel
theorem dX1_init_13 : decode cX1_init 13 = .ok (.bipush 8, 2) := by decide +kernel
theorem dX1_init_15 : decode cX1_init 15 = .ok (.newarray .int, 2) := by decide +kernel
theorem dX1_init_17 : decode cX1_init 17 = .ok (.putfield 15, 3) := by decide +kernel
theorem dX1_init_20 : decode cX1_init 20 = .ok (.aload_n 0, 1) := by decide +kernel
theorem dX1_init_21 : decode cX1_init 21 = .ok (.new 19, 3) := by decide +kernel
theorem dX1_init_24 : decode cX1_init 24 = .ok (.dup, 1) := by decide +kernel
theorem dX1_init_25 : decode cX1_init 25 = .ok (.bipush 40, 2) := by decide +kernel
theorem dX1_init_27 : decode cX1_init 27 = .ok (.invokespecial 21, 3) := by decide +kernel
theorem dX1_init_30 : decode cX1_init 30 = .ok (.putfield 24, 3) := by decide +kernel
theorem dX1_init_33 : decode cX1_init 33 = .ok (.aload_n 0, 1) := by decide +kernel
theorem dX1_init_34 : decode cX1_init 34 = .ok (.invokevirtual 28, 3) := by decide +kernel
theorem dX1_init_37 : decode cX1_init 37 = .ok (.return_, 1) := by decide +kernel
theorem dX1_begin_0 : decode cX1_begin 0 = .ok (.aload_n 0, 1) := by decide +kernel
theorem dX1_begin_1 : decode cX1_begin 1 = .ok (.iconst (-1), 1) := by decide +kernel
theorem dX1_begin_2 : decode cX1_begin 2 = .ok (.putfield 31, 3) := by decide +kernel
theorem dX1_begin_5 : decode cX1_begin 5 = .ok (.aload_n 0, 1) := by decide +kernel
theorem dX1_begin_6 : decode cX1_begin 6 = .ok (.iconst 0, 1) := by decide +kernel
theorem dX1_begin_7 : decode cX1_begin 7 = .ok (.putfield 35, 3) := by decide +kernel
theorem dX1_begin_10 : decode cX1_begin 10 = .ok (.aload_n 0, 1) := by decide +kernel
theorem dX1_begin_11 : decode cX1_begin 11 = .ok (.iconst 0, 1) := by decide +kernel
theorem dX1_begin_12 : decode cX1_begin 12 = .ok (.putfield 38, 3) := by decide +kernel
theorem dX1_begin_15 : decode cX1_begin 15 = .ok (.aload_n 0, 1) := by decide +kernel
theorem dX1_begin_16 : decode cX1_begin 16 = .ok (.iconst 0, 1) := by decide +kernel
theorem dX1_begin_17 : decode cX1_begin 17 = .ok (.putfield 41, 3) := by decide +kernel
theorem dX1_begin_20 : decode cX1_begin 20 = .ok (.aload_n 0, 1) := by decide +kernel
theorem dX1_begin_21 : decode cX1_begin 21 = .ok (.iconst 0, 1) := by decide +kernel
theorem dX1_begin_22 : decode cX1_begin 22 = .ok (.putfield 44, 3) := by decide +kernel
theorem dX1_begin_25 : decode cX1_begin 25 = .ok (.aload_n 0, 1) := by decide +kernel
theorem dX1_begin_26 : decode cX1_begin 26 = .ok (.iconst 0, 1) := by decide +kernel
theorem dX1_begin_27 : decode cX1_begin 27 = .ok (.putfield 47, 3) := by decide +kernel
theorem dX1_begin_30 : decode cX1_begin 30 = .ok (.aload_n 0, 1) := by decide +kernel
theorem dX1_begin_31 : decode cX1_begin 31 = .ok (.iconst 0, 1) := by decide +kernel
theorem dX1_begin_32 : decode cX1_begin 32 = .ok (.putfield 50, 3) := by decide +kernel
theorem dX1_begin_35 : decode cX1_begin 35 = .ok (.aload_n 0, 1) := by decide +kernel
theorem dX1_begin_36 : decode cX1_begin 36 = .ok (.getfield 24, 3) := by decide +kernel
theorem dX1_begin_39 : decode cX1_begin 39 = .ok (.iconst 0, 1) := by decide +kernel
theorem dX1_begin_40 : decode cX1_begin 40 = .ok (.invokevirtual 53, 3) := by decide +kernel
theorem dX1_begin_43 : decode cX1_begin 43 = .ok (.iconst 0, 1) := by decide +kernel
theorem dX1_begin_44 : decode cX1_begin 44 = .ok (.istore_n 1, 1) := by decide +kernel
theorem dX1_begin_45 : decode cX1_begin 45 = .ok (.iload_n 1, 1) := by decide +kernel
theorem dX1_begin_46 : decode cX1_begin 46 = .ok (.bipush 8, 2) := by decide +kernel
theorem dX1_begin_48 : decode cX1_begin 48 = .ok (.if_icmp .ge 16, 3) := by decide +kernel
theorem dX1_begin_51 : decode cX1_begin 51 = .ok (.aload_n 0, 1) := by decide +kernel
theorem dX1_begin_52 : decode cX1_begin 52 = .ok (.getfield 15, 3) := by decide +kernel
theorem dX1_begin_55 : decode cX1_begin 55 = .ok (.iload_n 1, 1) := by decide +kernel
theorem dX1_begin_56 : decode cX1_begin 56 = .ok (.iconst 0, 1) := by decide +kernel
theorem dX1_begin_57 : decode cX1_begin 57 = .ok (.iastore, 1) := by decide +kernel
theorem dX1_begin_58 : decode cX1_begin 58 = .ok (.iinc 1 1, 3) := by decide +kernel
theorem dX1_begin_61 : decode cX1_begin 61 = .ok (.goto (-16), 3) := by decide +kernel
theorem dX1_begin_64 : decode cX1_begin 64 = .ok (.return_, 1) := by decide +kernel
theorem dX1_clear_0 : decode cX1_clear 0 = .ok (.aload_n 0, 1) := by decide +kernel
theorem dX1_clear_1 : decode cX1_clear 1 = .ok (.invokevirtual 28, 3) := by decide +kernel
theorem dX1_clear_4 : decode cX1_clear 4 = .ok (.return_, 1) := by decide +kernel
theorem dX1_isRunning_0 : decode cX1_isRunning 0 = .ok (.aload_n 0, 1) := by decide +kernel
theorem dX1_isRunning_1 : decode cX1_isRunning 1 = .ok (.getfield 31, 3) := by decide +kernel
theorem dX1_isRunning_4 : decode cX1_isRunning 4 = .ok (.iconst (-1), 1) := by decide +kernel
theorem dX1_isRunning_5 : decode cX1_isRunning 5 = .ok (.if_icmp .ne 7, 3) := by decide +kernel
theorem dX1_isRunning_8 : decode cX1_isRunning 8 = .ok (.iconst 1, 1) := by decide +kernel
theorem dX1_isRunning_9 : decode cX1_isRunning 9 = .ok (.goto 4, 3) := by decide +kernel
theorem dX1_isRunning_12 : decode cX1_isRunning 12 = .ok (.iconst 0, 1) := by decide +kernel
theorem dX1_isRunning_13 : decode cX1_isRunning 13 = .ok (.ireturn, 1) := by decide +kernel
theorem dX1_placeBits_0 : decode cX1_placeBits 0 = .ok (.iload_n 1, 1) := by decide +kernel
theorem dX1_placeBits_1 : decode cX1_placeBits 1 = .ok (.ifCond .lt 18, 3) := by decide +kernel
theorem dX1_placeBits_4 : decode cX1_placeBits 4 = .ok (.iload_n 1, 1) := by decide +kernel
theorem dX1_placeBits_5 : decode cX1_placeBits 5 = .ok (.bipush 8, 2) := by decide +kernel
theorem dX1_placeBits_7 : decode cX1_placeBits 7 = .ok (.if_icmp .ge 12, 3) := by decide +kernel
theorem dX1_placeBits_10 : decode cX1_placeBits 10 = .ok (.aload_n 0, 1) := by decide +kernel
theorem dX1_placeBits_11 : decode cX1_placeBits 11 = .ok (.getfield 15, 3) := by decide +kernel
theorem dX1_placeBits_14 : decode cX1_placeBits 14 = .ok (.iload_n 1, 1) := by decide +kernel
theorem dX1_placeBits_15 : decode cX1_placeBits 15 = .ok (.iaload, 1) := by decide +kernel
theorem dX1_placeBits_16 : decode cX1_placeBits 16 = .ok (.goto 4, 3) := by decide +kernel
theorem dX1_placeBits_19 : decode cX1_placeBits 19 = .ok (.iconst 0, 1) := by decide +kernel
theorem dX1_placeBits_20 : decode cX1_placeBits 20 = .ok (.ireturn, 1) := by decide +kernel
theorem dX1_about_0 : decode cX1_about 0 = .ok (.iload_n 1, 1) := by decide +kernel
theorem dX1_about_1 : decode cX1_about 1 = .ok (.tableswitch 69 0 5 #[39, 44, 49, 54, 59, 64], 39) := by decide +kernel
theorem dX1_about_40 : decode cX1_about 40 = .ok (.aload_n 0, 1) := by decide +kernel
theorem dX1_about_41 : decode cX1_about 41 = .ok (.getfield 31, 3) := by decide +kernel
theorem dX1_about_44 : decode cX1_about 44 = .ok (.ireturn, 1) := by decide +kernel
theorem dX1_about_45 : decode cX1_about 45 = .ok (.aload_n 0, 1) := by decide +kernel
theorem dX1_about_46 : decode cX1_about 46 = .ok (.getfield 35, 3) := by decide +kernel
theorem dX1_about_49 : decode cX1_about 49 = .ok (.ireturn, 1) := by decide +kernel
theorem dX1_about_50 : decode cX1_about 50 = .ok (.aload_n 0, 1) := by decide +kernel
theorem dX1_about_51 : decode cX1_about 51 = .ok (.getfield 44, 3) := by decide +kernel
theorem dX1_about_54 : decode cX1_about 54 = .ok (.ireturn, 1) := by decide +kernel
theorem dX1_about_55 : decode cX1_about 55 = .ok (.aload_n 0, 1) := by decide +kernel
theorem dX1_about_56 : decode cX1_about 56 = .ok (.getfield 47, 3) := by decide +kernel
theorem dX1_about_59 : decode cX1_about 59 = .ok (.ireturn, 1) := by decide +kernel
theorem dX1_about_60 : decode cX1_about 60 = .ok (.aload_n 0, 1) := by decide +kernel
theorem dX1_about_61 : decode cX1_about 61 = .ok (.getfield 50, 3) := by decide +kernel
theorem dX1_about_64 : decode cX1_about 64 = .ok (.ireturn, 1) := by decide +kernel
theorem dX1_about_65 : decode cX1_about 65 = .ok (.aload_n 0, 1) := by decide +kernel
theorem dX1_about_66 : decode cX1_about 66 = .ok (.getfield 41, 3) := by decide +kernel
theorem dX1_about_69 : decode cX1_about 69 = .ok (.ireturn, 1) := by decide +kernel
theorem dX1_about_70 : decode cX1_about 70 = .ok (.iconst (-1), 1) := by decide +kernel
theorem dX1_about_71 : decode cX1_about 71 = .ok (.ireturn, 1) := by decide +kernel
theorem dX1_keptCount_0 : decode cX1_keptCount 0 = .ok (.aload_n 0, 1) := by decide +kernel
theorem dX1_keptCount_1 : decode cX1_keptCount 1 = .ok (.getfield 44, 3) := by decide +kernel
theorem dX1_keptCount_4 : decode cX1_keptCount 4 = .ok (.bipush 60, 2) := by decide +kernel
theorem dX1_keptCount_6 : decode cX1_keptCount 6 = .ok (.invokestatic 91, 3) := by decide +kernel
theorem dX1_keptCount_9 : decode cX1_keptCount 9 = .ok (.ireturn, 1) := by decide +kernel
theorem dX1_aboutOutput_0 : decode cX1_aboutOutput 0 = .ok (.iload_n 1, 1) := by decide +kernel
theorem dX1_aboutOutput_1 : decode cX1_aboutOutput 1 = .ok (.ifCond .lt 20, 3) := by decide +kernel
theorem dX1_aboutOutput_4 : decode cX1_aboutOutput 4 = .ok (.iload_n 1, 1) := by decide +kernel
theorem dX1_aboutOutput_5 : decode cX1_aboutOutput 5 = .ok (.aload_n 0, 1) := by decide +kernel
theorem dX1_aboutOutput_6 : decode cX1_aboutOutput 6 = .ok (.invokevirtual 94, 3) := by decide +kernel
theorem dX1_aboutOutput_9 : decode cX1_aboutOutput 9 = .ok (.if_icmp .ge 12, 3) := by decide +kernel
theorem dX1_aboutOutput_12 : decode cX1_aboutOutput 12 = .ok (.iload_n 2, 1) := by decide +kernel
theorem dX1_aboutOutput_13 : decode cX1_aboutOutput 13 = .ok (.ifCond .lt 8, 3) := by decide +kernel
theorem dX1_aboutOutput_16 : decode cX1_aboutOutput 16 = .ok (.iload_n 2, 1) := by decide +kernel
theorem dX1_aboutOutput_17 : decode cX1_aboutOutput 17 = .ok (.iconst 1, 1) := by decide +kernel
theorem dX1_aboutOutput_18 : decode cX1_aboutOutput 18 = .ok (.if_icmp .le 5, 3) := by decide +kernel
theorem dX1_aboutOutput_21 : decode cX1_aboutOutput 21 = .ok (.iconst (-1), 1) := by decide +kernel
theorem dX1_aboutOutput_22 : decode cX1_aboutOutput 22 = .ok (.ireturn, 1) := by decide +kernel
theorem dX1_aboutOutput_23 : decode cX1_aboutOutput 23 = .ok (.iload_n 2, 1) := by decide +kernel
theorem dX1_aboutOutput_24 : decode cX1_aboutOutput 24 = .ok (.ifCond .ne 15, 3) := by decide +kernel
theorem dX1_aboutOutput_27 : decode cX1_aboutOutput 27 = .ok (.aload_n 0, 1) := by decide +kernel
theorem dX1_aboutOutput_28 : decode cX1_aboutOutput 28 = .ok (.getfield 11, 3) := by decide +kernel
theorem dX1_aboutOutput_31 : decode cX1_aboutOutput 31 = .ok (.iload_n 1, 1) := by decide +kernel
theorem dX1_aboutOutput_32 : decode cX1_aboutOutput 32 = .ok (.laload, 1) := by decide +kernel
theorem dX1_aboutOutput_33 : decode cX1_aboutOutput 33 = .ok (.invokestatic 98, 3) := by decide +kernel
theorem dX1_aboutOutput_36 : decode cX1_aboutOutput 36 = .ok (.goto 12, 3) := by decide +kernel
theorem dX1_aboutOutput_39 : decode cX1_aboutOutput 39 = .ok (.aload_n 0, 1) := by decide +kernel
theorem dX1_aboutOutput_40 : decode cX1_aboutOutput 40 = .ok (.getfield 11, 3) := by decide +kernel
theorem dX1_aboutOutput_43 : decode cX1_aboutOutput 43 = .ok (.iload_n 1, 1) := by decide +kernel
theorem dX1_aboutOutput_44 : decode cX1_aboutOutput 44 = .ok (.laload, 1) := by decide +kernel
theorem dX1_aboutOutput_45 : decode cX1_aboutOutput 45 = .ok (.invokestatic 78, 3) := by decide +kernel
theorem dX1_aboutOutput_48 : decode cX1_aboutOutput 48 = .ok (.ireturn, 1) := by decide +kernel
theorem dX2_init_0 : decode cX2_init 0 = .ok (.aload_n 0, 1) := by decide +kernel
theorem dX2_init_1 : decode cX2_init 1 = .ok (.invokespecial 3, 3) := by decide +kernel
theorem dX2_init_4 : decode cX2_init 4 = .ok (.aload_n 0, 1) := by decide +kernel
theorem dX2_init_5 : decode cX2_init 5 = .ok (.iload_n 1, 1) := by decide +kernel
theorem dX2_init_6 : decode cX2_init 6 = .ok (.newarray .long, 2) := by decide +kernel
theorem dX2_init_8 : decode cX2_init 8 = .ok (.putfield 9, 3) := by decide +kernel
theorem dX2_init_11 : decode cX2_init 11 = .ok (.aload_n 0, 1) := by decide +kernel
theorem dX2_init_12 : decode cX2_init 12 = .ok (.iload_n 1, 1) := by decide +kernel
theorem dX2_init_13 : decode cX2_init 13 = .ok (.newarray .long, 2) := by decide +kernel
theorem dX2_init_15 : decode cX2_init 15 = .ok (.putfield 15, 3) := by decide +kernel
theorem dX2_init_18 : decode cX2_init 18 = .ok (.aload_n 0, 1) := by decide +kernel
theorem dX2_init_19 : decode cX2_init 19 = .ok (.iconst 0, 1) := by decide +kernel
theorem dX2_init_20 : decode cX2_init 20 = .ok (.putfield 18, 3) := by decide +kernel
theorem dX2_init_23 : decode cX2_init 23 = .ok (.aload_n 0, 1) := by decide +kernel
theorem dX2_init_24 : decode cX2_init 24 = .ok (.iconst 0, 1) := by decide +kernel
theorem dX2_init_25 : decode cX2_init 25 = .ok (.putfield 22, 3) := by decide +kernel
theorem dX2_init_28 : decode cX2_init 28 = .ok (.return_, 1) := by decide +kernel
theorem dX2_begin_0 : decode cX2_begin 0 = .ok (.aload_n 0, 1) := by decide +kernel
theorem dX2_begin_1 : decode cX2_begin 1 = .ok (.iconst 0, 1) := by decide +kernel
theorem dX2_begin_2 : decode cX2_begin 2 = .ok (.putfield 18, 3) := by decide +kernel
theorem dX2_begin_5 : decode cX2_begin 5 = .ok (.aload_n 0, 1) := by decide +kernel
theorem dX2_begin_6 : decode cX2_begin 6 = .ok (.iload_n 1, 1) := by decide +kernel
theorem dX2_begin_7 : decode cX2_begin 7 = .ok (.putfield 22, 3) := by decide +kernel
theorem dX2_begin_10 : decode cX2_begin 10 = .ok (.return_, 1) := by decide +kernel
theorem dX2_stars_0 : decode cX2_stars 0 = .ok (.iconst 0, 1) := by decide +kernel
theorem dX2_stars_1 : decode cX2_stars 1 = .ok (.istore_n 1, 1) := by decide +kernel
theorem dX2_stars_2 : decode cX2_stars 2 = .ok (.iconst 0, 1) := by decide +kernel
theorem dX2_stars_3 : decode cX2_stars 3 = .ok (.istore_n 2, 1) := by decide +kernel
theorem dX2_stars_4 : decode cX2_stars 4 = .ok (.iload_n 2, 1) := by decide +kernel
theorem dX2_stars_5 : decode cX2_stars 5 = .ok (.aload_n 0, 1) := by decide +kernel
theorem dX2_stars_6 : decode cX2_stars 6 = .ok (.getfield 18, 3) := by decide +kernel
theorem dX2_stars_9 : decode cX2_stars 9 = .ok (.if_icmp .ge 25, 3) := by decide +kernel
theorem dX2_stars_12 : decode cX2_stars 12 = .ok (.aload_n 0, 1) := by decide +kernel
theorem dX2_stars_13 : decode cX2_stars 13 = .ok (.getfield 9, 3) := by decide +kernel
theorem dX2_stars_16 : decode cX2_stars 16 = .ok (.iload_n 2, 1) := by decide +kernel
theorem dX2_stars_17 : decode cX2_stars 17 = .ok (.laload, 1) := by decide +kernel
theorem dX2_stars_18 : decode cX2_stars 18 = .ok (.invokestatic 37, 3) := by decide +kernel
theorem dX2_stars_21 : decode cX2_stars 21 = .ok (.iconst 4, 1) := by decide +kernel
theorem dX2_stars_22 : decode cX2_stars 22 = .ok (.if_icmp .ne 6, 3) := by decide +kernel
theorem dX2_stars_25 : decode cX2_stars 25 = .ok (.iinc 1 1, 3) := by decide +kernel
theorem dX2_stars_28 : decode cX2_stars 28 = .ok (.iinc 2 1, 3) := by decide +kernel
theorem dX2_stars_31 : decode cX2_stars 31 = .ok (.goto (-27), 3) := by decide +kernel
theorem dX2_stars_34 : decode cX2_stars 34 = .ok (.iload_n 1, 1) := by decide +kernel
theorem dX2_stars_35 : decode cX2_stars 35 = .ok (.ireturn, 1) := by decide +kernel
theorem dX3_init_0 : decode cX3_init 0 = .ok (.aload_n 0, 1) := by decide +kernel
theorem dX3_init_1 : decode cX3_init 1 = .ok (.invokespecial 5, 3) := by decide +kernel
theorem dX3_init_4 : decode cX3_init 4 = .ok (.aload_n 0, 1) := by decide +kernel
theorem dX3_init_5 : decode cX3_init 5 = .ok (.sipush 432, 3) := by decide +kernel
theorem dX3_init_8 : decode cX3_init 8 = .ok (.newarray .int, 2) := by decide +kernel
theorem dX3_init_10 : decode cX3_init 10 = .ok (.putfield 11, 3) := by decide +kernel
theorem dX3_init_13 : decode cX3_init 13 = .ok (.aload_n 0, 1) := by decide +kernel
theorem dX3_init_14 : decode cX3_init 14 = .ok (.bipush 72, 2) := by decide +kernel
theorem dX3_init_16 : decode cX3_init 16 = .ok (.newarray .int, 2) := by decide +kernel
theorem dX3_init_18 : decode cX3_init 18 = .ok (.putfield 15, 3) := by decide +kernel
theorem dX3_init_21 : decode cX3_init 21 = .ok (.aload_n 0, 1) := by decide +kernel
theorem dX3_init_22 : decode cX3_init 22 = .ok (.bipush 72, 2) := by decide +kernel
theorem dX3_init_24 : decode cX3_init 24 = .ok (.newarray .int, 2) := by decide +kernel
theorem dX3_init_26 : decode cX3_init 26 = .ok (.putfield 18, 3) := by decide +kernel
theorem dX3_init_29 : decode cX3_init 29 = .ok (.aload_n 0, 1) := by decide +kernel
theorem dX3_init_30 : decode cX3_init 30 = .ok (.sipush 2472, 3) := by decide +kernel
theorem dX3_init_33 : decode cX3_init 33 = .ok (.newarray .int, 2) := by decide +kernel
theorem dX3_init_35 : decode cX3_init 35 = .ok (.putfield 21, 3) := by decide +kernel
theorem dX3_init_38 : decode cX3_init 38 = .ok (.aload_n 0, 1) := by decide +kernel
theorem dX3_init_39 : decode cX3_init 39 = .ok (.sipush 2472, 3) := by decide +kernel
theorem dX3_init_42 : decode cX3_init 42 = .ok (.newarray .int, 2) := by decide +kernel
theorem dX3_init_44 : decode cX3_init 44 = .ok (.putfield 24, 3) := by decide +kernel
theorem dX3_init_47 : decode cX3_init 47 = .ok (.aload_n 0, 1) := by decide +kernel
theorem dX3_init_48 : decode cX3_init 48 = .ok (.sipush 2472, 3) := by decide +kernel
theorem dX3_init_51 : decode cX3_init 51 = .ok (.newarray .int, 2) := by decide +kernel
theorem dX3_init_53 : decode cX3_init 53 = .ok (.putfield 27, 3) := by decide +kernel
theorem dX3_init_56 : decode cX3_init 56 = .ok (.aload_n 0, 1) := by decide +kernel
theorem dX3_init_57 : decode cX3_init 57 = .ok (.iconst 0, 1) := by decide +kernel
theorem dX3_init_58 : decode cX3_init 58 = .ok (.putfield 30, 3) := by decide +kernel
theorem dX3_init_61 : decode cX3_init 61 = .ok (.aload_n 0, 1) := by decide +kernel
theorem dX3_init_62 : decode cX3_init 62 = .ok (.iconst 0, 1) := by decide +kernel
theorem dX3_init_63 : decode cX3_init 63 = .ok (.putfield 34, 3) := by decide +kernel
theorem dX3_init_66 : decode cX3_init 66 = .ok (.aload_n 0, 1) := by decide +kernel
theorem dX3_init_67 : decode cX3_init 67 = .ok (.iconst 0, 1) := by decide +kernel
theorem dX3_init_68 : decode cX3_init 68 = .ok (.putfield 37, 3) := by decide +kernel
theorem dX3_init_71 : decode cX3_init 71 = .ok (.iconst 0, 1) := by decide +kernel
theorem dX3_init_72 : decode cX3_init 72 = .ok (.istore_n 1, 1) := by decide +kernel
theorem dX3_init_73 : decode cX3_init 73 = .ok (.iload_n 1, 1) := by decide +kernel
theorem dX3_init_74 : decode cX3_init 74 = .ok (.bipush 72, 2) := by decide +kernel
theorem dX3_init_76 : decode cX3_init 76 = .ok (.if_icmp .ge 16, 3) := by decide +kernel
theorem dX3_init_79 : decode cX3_init 79 = .ok (.aload_n 0, 1) := by decide +kernel
theorem dX3_init_80 : decode cX3_init 80 = .ok (.getfield 18, 3) := by decide +kernel
theorem dX3_init_83 : decode cX3_init 83 = .ok (.iload_n 1, 1) := by decide +kernel
theorem dX3_init_84 : decode cX3_init 84 = .ok (.iconst (-1), 1) := by decide +kernel
theorem dX3_init_85 : decode cX3_init 85 = .ok (.iastore, 1) := by decide +kernel
theorem dX3_init_86 : decode cX3_init 86 = .ok (.iinc 1 1, 3) := by decide +kernel
theorem dX3_init_89 : decode cX3_init 89 = .ok (.goto (-16), 3) := by decide +kernel
theorem dX3_init_92 : decode cX3_init 92 = .ok (.return_, 1) := by decide +kernel
theorem dX3_clear_0 : decode cX3_clear 0 = .ok (.aload_n 0, 1) := by decide +kernel
theorem dX3_clear_1 : decode cX3_clear 1 = .ok (.iconst 0, 1) := by decide +kernel
theorem dX3_clear_2 : decode cX3_clear 2 = .ok (.putfield 30, 3) := by decide +kernel
theorem dX3_clear_5 : decode cX3_clear 5 = .ok (.aload_n 0, 1) := by decide +kernel
theorem dX3_clear_6 : decode cX3_clear 6 = .ok (.iconst 0, 1) := by decide +kernel
theorem dX3_clear_7 : decode cX3_clear 7 = .ok (.putfield 34, 3) := by decide +kernel
theorem dX3_clear_10 : decode cX3_clear 10 = .ok (.aload_n 0, 1) := by decide +kernel
theorem dX3_clear_11 : decode cX3_clear 11 = .ok (.iconst 0, 1) := by decide +kernel
theorem dX3_clear_12 : decode cX3_clear 12 = .ok (.putfield 37, 3) := by decide +kernel
theorem dX3_clear_15 : decode cX3_clear 15 = .ok (.iconst 0, 1) := by decide +kernel
theorem dX3_clear_16 : decode cX3_clear 16 = .ok (.istore_n 1, 1) := by decide +kernel
theorem dX3_clear_17 : decode cX3_clear 17 = .ok (.iload_n 1, 1) := by decide +kernel
theorem dX3_clear_18 : decode cX3_clear 18 = .ok (.bipush 72, 2) := by decide +kernel
theorem dX3_clear_20 : decode cX3_clear 20 = .ok (.if_icmp .ge 16, 3) := by decide +kernel
theorem dX3_clear_23 : decode cX3_clear 23 = .ok (.aload_n 0, 1) := by decide +kernel
theorem dX3_clear_24 : decode cX3_clear 24 = .ok (.getfield 18, 3) := by decide +kernel
theorem dX3_clear_27 : decode cX3_clear 27 = .ok (.iload_n 1, 1) := by decide +kernel
theorem dX3_clear_28 : decode cX3_clear 28 = .ok (.iconst (-1), 1) := by decide +kernel
theorem dX3_clear_29 : decode cX3_clear 29 = .ok (.iastore, 1) := by decide +kernel
theorem dX3_clear_30 : decode cX3_clear 30 = .ok (.iinc 1 1, 3) := by decide +kernel
theorem dX3_clear_33 : decode cX3_clear 33 = .ok (.goto (-16), 3) := by decide +kernel
theorem dX3_clear_36 : decode cX3_clear 36 = .ok (.return_, 1) := by decide +kernel
theorem dX3_about_0 : decode cX3_about 0 = .ok (.iload_n 1, 1) := by decide +kernel
theorem dX3_about_1 : decode cX3_about 1 = .ok (.ifCond .lt 21, 3) := by decide +kernel
theorem dX3_about_4 : decode cX3_about 4 = .ok (.iload_n 1, 1) := by decide +kernel
theorem dX3_about_5 : decode cX3_about 5 = .ok (.aload_n 0, 1) := by decide +kernel
theorem dX3_about_6 : decode cX3_about 6 = .ok (.getfield 30, 3) := by decide +kernel
theorem dX3_about_9 : decode cX3_about 9 = .ok (.if_icmp .ge 13, 3) := by decide +kernel
theorem dX3_about_12 : decode cX3_about 12 = .ok (.iload_n 2, 1) := by decide +kernel
theorem dX3_about_13 : decode cX3_about 13 = .ok (.ifCond .lt 9, 3) := by decide +kernel
theorem dX3_about_16 : decode cX3_about 16 = .ok (.iload_n 2, 1) := by decide +kernel
theorem dX3_about_17 : decode cX3_about 17 = .ok (.bipush 6, 2) := by decide +kernel
theorem dX3_about_19 : decode cX3_about 19 = .ok (.if_icmp .lt 7, 3) := by decide +kernel
theorem dX3_about_22 : decode cX3_about 22 = .ok (.iconst (-1), 1) := by decide +kernel
theorem dX3_about_23 : decode cX3_about 23 = .ok (.goto 14, 3) := by decide +kernel
theorem dX3_about_26 : decode cX3_about 26 = .ok (.aload_n 0, 1) := by decide +kernel
theorem dX3_about_27 : decode cX3_about 27 = .ok (.getfield 11, 3) := by decide +kernel
theorem dX3_about_30 : decode cX3_about 30 = .ok (.iload_n 1, 1) := by decide +kernel
theorem dX3_about_31 : decode cX3_about 31 = .ok (.bipush 6, 2) := by decide +kernel
theorem dX3_about_33 : decode cX3_about 33 = .ok (.imul, 1) := by decide +kernel
theorem dX3_about_34 : decode cX3_about 34 = .ok (.iload_n 2, 1) := by decide +kernel
theorem dX3_about_35 : decode cX3_about 35 = .ok (.iadd, 1) := by decide +kernel
theorem dX3_about_36 : decode cX3_about 36 = .ok (.iaload, 1) := by decide +kernel
theorem dX3_about_37 : decode cX3_about 37 = .ok (.ireturn, 1) := by decide +kernel
theorem dX3_startOf_0 : decode cX3_startOf 0 = .ok (.iload_n 1, 1) := by decide +kernel
theorem dX3_startOf_1 : decode cX3_startOf 1 = .ok (.ifCond .lt 31, 3) := by decide +kernel
theorem dX3_startOf_4 : decode cX3_startOf 4 = .ok (.iload_n 1, 1) := by decide +kernel
theorem dX3_startOf_5 : decode cX3_startOf 5 = .ok (.bipush 72, 2) := by decide +kernel
theorem dX3_startOf_7 : decode cX3_startOf 7 = .ok (.if_icmp .ge 25, 3) := by decide +kernel
theorem dX3_startOf_10 : decode cX3_startOf 10 = .ok (.aload_n 0, 1) := by decide +kernel
theorem dX3_startOf_11 : decode cX3_startOf 11 = .ok (.getfield 18, 3) := by decide +kernel
theorem dX3_startOf_14 : decode cX3_startOf 14 = .ok (.iload_n 1, 1) := by decide +kernel
theorem dX3_startOf_15 : decode cX3_startOf 15 = .ok (.iaload, 1) := by decide +kernel
theorem dX3_startOf_16 : decode cX3_startOf 16 = .ok (.ifCond .lt 16, 3) := by decide +kernel
theorem dX3_startOf_19 : decode cX3_startOf 19 = .ok (.aload_n 0, 1) := by decide +kernel
theorem dX3_startOf_20 : decode cX3_startOf 20 = .ok (.getfield 18, 3) := by decide +kernel
theorem dX3_startOf_23 : decode cX3_startOf 23 = .ok (.iload_n 1, 1) := by decide +kernel
theorem dX3_startOf_24 : decode cX3_startOf 24 = .ok (.iaload, 1) := by decide +kernel
theorem dX3_startOf_25 : decode cX3_startOf 25 = .ok (.aload_n 0, 1) := by decide +kernel
theorem dX3_startOf_26 : decode cX3_startOf 26 = .ok (.getfield 30, 3) := by decide +kernel
theorem dX3_startOf_29 : decode cX3_startOf 29 = .ok (.if_icmp .lt 5, 3) := by decide +kernel
theorem dX3_startOf_32 : decode cX3_startOf 32 = .ok (.iconst (-1), 1) := by decide +kernel
theorem dX3_startOf_33 : decode cX3_startOf 33 = .ok (.ireturn, 1) := by decide +kernel
theorem dX3_startOf_34 : decode cX3_startOf 34 = .ok (.aload_n 0, 1) := by decide +kernel
theorem dX3_startOf_35 : decode cX3_startOf 35 = .ok (.getfield 15, 3) := by decide +kernel
theorem dX3_startOf_38 : decode cX3_startOf 38 = .ok (.aload_n 0, 1) := by decide +kernel
theorem dX3_startOf_39 : decode cX3_startOf 39 = .ok (.getfield 18, 3) := by decide +kernel
theorem dX3_startOf_42 : decode cX3_startOf 42 = .ok (.iload_n 1, 1) := by decide +kernel
theorem dX3_startOf_43 : decode cX3_startOf 43 = .ok (.iaload, 1) := by decide +kernel
theorem dX3_startOf_44 : decode cX3_startOf 44 = .ok (.iaload, 1) := by decide +kernel
theorem dX3_startOf_45 : decode cX3_startOf 45 = .ok (.ireturn, 1) := by decide +kernel
theorem dX4_init_0 : decode cX4_init 0 = .ok (.aload_n 0, 1) := by decide +kernel
theorem dX4_init_1 : decode cX4_init 1 = .ok (.invokespecial 3, 3) := by decide +kernel
theorem dX4_init_4 : decode cX4_init 4 = .ok (.aload_n 0, 1) := by decide +kernel
theorem dX4_init_5 : decode cX4_init 5 = .ok (.aload_n 1, 1) := by decide +kernel
theorem dX4_init_6 : decode cX4_init 6 = .ok (.putfield 9, 3) := by decide +kernel
theorem dX4_init_9 : decode cX4_init 9 = .ok (.aload_n 0, 1) := by decide +kernel
theorem dX4_init_10 : decode cX4_init 10 = .ok (.iconst 0, 1) := by decide +kernel
theorem dX4_init_11 : decode cX4_init 11 = .ok (.putfield 15, 3) := by decide +kernel
theorem dX4_init_14 : decode cX4_init 14 = .ok (.aload_n 0, 1) := by decide +kernel
theorem dX4_init_15 : decode cX4_init 15 = .ok (.iconst 0, 1) := by decide +kernel
theorem dX4_init_16 : decode cX4_init 16 = .ok (.putfield 19, 3) := by decide +kernel
theorem dX4_init_19 : decode cX4_init 19 = .ok (.aload_n 0, 1) := by decide +kernel
theorem dX4_init_20 : decode cX4_init 20 = .ok (.iconst (-1), 1) := by decide +kernel
theorem dX4_init_21 : decode cX4_init 21 = .ok (.putfield 22, 3) := by decide +kernel
theorem dX4_init_24 : decode cX4_init 24 = .ok (.aload_n 0, 1) := by decide +kernel
theorem dX4_init_25 : decode cX4_init 25 = .ok (.aload_n 2, 1) := by decide +kernel
theorem dX4_init_26 : decode cX4_init 26 = .ok (.putfield 25, 3) := by decide +kernel
theorem dX4_init_29 : decode cX4_init 29 = .ok (.aload_n 0, 1) := by decide +kernel
theorem dX4_init_30 : decode cX4_init 30 = .ok (.bipush 32, 2) := by decide +kernel
theorem dX4_init_32 : decode cX4_init 32 = .ok (.newarray .int, 2) := by decide +kernel
theorem dX4_init_34 : decode cX4_init 34 = .ok (.putfield 31, 3) := by decide +kernel
theorem dX4_init_37 : decode cX4_init 37 = .ok (.aload_n 0, 1) := by decide +kernel
theorem dX4_init_38 : decode cX4_init 38 = .ok (.iconst 0, 1) := by decide +kernel
theorem dX4_init_39 : decode cX4_init 39 = .ok (.putfield 34, 3) := by decide +kernel
theorem dX4_init_42 : decode cX4_init 42 = .ok (.return_, 1) := by decide +kernel
theorem dX4_begin_0 : decode cX4_begin 0 = .ok (.aload_n 0, 1) := by decide +kernel
theorem dX4_begin_1 : decode cX4_begin 1 = .ok (.iload_n 1, 1) := by decide +kernel
theorem dX4_begin_2 : decode cX4_begin 2 = .ok (.aload_n 0, 1) := by decide +kernel
theorem dX4_begin_3 : decode cX4_begin 3 = .ok (.getfield 9, 3) := by decide +kernel
theorem dX4_begin_6 : decode cX4_begin 6 = .ok (.arraylength, 1) := by decide +kernel
theorem dX4_begin_7 : decode cX4_begin 7 = .ok (.invokestatic 37, 3) := by decide +kernel
theorem dX4_begin_10 : decode cX4_begin 10 = .ok (.putfield 15, 3) := by decide +kernel
theorem dX4_begin_13 : decode cX4_begin 13 = .ok (.aload_n 0, 1) := by decide +kernel
theorem dX4_begin_14 : decode cX4_begin 14 = .ok (.iconst 0, 1) := by decide +kernel
theorem dX4_begin_15 : decode cX4_begin 15 = .ok (.putfield 19, 3) := by decide +kernel
theorem dX4_begin_18 : decode cX4_begin 18 = .ok (.aload_n 0, 1) := by decide +kernel
theorem dX4_begin_19 : decode cX4_begin 19 = .ok (.iconst (-1), 1) := by decide +kernel
theorem dX4_begin_20 : decode cX4_begin 20 = .ok (.putfield 22, 3) := by decide +kernel
theorem dX4_begin_23 : decode cX4_begin 23 = .ok (.return_, 1) := by decide +kernel
theorem dX4_badPlace_0 : decode cX4_badPlace 0 = .ok (.aload_n 0, 1) := by decide +kernel
theorem dX4_badPlace_1 : decode cX4_badPlace 1 = .ok (.getfield 22, 3) := by decide +kernel
theorem dX4_badPlace_4 : decode cX4_badPlace 4 = .ok (.ireturn, 1) := by decide +kernel
theorem dX4_isWell_0 : decode cX4_isWell 0 = .ok (.aload_n 0, 1) := by decide +kernel
theorem dX4_isWell_1 : decode cX4_isWell 1 = .ok (.getfield 22, 3) := by decide +kernel
theorem dX4_isWell_4 : decode cX4_isWell 4 = .ok (.iconst (-1), 1) := by decide +kernel
theorem dX4_isWell_5 : decode cX4_isWell 5 = .ok (.if_icmp .ne 7, 3) := by decide +kernel
theorem dX4_isWell_8 : decode cX4_isWell 8 = .ok (.iconst 1, 1) := by decide +kernel
theorem dX4_isWell_9 : decode cX4_isWell 9 = .ok (.goto 4, 3) := by decide +kernel
theorem dX4_isWell_12 : decode cX4_isWell 12 = .ok (.iconst 0, 1) := by decide +kernel
theorem dX4_isWell_13 : decode cX4_isWell 13 = .ok (.ireturn, 1) := by decide +kernel
theorem dX4_fail_0 : decode cX4_fail 0 = .ok (.aload_n 0, 1) := by decide +kernel
theorem dX4_fail_1 : decode cX4_fail 1 = .ok (.getfield 22, 3) := by decide +kernel
theorem dX4_fail_4 : decode cX4_fail 4 = .ok (.iconst (-1), 1) := by decide +kernel
theorem dX4_fail_5 : decode cX4_fail 5 = .ok (.if_icmp .ne 8, 3) := by decide +kernel
theorem dX4_fail_8 : decode cX4_fail 8 = .ok (.aload_n 0, 1) := by decide +kernel
theorem dX4_fail_9 : decode cX4_fail 9 = .ok (.iload_n 1, 1) := by decide +kernel
theorem dX4_fail_10 : decode cX4_fail 10 = .ok (.putfield 22, 3) := by decide +kernel
theorem dX4_fail_13 : decode cX4_fail 13 = .ok (.return_, 1) := by decide +kernel
theorem dX4_here_0 : decode cX4_here 0 = .ok (.aload_n 0, 1) := by decide +kernel
theorem dX4_here_1 : decode cX4_here 1 = .ok (.getfield 19, 3) := by decide +kernel
theorem dX4_here_4 : decode cX4_here 4 = .ok (.ifCond .lt 26, 3) := by decide +kernel
theorem dX4_here_7 : decode cX4_here 7 = .ok (.aload_n 0, 1) := by decide +kernel
theorem dX4_here_8 : decode cX4_here 8 = .ok (.getfield 19, 3) := by decide +kernel
theorem dX4_here_11 : decode cX4_here 11 = .ok (.aload_n 0, 1) := by decide +kernel
theorem dX4_here_12 : decode cX4_here 12 = .ok (.getfield 15, 3) := by decide +kernel
theorem dX4_here_15 : decode cX4_here 15 = .ok (.if_icmp .ge 15, 3) := by decide +kernel
theorem dX4_here_18 : decode cX4_here 18 = .ok (.aload_n 0, 1) := by decide +kernel
theorem dX4_here_19 : decode cX4_here 19 = .ok (.getfield 9, 3) := by decide +kernel
theorem dX4_here_22 : decode cX4_here 22 = .ok (.aload_n 0, 1) := by decide +kernel
theorem dX4_here_23 : decode cX4_here 23 = .ok (.getfield 19, 3) := by decide +kernel
theorem dX4_here_26 : decode cX4_here 26 = .ok (.iaload, 1) := by decide +kernel
theorem dX4_here_27 : decode cX4_here 27 = .ok (.goto 4, 3) := by decide +kernel
theorem dX4_here_30 : decode cX4_here 30 = .ok (.iconst (-1), 1) := by decide +kernel
theorem dX4_here_31 : decode cX4_here 31 = .ok (.ireturn, 1) := by decide +kernel
theorem dX4_isLetter_0 : decode cX4_isLetter 0 = .ok (.iload_n 0, 1) := by decide +kernel
theorem dX4_isLetter_1 : decode cX4_isLetter 1 = .ok (.bipush 97, 2) := by decide +kernel
theorem dX4_isLetter_3 : decode cX4_isLetter 3 = .ok (.if_icmp .lt 13, 3) := by decide +kernel
theorem dX4_isLetter_6 : decode cX4_isLetter 6 = .ok (.iload_n 0, 1) := by decide +kernel
theorem dX4_isLetter_7 : decode cX4_isLetter 7 = .ok (.bipush 108, 2) := by decide +kernel
theorem dX4_isLetter_9 : decode cX4_isLetter 9 = .ok (.if_icmp .gt 7, 3) := by decide +kernel
theorem dX4_isLetter_12 : decode cX4_isLetter 12 = .ok (.iconst 1, 1) := by decide +kernel
theorem dX4_isLetter_13 : decode cX4_isLetter 13 = .ok (.goto 4, 3) := by decide +kernel
theorem dX4_isLetter_16 : decode cX4_isLetter 16 = .ok (.iconst 0, 1) := by decide +kernel
theorem dX4_isLetter_17 : decode cX4_isLetter 17 = .ok (.ireturn, 1) := by decide +kernel
theorem dX4_readProgram_0 : decode cX4_readProgram 0 = .ok (.aload_n 0, 1) := by decide +kernel
theorem dX4_readProgram_1 : decode cX4_readProgram 1 = .ok (.aload_n 1, 1) := by decide +kernel
theorem dX4_readProgram_2 : decode cX4_readProgram 2 = .ok (.putfield 25, 3) := by decide +kernel
theorem dX4_readProgram_5 : decode cX4_readProgram 5 = .ok (.aload_n 0, 1) := by decide +kernel
theorem dX4_readProgram_6 : decode cX4_readProgram 6 = .ok (.getfield 25, 3) := by decide +kernel
theorem dX4_readProgram_9 : decode cX4_readProgram 9 = .ok (.invokevirtual 59, 3) := by decide +kernel
theorem dX4_readProgram_12 : decode cX4_readProgram 12 = .ok (.iconst 0, 1) := by decide +kernel
theorem dX4_readProgram_13 : decode cX4_readProgram 13 = .ok (.istore_n 2, 1) := by decide +kernel
theorem dX4_readProgram_14 : decode cX4_readProgram 14 = .ok (.iload_n 2, 1) := by decide +kernel
theorem dX4_readProgram_15 : decode cX4_readProgram 15 = .ok (.sipush 800, 3) := by decide +kernel
theorem dX4_readProgram_18 : decode cX4_readProgram 18 = .ok (.if_icmp .gt 31, 3) := by decide +kernel
theorem dX4_readProgram_21 : decode cX4_readProgram 21 = .ok (.aload_n 0, 1) := by decide +kernel
theorem dX4_readProgram_22 : decode cX4_readProgram 22 = .ok (.invokevirtual 43, 3) := by decide +kernel
theorem dX4_readProgram_25 : decode cX4_readProgram 25 = .ok (.ifCond .eq 24, 3) := by decide +kernel
theorem dX4_readProgram_28 : decode cX4_readProgram 28 = .ok (.aload_n 0, 1) := by decide +kernel
theorem dX4_readProgram_29 : decode cX4_readProgram 29 = .ok (.getfield 19, 3) := by decide +kernel
theorem dX4_readProgram_32 : decode cX4_readProgram 32 = .ok (.aload_n 0, 1) := by decide +kernel
theorem dX4_readProgram_33 : decode cX4_readProgram 33 = .ok (.getfield 15, 3) := by decide +kernel
theorem dX4_readProgram_36 : decode cX4_readProgram 36 = .ok (.if_icmp .ge 13, 3) := by decide +kernel
theorem dX4_readProgram_39 : decode cX4_readProgram 39 = .ok (.aload_n 0, 1) := by decide +kernel
theorem dX4_readProgram_40 : decode cX4_readProgram 40 = .ok (.invokevirtual 64, 3) := by decide +kernel
theorem dX4_readProgram_43 : decode cX4_readProgram 43 = .ok (.iinc 2 1, 3) := by decide +kernel
theorem dX4_readProgram_46 : decode cX4_readProgram 46 = .ok (.goto (-32), 3) := by decide +kernel
theorem dX4_readProgram_49 : decode cX4_readProgram 49 = .ok (.return_, 1) := by decide +kernel
theorem dX4_readTask_0 : decode cX4_readTask 0 = .ok (.aload_n 1, 1) := by decide +kernel
theorem dX4_readTask_1 : decode cX4_readTask 1 = .ok (.iconst 0, 1) := by decide +kernel
theorem dX4_readTask_2 : decode cX4_readTask 2 = .ok (.invokevirtual 169, 3) := by decide +kernel
theorem dX4_readTask_5 : decode cX4_readTask 5 = .ok (.aload_n 0, 1) := by decide +kernel
theorem dX4_readTask_6 : decode cX4_readTask 6 = .ok (.invokevirtual 47, 3) := by decide +kernel
theorem dX4_readTask_9 : decode cX4_readTask 9 = .ok (.istore_n 2, 1) := by decide +kernel
theorem dX4_readTask_10 : decode cX4_readTask 10 = .ok (.iload_n 2, 1) := by decide +kernel
theorem dX4_readTask_11 : decode cX4_readTask 11 = .ok (.invokestatic 67, 3) := by decide +kernel
theorem dX4_readTask_14 : decode cX4_readTask 14 = .ok (.ifCond .ne 12, 3) := by decide +kernel
theorem dX4_readTask_17 : decode cX4_readTask 17 = .ok (.aload_n 0, 1) := by decide +kernel
theorem dX4_readTask_18 : decode cX4_readTask 18 = .ok (.aload_n 0, 1) := by decide +kernel
theorem dX4_readTask_19 : decode cX4_readTask 19 = .ok (.getfield 19, 3) := by decide +kernel
theorem dX4_readTask_22 : decode cX4_readTask 22 = .ok (.invokevirtual 51, 3) := by decide +kernel
theorem dX4_readTask_25 : decode cX4_readTask 25 = .ok (.return_, 1) := by decide +kernel
theorem dX4_readTask_26 : decode cX4_readTask 26 = .ok (.aload_n 0, 1) := by decide +kernel
theorem dX4_readTask_27 : decode cX4_readTask 27 = .ok (.dup, 1) := by decide +kernel
theorem dX4_readTask_28 : decode cX4_readTask 28 = .ok (.getfield 19, 3) := by decide +kernel
theorem dX4_readTask_31 : decode cX4_readTask 31 = .ok (.iconst 1, 1) := by decide +kernel
theorem dX4_readTask_32 : decode cX4_readTask 32 = .ok (.iadd, 1) := by decide +kernel
theorem dX4_readTask_33 : decode cX4_readTask 33 = .ok (.putfield 19, 3) := by decide +kernel
theorem dX4_readTask_36 : decode cX4_readTask 36 = .ok (.aload_n 0, 1) := by decide +kernel
theorem dX4_readTask_37 : decode cX4_readTask 37 = .ok (.bipush 40, 2) := by decide +kernel
theorem dX4_readTask_39 : decode cX4_readTask 39 = .ok (.invokevirtual 70, 3) := by decide +kernel
theorem dX4_readTask_42 : decode cX4_readTask 42 = .ok (.pop, 1) := by decide +kernel
theorem dX4_readTask_43 : decode cX4_readTask 43 = .ok (.iconst 0, 1) := by decide +kernel
theorem dX4_readTask_44 : decode cX4_readTask 44 = .ok (.istore_n 3, 1) := by decide +kernel
theorem dX4_readTask_45 : decode cX4_readTask 45 = .ok (.aload_n 0, 1) := by decide +kernel
theorem dX4_readTask_46 : decode cX4_readTask 46 = .ok (.invokevirtual 43, 3) := by decide +kernel
theorem dX4_readTask_49 : decode cX4_readTask 49 = .ok (.ifCond .eq 67, 3) := by decide +kernel
theorem dX4_readTask_52 : decode cX4_readTask 52 = .ok (.aload_n 0, 1) := by decide +kernel
theorem dX4_readTask_53 : decode cX4_readTask 53 = .ok (.invokevirtual 47, 3) := by decide +kernel
theorem dX4_readTask_56 : decode cX4_readTask 56 = .ok (.bipush 41, 2) := by decide +kernel
theorem dX4_readTask_58 : decode cX4_readTask 58 = .ok (.if_icmp .eq 58, 3) := by decide +kernel
theorem dX4_readTask_61 : decode cX4_readTask 61 = .ok (.aload_n 0, 1) := by decide +kernel
theorem dX4_readTask_62 : decode cX4_readTask 62 = .ok (.aload_n 1, 1) := by decide +kernel
theorem dX4_readTask_63 : decode cX4_readTask 63 = .ok (.bipush 8, 2) := by decide +kernel
theorem dX4_readTask_65 : decode cX4_readTask 65 = .ok (.iconst 0, 1) := by decide +kernel
theorem dX4_readTask_66 : decode cX4_readTask 66 = .ok (.invokevirtual 170, 3) := by decide +kernel
theorem dX4_readTask_69 : decode cX4_readTask 69 = .ok (.iconst 1, 1) := by decide +kernel
theorem dX4_readTask_70 : decode cX4_readTask 70 = .ok (.istore_n 3, 1) := by decide +kernel
theorem dX4_readTask_71 : decode cX4_readTask 71 = .ok (.aload_n 0, 1) := by decide +kernel
theorem dX4_readTask_72 : decode cX4_readTask 72 = .ok (.invokevirtual 43, 3) := by decide +kernel
theorem dX4_readTask_75 : decode cX4_readTask 75 = .ok (.ifCond .eq 41, 3) := by decide +kernel
theorem dX4_readTask_78 : decode cX4_readTask 78 = .ok (.aload_n 0, 1) := by decide +kernel
theorem dX4_readTask_79 : decode cX4_readTask 79 = .ok (.invokevirtual 47, 3) := by decide +kernel
theorem dX4_readTask_82 : decode cX4_readTask 82 = .ok (.bipush 44, 2) := by decide +kernel
theorem dX4_readTask_84 : decode cX4_readTask 84 = .ok (.if_icmp .ne 32, 3) := by decide +kernel
theorem dX4_readTask_87 : decode cX4_readTask 87 = .ok (.iload_n 3, 1) := by decide +kernel
theorem dX4_readTask_88 : decode cX4_readTask 88 = .ok (.iconst 5, 1) := by decide +kernel
theorem dX4_readTask_89 : decode cX4_readTask 89 = .ok (.if_icmp .ge 27, 3) := by decide +kernel
theorem dX4_readTask_92 : decode cX4_readTask 92 = .ok (.aload_n 0, 1) := by decide +kernel
theorem dX4_readTask_93 : decode cX4_readTask 93 = .ok (.dup, 1) := by decide +kernel
theorem dX4_readTask_94 : decode cX4_readTask 94 = .ok (.getfield 19, 3) := by decide +kernel
theorem dX4_readTask_97 : decode cX4_readTask 97 = .ok (.iconst 1, 1) := by decide +kernel
theorem dX4_readTask_98 : decode cX4_readTask 98 = .ok (.iadd, 1) := by decide +kernel
theorem dX4_readTask_99 : decode cX4_readTask 99 = .ok (.putfield 19, 3) := by decide +kernel
theorem dX4_readTask_102 : decode cX4_readTask 102 = .ok (.aload_n 0, 1) := by decide +kernel
theorem dX4_readTask_103 : decode cX4_readTask 103 = .ok (.aload_n 1, 1) := by decide +kernel
theorem dX4_readTask_104 : decode cX4_readTask 104 = .ok (.bipush 8, 2) := by decide +kernel
theorem dX4_readTask_106 : decode cX4_readTask 106 = .ok (.iconst 0, 1) := by decide +kernel
theorem dX4_readTask_107 : decode cX4_readTask 107 = .ok (.invokevirtual 170, 3) := by decide +kernel
theorem dX4_readTask_110 : decode cX4_readTask 110 = .ok (.iinc 3 1, 3) := by decide +kernel
theorem dX4_readTask_113 : decode cX4_readTask 113 = .ok (.goto (-42), 3) := by decide +kernel
theorem dX4_readTask_116 : decode cX4_readTask 116 = .ok (.aload_n 0, 1) := by decide +kernel
theorem dX4_readTask_117 : decode cX4_readTask 117 = .ok (.bipush 41, 2) := by decide +kernel
theorem dX4_readTask_119 : decode cX4_readTask 119 = .ok (.invokevirtual 70, 3) := by decide +kernel
theorem dX4_readTask_122 : decode cX4_readTask 122 = .ok (.pop, 1) := by decide +kernel
theorem dX4_readTask_123 : decode cX4_readTask 123 = .ok (.aload_n 1, 1) := by decide +kernel
theorem dX4_readTask_124 : decode cX4_readTask 124 = .ok (.iload_n 2, 1) := by decide +kernel
theorem dX4_readTask_125 : decode cX4_readTask 125 = .ok (.bipush 97, 2) := by decide +kernel
theorem dX4_readTask_127 : decode cX4_readTask 127 = .ok (.isub, 1) := by decide +kernel
theorem dX4_readTask_128 : decode cX4_readTask 128 = .ok (.bipush 6, 2) := by decide +kernel
theorem dX4_readTask_130 : decode cX4_readTask 130 = .ok (.imul, 1) := by decide +kernel
theorem dX4_readTask_131 : decode cX4_readTask 131 = .ok (.iload_n 3, 1) := by decide +kernel
theorem dX4_readTask_132 : decode cX4_readTask 132 = .ok (.iadd, 1) := by decide +kernel
theorem dX4_readTask_133 : decode cX4_readTask 133 = .ok (.putfield 174, 3) := by decide +kernel
theorem dX4_readTask_136 : decode cX4_readTask 136 = .ok (.aload_n 0, 1) := by decide +kernel
theorem dX4_readTask_137 : decode cX4_readTask 137 = .ok (.invokevirtual 177, 3) := by decide +kernel
theorem dX4_readTask_140 : decode cX4_readTask 140 = .ok (.return_, 1) := by decide +kernel
theorem dX4_readValues_0 : decode cX4_readValues 0 = .ok (.aload_n 1, 1) := by decide +kernel
theorem dX4_readValues_1 : decode cX4_readValues 1 = .ok (.iconst 0, 1) := by decide +kernel
theorem dX4_readValues_2 : decode cX4_readValues 2 = .ok (.invokevirtual 169, 3) := by decide +kernel
theorem dX4_readValues_5 : decode cX4_readValues 5 = .ok (.iconst 0, 1) := by decide +kernel
theorem dX4_readValues_6 : decode cX4_readValues 6 = .ok (.istore_n 3, 1) := by decide +kernel
theorem dX4_readValues_7 : decode cX4_readValues 7 = .ok (.iload_n 3, 1) := by decide +kernel
theorem dX4_readValues_8 : decode cX4_readValues 8 = .ok (.iload_n 2, 1) := by decide +kernel
theorem dX4_readValues_9 : decode cX4_readValues 9 = .ok (.if_icmp .ge 34, 3) := by decide +kernel
theorem dX4_readValues_12 : decode cX4_readValues 12 = .ok (.aload_n 0, 1) := by decide +kernel
theorem dX4_readValues_13 : decode cX4_readValues 13 = .ok (.invokevirtual 43, 3) := by decide +kernel
theorem dX4_readValues_16 : decode cX4_readValues 16 = .ok (.ifCond .eq 27, 3) := by decide +kernel
theorem dX4_readValues_19 : decode cX4_readValues 19 = .ok (.iload_n 3, 1) := by decide +kernel
theorem dX4_readValues_20 : decode cX4_readValues 20 = .ok (.ifCond .le 10, 3) := by decide +kernel
theorem dX4_readValues_23 : decode cX4_readValues 23 = .ok (.aload_n 0, 1) := by decide +kernel
theorem dX4_readValues_24 : decode cX4_readValues 24 = .ok (.bipush 44, 2) := by decide +kernel
theorem dX4_readValues_26 : decode cX4_readValues 26 = .ok (.invokevirtual 70, 3) := by decide +kernel
theorem dX4_readValues_29 : decode cX4_readValues 29 = .ok (.pop, 1) := by decide +kernel
theorem dX4_readValues_30 : decode cX4_readValues 30 = .ok (.aload_n 0, 1) := by decide +kernel
theorem dX4_readValues_31 : decode cX4_readValues 31 = .ok (.aload_n 1, 1) := by decide +kernel
theorem dX4_readValues_32 : decode cX4_readValues 32 = .ok (.iconst 0, 1) := by decide +kernel
theorem dX4_readValues_33 : decode cX4_readValues 33 = .ok (.iconst 0, 1) := by decide +kernel
theorem dX4_readValues_34 : decode cX4_readValues 34 = .ok (.invokevirtual 170, 3) := by decide +kernel
theorem dX4_readValues_37 : decode cX4_readValues 37 = .ok (.iinc 3 1, 3) := by decide +kernel
theorem dX4_readValues_40 : decode cX4_readValues 40 = .ok (.goto (-33), 3) := by decide +kernel
theorem dX4_readValues_43 : decode cX4_readValues 43 = .ok (.aload_n 0, 1) := by decide +kernel
theorem dX4_readValues_44 : decode cX4_readValues 44 = .ok (.invokevirtual 177, 3) := by decide +kernel
theorem dX4_readValues_47 : decode cX4_readValues 47 = .ok (.return_, 1) := by decide +kernel
theorem dX4_takeEnd_0 : decode cX4_takeEnd 0 = .ok (.aload_n 0, 1) := by decide +kernel
theorem dX4_takeEnd_1 : decode cX4_takeEnd 1 = .ok (.invokevirtual 43, 3) := by decide +kernel
theorem dX4_takeEnd_4 : decode cX4_takeEnd 4 = .ok (.ifCond .eq 22, 3) := by decide +kernel
theorem dX4_takeEnd_7 : decode cX4_takeEnd 7 = .ok (.aload_n 0, 1) := by decide +kernel
theorem dX4_takeEnd_8 : decode cX4_takeEnd 8 = .ok (.getfield 19, 3) := by decide +kernel
theorem dX4_takeEnd_11 : decode cX4_takeEnd 11 = .ok (.aload_n 0, 1) := by decide +kernel
theorem dX4_takeEnd_12 : decode cX4_takeEnd 12 = .ok (.getfield 15, 3) := by decide +kernel
theorem dX4_takeEnd_15 : decode cX4_takeEnd 15 = .ok (.if_icmp .ge 11, 3) := by decide +kernel
theorem dX4_takeEnd_18 : decode cX4_takeEnd 18 = .ok (.aload_n 0, 1) := by decide +kernel
theorem dX4_takeEnd_19 : decode cX4_takeEnd 19 = .ok (.aload_n 0, 1) := by decide +kernel
theorem dX4_takeEnd_20 : decode cX4_takeEnd 20 = .ok (.getfield 19, 3) := by decide +kernel
theorem dX4_takeEnd_23 : decode cX4_takeEnd 23 = .ok (.invokevirtual 51, 3) := by decide +kernel
theorem dX4_takeEnd_26 : decode cX4_takeEnd 26 = .ok (.return_, 1) := by decide +kernel
theorem dX5_init_0 : decode cX5_init 0 = .ok (.aload_n 0, 1) := by decide +kernel
theorem dX5_init_1 : decode cX5_init 1 = .ok (.invokespecial 5, 3) := by decide +kernel
theorem dX5_init_4 : decode cX5_init 4 = .ok (.aload_n 0, 1) := by decide +kernel
theorem dX5_init_5 : decode cX5_init 5 = .ok (.sipush 2400, 3) := by decide +kernel
theorem dX5_init_8 : decode cX5_init 8 = .ok (.newarray .int, 2) := by decide +kernel
theorem dX5_init_10 : decode cX5_init 10 = .ok (.putfield 11, 3) := by decide +kernel
theorem dX5_init_13 : decode cX5_init 13 = .ok (.aload_n 0, 1) := by decide +kernel
theorem dX5_init_14 : decode cX5_init 14 = .ok (.sipush 3000, 3) := by decide +kernel
theorem dX5_init_17 : decode cX5_init 17 = .ok (.newarray .long, 2) := by decide +kernel
theorem dX5_init_19 : decode cX5_init 19 = .ok (.putfield 15, 3) := by decide +kernel
theorem dX5_init_22 : decode cX5_init 22 = .ok (.aload_n 0, 1) := by decide +kernel
theorem dX5_init_23 : decode cX5_init 23 = .ok (.sipush 672, 3) := by decide +kernel
theorem dX5_init_26 : decode cX5_init 26 = .ok (.newarray .int, 2) := by decide +kernel
theorem dX5_init_28 : decode cX5_init 28 = .ok (.putfield 19, 3) := by decide +kernel
theorem dX5_init_31 : decode cX5_init 31 = .ok (.aload_n 0, 1) := by decide +kernel
theorem dX5_init_32 : decode cX5_init 32 = .ok (.sipush 672, 3) := by decide +kernel
theorem dX5_init_35 : decode cX5_init 35 = .ok (.newarray .int, 2) := by decide +kernel
theorem dX5_init_37 : decode cX5_init 37 = .ok (.putfield 22, 3) := by decide +kernel
theorem dX5_init_40 : decode cX5_init 40 = .ok (.aload_n 0, 1) := by decide +kernel
theorem dX5_init_41 : decode cX5_init 41 = .ok (.sipush 672, 3) := by decide +kernel
theorem dX5_init_44 : decode cX5_init 44 = .ok (.newarray .long, 2) := by decide +kernel
theorem dX5_init_46 : decode cX5_init 46 = .ok (.putfield 25, 3) := by decide +kernel
theorem dX5_init_49 : decode cX5_init 49 = .ok (.aload_n 0, 1) := by decide +kernel
theorem dX5_init_50 : decode cX5_init 50 = .ok (.bipush 96, 2) := by decide +kernel
theorem dX5_init_52 : decode cX5_init 52 = .ok (.newarray .int, 2) := by decide +kernel
theorem dX5_init_54 : decode cX5_init 54 = .ok (.putfield 28, 3) := by decide +kernel
theorem dX5_init_57 : decode cX5_init 57 = .ok (.aload_n 0, 1) := by decide +kernel
theorem dX5_init_58 : decode cX5_init 58 = .ok (.bipush 24, 2) := by decide +kernel
theorem dX5_init_60 : decode cX5_init 60 = .ok (.anewarray 31, 3) := by decide +kernel
theorem dX5_init_63 : decode cX5_init 63 = .ok (.putfield 33, 3) := by decide +kernel
theorem dX5_init_66 : decode cX5_init 66 = .ok (.iconst 0, 1) := by decide +kernel
theorem dX5_init_67 : decode cX5_init 67 = .ok (.istore_n 1, 1) := by decide +kernel
theorem dX5_init_68 : decode cX5_init 68 = .ok (.iload_n 1, 1) := by decide +kernel
theorem dX5_init_69 : decode cX5_init 69 = .ok (.bipush 24, 2) := by decide +kernel
theorem dX5_init_71 : decode cX5_init 71 = .ok (.if_icmp .ge 25, 3) := by decide +kernel
theorem dX5_init_74 : decode cX5_init 74 = .ok (.aload_n 0, 1) := by decide +kernel
theorem dX5_init_75 : decode cX5_init 75 = .ok (.getfield 33, 3) := by decide +kernel
theorem dX5_init_78 : decode cX5_init 78 = .ok (.iload_n 1, 1) := by decide +kernel
theorem dX5_init_79 : decode cX5_init 79 = .ok (.new 31, 3) := by decide +kernel
theorem dX5_init_82 : decode cX5_init 82 = .ok (.dup, 1) := by decide +kernel
theorem dX5_init_83 : decode cX5_init 83 = .ok (.sipush 200, 3) := by decide +kernel
theorem dX5_init_86 : decode cX5_init 86 = .ok (.invokespecial 37, 3) := by decide +kernel
theorem dX5_init_89 : decode cX5_init 89 = .ok (.aastore, 1) := by decide +kernel
theorem dX5_init_90 : decode cX5_init 90 = .ok (.iinc 1 1, 3) := by decide +kernel
theorem dX5_init_93 : decode cX5_init 93 = .ok (.goto (-25), 3) := by decide +kernel
theorem dX5_init_96 : decode cX5_init 96 = .ok (.aload_n 0, 1) := by decide +kernel
theorem dX5_init_97 : decode cX5_init 97 = .ok (.iconst 0, 1) := by decide +kernel
theorem dX5_init_98 : decode cX5_init 98 = .ok (.putfield 40, 3) := by decide +kernel
theorem dX5_init_101 : decode cX5_init 101 = .ok (.aload_n 0, 1) := by decide +kernel
theorem dX5_init_102 : decode cX5_init 102 = .ok (.iconst 0, 1) := by decide +kernel
theorem dX5_init_103 : decode cX5_init 103 = .ok (.putfield 44, 3) := by decide +kernel
theorem dX5_init_106 : decode cX5_init 106 = .ok (.aload_n 0, 1) := by decide +kernel
theorem dX5_init_107 : decode cX5_init 107 = .ok (.iconst 0, 1) := by decide +kernel
theorem dX5_init_108 : decode cX5_init 108 = .ok (.putfield 48, 3) := by decide +kernel
theorem dX5_init_111 : decode cX5_init 111 = .ok (.aload_n 0, 1) := by decide +kernel
theorem dX5_init_112 : decode cX5_init 112 = .ok (.iconst 0, 1) := by decide +kernel
theorem dX5_init_113 : decode cX5_init 113 = .ok (.putfield 51, 3) := by decide +kernel
theorem dX5_init_116 : decode cX5_init 116 = .ok (.aload_n 0, 1) := by decide +kernel
theorem dX5_init_117 : decode cX5_init 117 = .ok (.iconst 0, 1) := by decide +kernel
theorem dX5_init_118 : decode cX5_init 118 = .ok (.putfield 54, 3) := by decide +kernel
theorem dX5_init_121 : decode cX5_init 121 = .ok (.aload_n 0, 1) := by decide +kernel
theorem dX5_init_122 : decode cX5_init 122 = .ok (.iconst 0, 1) := by decide +kernel
theorem dX5_init_123 : decode cX5_init 123 = .ok (.putfield 57, 3) := by decide +kernel
theorem dX5_init_126 : decode cX5_init 126 = .ok (.aload_n 0, 1) := by decide +kernel
theorem dX5_init_127 : decode cX5_init 127 = .ok (.iconst 0, 1) := by decide +kernel
theorem dX5_init_128 : decode cX5_init 128 = .ok (.putfield 60, 3) := by decide +kernel
theorem dX5_init_131 : decode cX5_init 131 = .ok (.return_, 1) := by decide +kernel
theorem dX5_clear_0 : decode cX5_clear 0 = .ok (.aload_n 0, 1) := by decide +kernel
theorem dX5_clear_1 : decode cX5_clear 1 = .ok (.iconst 0, 1) := by decide +kernel
theorem dX5_clear_2 : decode cX5_clear 2 = .ok (.putfield 40, 3) := by decide +kernel
theorem dX5_clear_5 : decode cX5_clear 5 = .ok (.aload_n 0, 1) := by decide +kernel
theorem dX5_clear_6 : decode cX5_clear 6 = .ok (.iconst 0, 1) := by decide +kernel
theorem dX5_clear_7 : decode cX5_clear 7 = .ok (.putfield 44, 3) := by decide +kernel
theorem dX5_clear_10 : decode cX5_clear 10 = .ok (.aload_n 0, 1) := by decide +kernel
theorem dX5_clear_11 : decode cX5_clear 11 = .ok (.iconst 0, 1) := by decide +kernel
theorem dX5_clear_12 : decode cX5_clear 12 = .ok (.putfield 48, 3) := by decide +kernel
theorem dX5_clear_15 : decode cX5_clear 15 = .ok (.aload_n 0, 1) := by decide +kernel
theorem dX5_clear_16 : decode cX5_clear 16 = .ok (.iconst 0, 1) := by decide +kernel
theorem dX5_clear_17 : decode cX5_clear 17 = .ok (.putfield 51, 3) := by decide +kernel
theorem dX5_clear_20 : decode cX5_clear 20 = .ok (.aload_n 0, 1) := by decide +kernel
theorem dX5_clear_21 : decode cX5_clear 21 = .ok (.iconst 0, 1) := by decide +kernel
theorem dX5_clear_22 : decode cX5_clear 22 = .ok (.putfield 54, 3) := by decide +kernel
theorem dX5_clear_25 : decode cX5_clear 25 = .ok (.aload_n 0, 1) := by decide +kernel
theorem dX5_clear_26 : decode cX5_clear 26 = .ok (.iconst 0, 1) := by decide +kernel
theorem dX5_clear_27 : decode cX5_clear 27 = .ok (.putfield 57, 3) := by decide +kernel
theorem dX5_clear_30 : decode cX5_clear 30 = .ok (.aload_n 0, 1) := by decide +kernel
theorem dX5_clear_31 : decode cX5_clear 31 = .ok (.iconst 0, 1) := by decide +kernel
theorem dX5_clear_32 : decode cX5_clear 32 = .ok (.putfield 60, 3) := by decide +kernel
theorem dX5_clear_35 : decode cX5_clear 35 = .ok (.return_, 1) := by decide +kernel
theorem dX5_hasVariant_0 : decode cX5_hasVariant 0 = .ok (.aload_n 0, 1) := by decide +kernel
theorem dX5_hasVariant_1 : decode cX5_hasVariant 1 = .ok (.getfield 40, 3) := by decide +kernel
theorem dX5_hasVariant_4 : decode cX5_hasVariant 4 = .ok (.ifCond .eq 19, 3) := by decide +kernel
theorem dX5_hasVariant_7 : decode cX5_hasVariant 7 = .ok (.iload_n 1, 1) := by decide +kernel
theorem dX5_hasVariant_8 : decode cX5_hasVariant 8 = .ok (.ifCond .lt 15, 3) := by decide +kernel
theorem dX5_hasVariant_11 : decode cX5_hasVariant 11 = .ok (.iload_n 1, 1) := by decide +kernel
theorem dX5_hasVariant_12 : decode cX5_hasVariant 12 = .ok (.aload_n 0, 1) := by decide +kernel
theorem dX5_hasVariant_13 : decode cX5_hasVariant 13 = .ok (.getfield 48, 3) := by decide +kernel
theorem dX5_hasVariant_16 : decode cX5_hasVariant 16 = .ok (.if_icmp .ge 7, 3) := by decide +kernel
theorem dX5_hasVariant_19 : decode cX5_hasVariant 19 = .ok (.iconst 1, 1) := by decide +kernel
theorem dX5_hasVariant_20 : decode cX5_hasVariant 20 = .ok (.goto 4, 3) := by decide +kernel
theorem dX5_hasVariant_23 : decode cX5_hasVariant 23 = .ok (.iconst 0, 1) := by decide +kernel
theorem dX5_hasVariant_24 : decode cX5_hasVariant 24 = .ok (.ireturn, 1) := by decide +kernel
theorem dX5_about_0 : decode cX5_about 0 = .ok (.aload_n 0, 1) := by decide +kernel
theorem dX5_about_1 : decode cX5_about 1 = .ok (.getfield 40, 3) := by decide +kernel
theorem dX5_about_4 : decode cX5_about 4 = .ok (.ifCond .ne 5, 3) := by decide +kernel
theorem dX5_about_7 : decode cX5_about 7 = .ok (.iconst (-1), 1) := by decide +kernel
theorem dX5_about_8 : decode cX5_about 8 = .ok (.ireturn, 1) := by decide +kernel
theorem dX5_about_9 : decode cX5_about 9 = .ok (.iload_n 1, 1) := by decide +kernel
theorem dX5_about_10 : decode cX5_about 10 = .ok (.tableswitch 127 0 9 #[54, 59, 64, 69, 77, 85, 101, 109, 117, 122], 54) := by decide +kernel
theorem dX5_about_64 : decode cX5_about 64 = .ok (.aload_n 0, 1) := by decide +kernel
theorem dX5_about_65 : decode cX5_about 65 = .ok (.getfield 48, 3) := by decide +kernel
theorem dX5_about_68 : decode cX5_about 68 = .ok (.ireturn, 1) := by decide +kernel
theorem dX5_about_69 : decode cX5_about 69 = .ok (.aload_n 0, 1) := by decide +kernel
theorem dX5_about_70 : decode cX5_about 70 = .ok (.getfield 44, 3) := by decide +kernel
theorem dX5_about_73 : decode cX5_about 73 = .ok (.ireturn, 1) := by decide +kernel
theorem dX5_about_74 : decode cX5_about 74 = .ok (.aload_n 0, 1) := by decide +kernel
theorem dX5_about_75 : decode cX5_about 75 = .ok (.getfield 51, 3) := by decide +kernel
theorem dX5_about_78 : decode cX5_about 78 = .ok (.ireturn, 1) := by decide +kernel
theorem dX5_about_79 : decode cX5_about 79 = .ok (.aload_n 0, 1) := by decide +kernel
theorem dX5_about_80 : decode cX5_about 80 = .ok (.iconst (-1), 1) := by decide +kernel
theorem dX5_about_81 : decode cX5_about 81 = .ok (.bipush 11, 2) := by decide +kernel
theorem dX5_about_83 : decode cX5_about 83 = .ok (.invokevirtual 100, 3) := by decide +kernel
theorem dX5_about_86 : decode cX5_about 86 = .ok (.ireturn, 1) := by decide +kernel
theorem dX5_about_87 : decode cX5_about 87 = .ok (.aload_n 0, 1) := by decide +kernel
theorem dX5_about_88 : decode cX5_about 88 = .ok (.iconst (-1), 1) := by decide +kernel
theorem dX5_about_89 : decode cX5_about 89 = .ok (.bipush 7, 2) := by decide +kernel
theorem dX5_about_91 : decode cX5_about 91 = .ok (.invokevirtual 100, 3) := by decide +kernel
theorem dX5_about_94 : decode cX5_about 94 = .ok (.ireturn, 1) := by decide +kernel
theorem dX5_about_95 : decode cX5_about 95 = .ok (.aload_n 0, 1) := by decide +kernel
theorem dX5_about_96 : decode cX5_about 96 = .ok (.iconst (-1), 1) := by decide +kernel
theorem dX5_about_97 : decode cX5_about 97 = .ok (.bipush 8, 2) := by decide +kernel
theorem dX5_about_99 : decode cX5_about 99 = .ok (.invokevirtual 100, 3) := by decide +kernel
theorem dX5_about_102 : decode cX5_about 102 = .ok (.aload_n 0, 1) := by decide +kernel
theorem dX5_about_103 : decode cX5_about 103 = .ok (.iconst (-1), 1) := by decide +kernel
theorem dX5_about_104 : decode cX5_about 104 = .ok (.bipush 9, 2) := by decide +kernel
theorem dX5_about_106 : decode cX5_about 106 = .ok (.invokevirtual 100, 3) := by decide +kernel
theorem dX5_about_109 : decode cX5_about 109 = .ok (.iadd, 1) := by decide +kernel
theorem dX5_about_110 : decode cX5_about 110 = .ok (.ireturn, 1) := by decide +kernel
theorem dX5_about_111 : decode cX5_about 111 = .ok (.aload_n 0, 1) := by decide +kernel
theorem dX5_about_112 : decode cX5_about 112 = .ok (.iconst (-1), 1) := by decide +kernel
theorem dX5_about_113 : decode cX5_about 113 = .ok (.bipush 10, 2) := by decide +kernel
theorem dX5_about_115 : decode cX5_about 115 = .ok (.invokevirtual 100, 3) := by decide +kernel
theorem dX5_about_118 : decode cX5_about 118 = .ok (.ireturn, 1) := by decide +kernel
theorem dX5_about_119 : decode cX5_about 119 = .ok (.aload_n 0, 1) := by decide +kernel
theorem dX5_about_120 : decode cX5_about 120 = .ok (.iconst (-1), 1) := by decide +kernel
theorem dX5_about_121 : decode cX5_about 121 = .ok (.bipush 6, 2) := by decide +kernel
theorem dX5_about_123 : decode cX5_about 123 = .ok (.invokevirtual 100, 3) := by decide +kernel
theorem dX5_about_126 : decode cX5_about 126 = .ok (.ireturn, 1) := by decide +kernel
theorem dX5_about_127 : decode cX5_about 127 = .ok (.aload_n 0, 1) := by decide +kernel
theorem dX5_about_128 : decode cX5_about 128 = .ok (.getfield 54, 3) := by decide +kernel
theorem dX5_about_131 : decode cX5_about 131 = .ok (.ireturn, 1) := by decide +kernel
theorem dX5_about_132 : decode cX5_about 132 = .ok (.aload_n 0, 1) := by decide +kernel
theorem dX5_about_133 : decode cX5_about 133 = .ok (.getfield 57, 3) := by decide +kernel
theorem dX5_about_136 : decode cX5_about 136 = .ok (.ireturn, 1) := by decide +kernel
theorem dX5_about_137 : decode cX5_about 137 = .ok (.iconst (-1), 1) := by decide +kernel
theorem dX5_about_138 : decode cX5_about 138 = .ok (.ireturn, 1) := by decide +kernel
theorem dX5_aboutVariant_0 : decode cX5_aboutVariant 0 = .ok (.aload_n 0, 1) := by decide +kernel
theorem dX5_aboutVariant_1 : decode cX5_aboutVariant 1 = .ok (.iload_n 1, 1) := by decide +kernel
theorem dX5_aboutVariant_2 : decode cX5_aboutVariant 2 = .ok (.invokevirtual 103, 3) := by decide +kernel
theorem dX5_aboutVariant_5 : decode cX5_aboutVariant 5 = .ok (.ifCond .ne 5, 3) := by decide +kernel
theorem dX5_aboutVariant_8 : decode cX5_aboutVariant 8 = .ok (.iconst (-1), 1) := by decide +kernel
theorem dX5_aboutVariant_9 : decode cX5_aboutVariant 9 = .ok (.ireturn, 1) := by decide +kernel
theorem dX5_aboutVariant_10 : decode cX5_aboutVariant 10 = .ok (.iload_n 2, 1) := by decide +kernel
theorem dX5_aboutVariant_11 : decode cX5_aboutVariant 11 = .ok (.tableswitch 101 0 6 #[41, 55, 62, 71, 78, 85, 92], 41) := by decide +kernel
theorem dX5_aboutVariant_52 : decode cX5_aboutVariant 52 = .ok (.aload_n 0, 1) := by decide +kernel
theorem dX5_aboutVariant_53 : decode cX5_aboutVariant 53 = .ok (.iload_n 1, 1) := by decide +kernel
theorem dX5_aboutVariant_54 : decode cX5_aboutVariant 54 = .ok (.invokevirtual 106, 3) := by decide +kernel
theorem dX5_aboutVariant_57 : decode cX5_aboutVariant 57 = .ok (.getfield 76, 3) := by decide +kernel
theorem dX5_aboutVariant_60 : decode cX5_aboutVariant 60 = .ok (.bipush 6, 2) := by decide +kernel
theorem dX5_aboutVariant_62 : decode cX5_aboutVariant 62 = .ok (.idiv, 1) := by decide +kernel
theorem dX5_aboutVariant_63 : decode cX5_aboutVariant 63 = .ok (.iconst 1, 1) := by decide +kernel
theorem dX5_aboutVariant_64 : decode cX5_aboutVariant 64 = .ok (.iadd, 1) := by decide +kernel
theorem dX5_aboutVariant_65 : decode cX5_aboutVariant 65 = .ok (.ireturn, 1) := by decide +kernel
theorem dX5_aboutVariant_66 : decode cX5_aboutVariant 66 = .ok (.aload_n 0, 1) := by decide +kernel
theorem dX5_aboutVariant_67 : decode cX5_aboutVariant 67 = .ok (.iload_n 1, 1) := by decide +kernel
theorem dX5_aboutVariant_68 : decode cX5_aboutVariant 68 = .ok (.iconst 2, 1) := by decide +kernel
theorem dX5_aboutVariant_69 : decode cX5_aboutVariant 69 = .ok (.invokevirtual 110, 3) := by decide +kernel
theorem dX5_aboutVariant_72 : decode cX5_aboutVariant 72 = .ok (.ireturn, 1) := by decide +kernel
theorem dX5_aboutVariant_73 : decode cX5_aboutVariant 73 = .ok (.aload_n 0, 1) := by decide +kernel
theorem dX5_aboutVariant_74 : decode cX5_aboutVariant 74 = .ok (.iload_n 1, 1) := by decide +kernel
theorem dX5_aboutVariant_75 : decode cX5_aboutVariant 75 = .ok (.invokevirtual 106, 3) := by decide +kernel
theorem dX5_aboutVariant_78 : decode cX5_aboutVariant 78 = .ok (.invokevirtual 87, 3) := by decide +kernel
theorem dX5_aboutVariant_81 : decode cX5_aboutVariant 81 = .ok (.ireturn, 1) := by decide +kernel
theorem dX5_aboutVariant_82 : decode cX5_aboutVariant 82 = .ok (.aload_n 0, 1) := by decide +kernel
theorem dX5_aboutVariant_83 : decode cX5_aboutVariant 83 = .ok (.iload_n 1, 1) := by decide +kernel
theorem dX5_aboutVariant_84 : decode cX5_aboutVariant 84 = .ok (.iconst (-1), 1) := by decide +kernel
theorem dX5_aboutVariant_85 : decode cX5_aboutVariant 85 = .ok (.invokevirtual 100, 3) := by decide +kernel
theorem dX5_aboutVariant_88 : decode cX5_aboutVariant 88 = .ok (.ireturn, 1) := by decide +kernel
theorem dX5_aboutVariant_89 : decode cX5_aboutVariant 89 = .ok (.aload_n 0, 1) := by decide +kernel
theorem dX5_aboutVariant_90 : decode cX5_aboutVariant 90 = .ok (.iload_n 1, 1) := by decide +kernel
theorem dX5_aboutVariant_91 : decode cX5_aboutVariant 91 = .ok (.iconst 0, 1) := by decide +kernel
theorem dX5_aboutVariant_92 : decode cX5_aboutVariant 92 = .ok (.invokevirtual 110, 3) := by decide +kernel
theorem dX5_aboutVariant_95 : decode cX5_aboutVariant 95 = .ok (.ireturn, 1) := by decide +kernel
theorem dX5_aboutVariant_96 : decode cX5_aboutVariant 96 = .ok (.aload_n 0, 1) := by decide +kernel
theorem dX5_aboutVariant_97 : decode cX5_aboutVariant 97 = .ok (.iload_n 1, 1) := by decide +kernel
theorem dX5_aboutVariant_98 : decode cX5_aboutVariant 98 = .ok (.iconst 1, 1) := by decide +kernel
theorem dX5_aboutVariant_99 : decode cX5_aboutVariant 99 = .ok (.invokevirtual 110, 3) := by decide +kernel
theorem dX5_aboutVariant_102 : decode cX5_aboutVariant 102 = .ok (.ireturn, 1) := by decide +kernel
theorem dX5_aboutVariant_103 : decode cX5_aboutVariant 103 = .ok (.aload_n 0, 1) := by decide +kernel
theorem dX5_aboutVariant_104 : decode cX5_aboutVariant 104 = .ok (.iload_n 1, 1) := by decide +kernel
theorem dX5_aboutVariant_105 : decode cX5_aboutVariant 105 = .ok (.invokevirtual 106, 3) := by decide +kernel
theorem dX5_aboutVariant_108 : decode cX5_aboutVariant 108 = .ok (.invokevirtual 113, 3) := by decide +kernel
theorem dX5_aboutVariant_111 : decode cX5_aboutVariant 111 = .ok (.ireturn, 1) := by decide +kernel
theorem dX5_aboutVariant_112 : decode cX5_aboutVariant 112 = .ok (.iconst (-1), 1) := by decide +kernel
theorem dX5_aboutVariant_113 : decode cX5_aboutVariant 113 = .ok (.ireturn, 1) := by decide +kernel
theorem dX6_init_0 : decode cX6_init 0 = .ok (.aload_n 0, 1) := by decide +kernel
theorem dX6_init_1 : decode cX6_init 1 = .ok (.invokespecial 7, 3) := by decide +kernel
theorem dX6_init_4 : decode cX6_init 4 = .ok (.aload_n 0, 1) := by decide +kernel
theorem dX6_init_5 : decode cX6_init 5 = .ok (.aload_n 1, 1) := by decide +kernel
theorem dX6_init_6 : decode cX6_init 6 = .ok (.putfield 13, 3) := by decide +kernel
theorem dX6_init_9 : decode cX6_init 9 = .ok (.aload_n 0, 1) := by decide +kernel
theorem dX6_init_10 : decode cX6_init 10 = .ok (.sipush 9548, 3) := by decide +kernel
theorem dX6_init_13 : decode cX6_init 13 = .ok (.newarray .long, 2) := by decide +kernel
theorem dX6_init_15 : decode cX6_init 15 = .ok (.putfield 19, 3) := by decide +kernel
theorem dX6_init_18 : decode cX6_init 18 = .ok (.aload_n 0, 1) := by decide +kernel
theorem dX6_init_19 : decode cX6_init 19 = .ok (.bipush 8, 2) := by decide +kernel
theorem dX6_init_21 : decode cX6_init 21 = .ok (.newarray .long, 2) := by decide +kernel
theorem dX6_init_23 : decode cX6_init 23 = .ok (.putfield 23, 3) := by decide +kernel
theorem dX6_init_26 : decode cX6_init 26 = .ok (.aload_n 0, 1) := by decide +kernel
theorem dX6_init_27 : decode cX6_init 27 = .ok (.sipush 744, 3) := by decide +kernel
theorem dX6_init_30 : decode cX6_init 30 = .ok (.newarray .int, 2) := by decide +kernel
theorem dX6_init_32 : decode cX6_init 32 = .ok (.putfield 26, 3) := by decide +kernel
theorem dX6_init_35 : decode cX6_init 35 = .ok (.aload_n 0, 1) := by decide +kernel
theorem dX6_init_36 : decode cX6_init 36 = .ok (.sipush 744, 3) := by decide +kernel
theorem dX6_init_39 : decode cX6_init 39 = .ok (.newarray .int, 2) := by decide +kernel
theorem dX6_init_41 : decode cX6_init 41 = .ok (.putfield 30, 3) := by decide +kernel
theorem dX6_init_44 : decode cX6_init 44 = .ok (.aload_n 0, 1) := by decide +kernel
theorem dX6_init_45 : decode cX6_init 45 = .ok (.aload_n 2, 1) := by decide +kernel
theorem dX6_init_46 : decode cX6_init 46 = .ok (.putfield 33, 3) := by decide +kernel
theorem dX6_init_49 : decode cX6_init 49 = .ok (.aload_n 0, 1) := by decide +kernel
theorem dX6_init_50 : decode cX6_init 50 = .ok (.aload_n 3, 1) := by decide +kernel
theorem dX6_init_51 : decode cX6_init 51 = .ok (.putfield 37, 3) := by decide +kernel
theorem dX6_init_54 : decode cX6_init 54 = .ok (.aload_n 0, 1) := by decide +kernel
theorem dX6_init_55 : decode cX6_init 55 = .ok (.iconst 0, 1) := by decide +kernel
theorem dX6_init_56 : decode cX6_init 56 = .ok (.putfield 41, 3) := by decide +kernel
theorem dX6_init_59 : decode cX6_init 59 = .ok (.aload_n 0, 1) := by decide +kernel
theorem dX6_init_60 : decode cX6_init 60 = .ok (.iconst 0, 1) := by decide +kernel
theorem dX6_init_61 : decode cX6_init 61 = .ok (.putfield 45, 3) := by decide +kernel
theorem dX6_init_64 : decode cX6_init 64 = .ok (.return_, 1) := by decide +kernel
theorem dX7_init_0 : decode cX7_init 0 = .ok (.aload_n 0, 1) := by decide +kernel
theorem dX7_init_1 : decode cX7_init 1 = .ok (.invokespecial 3, 3) := by decide +kernel
theorem dX7_init_4 : decode cX7_init 4 = .ok (.aload_n 0, 1) := by decide +kernel
theorem dX7_init_5 : decode cX7_init 5 = .ok (.aload_n 1, 1) := by decide +kernel
theorem dX7_init_6 : decode cX7_init 6 = .ok (.putfield 9, 3) := by decide +kernel
theorem dX7_init_9 : decode cX7_init 9 = .ok (.aload_n 0, 1) := by decide +kernel
theorem dX7_init_10 : decode cX7_init 10 = .ok (.bipush 8, 2) := by decide +kernel
theorem dX7_init_12 : decode cX7_init 12 = .ok (.newarray .long, 2) := by decide +kernel
theorem dX7_init_14 : decode cX7_init 14 = .ok (.putfield 17, 3) := by decide +kernel
theorem dX7_init_17 : decode cX7_init 17 = .ok (.aload_n 0, 1) := by decide +kernel
theorem dX7_init_18 : decode cX7_init 18 = .ok (.iconst 5, 1) := by decide +kernel
theorem dX7_init_19 : decode cX7_init 19 = .ok (.newarray .long, 2) := by decide +kernel
theorem dX7_init_21 : decode cX7_init 21 = .ok (.putfield 23, 3) := by decide +kernel
theorem dX7_init_24 : decode cX7_init 24 = .ok (.aload_n 0, 1) := by decide +kernel
theorem dX7_init_25 : decode cX7_init 25 = .ok (.aload_n 2, 1) := by decide +kernel
theorem dX7_init_26 : decode cX7_init 26 = .ok (.putfield 26, 3) := by decide +kernel
theorem dX7_init_29 : decode cX7_init 29 = .ok (.aload_n 0, 1) := by decide +kernel
theorem dX7_init_30 : decode cX7_init 30 = .ok (.aload_n 3, 1) := by decide +kernel
theorem dX7_init_31 : decode cX7_init 31 = .ok (.putfield 30, 3) := by decide +kernel
theorem dX7_init_34 : decode cX7_init 34 = .ok (.aload_n 0, 1) := by decide +kernel
theorem dX7_init_35 : decode cX7_init 35 = .ok (.iconst (-1), 1) := by decide +kernel
theorem dX7_init_36 : decode cX7_init 36 = .ok (.putfield 34, 3) := by decide +kernel
theorem dX7_init_39 : decode cX7_init 39 = .ok (.return_, 1) := by decide +kernel
theorem dX7_runTask_0 : decode cX7_runTask 0 = .ok (.aload_n 0, 1) := by decide +kernel
theorem dX7_runTask_1 : decode cX7_runTask 1 = .ok (.aload_n 1, 1) := by decide +kernel
theorem dX7_runTask_2 : decode cX7_runTask 2 = .ok (.putfield 26, 3) := by decide +kernel
theorem dX7_runTask_5 : decode cX7_runTask 5 = .ok (.aload_n 0, 1) := by decide +kernel
theorem dX7_runTask_6 : decode cX7_runTask 6 = .ok (.aload 4, 2) := by decide +kernel
theorem dX7_runTask_8 : decode cX7_runTask 8 = .ok (.putfield 30, 3) := by decide +kernel
theorem dX7_runTask_11 : decode cX7_runTask 11 = .ok (.aload_n 0, 1) := by decide +kernel
theorem dX7_runTask_12 : decode cX7_runTask 12 = .ok (.getfield 30, 3) := by decide +kernel
theorem dX7_runTask_15 : decode cX7_runTask 15 = .ok (.invokevirtual 38, 3) := by decide +kernel
