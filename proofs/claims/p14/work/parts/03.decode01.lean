theorem dX0_make_0 : decode cX0_make 0 = .ok (.iload_n 0, 1) := by decide +kernel
theorem dX0_make_1 : decode cX0_make 1 = .ok (.i2l, 1) := by decide +kernel
theorem dX0_make_2 : decode cX0_make 2 = .ok (.bipush 32, 2) := by decide +kernel
theorem dX0_make_4 : decode cX0_make 4 = .ok (.lshl, 1) := by decide +kernel
theorem dX0_make_5 : decode cX0_make 5 = .ok (.iload_n 1, 1) := by decide +kernel
theorem dX0_make_6 : decode cX0_make 6 = .ok (.i2l, 1) := by decide +kernel
theorem dX0_make_7 : decode cX0_make 7 = .ok (.ldc2_w 7, 3) := by decide +kernel
theorem dX0_make_10 : decode cX0_make 10 = .ok (.land, 1) := by decide +kernel
theorem dX0_make_11 : decode cX0_make 11 = .ok (.lor, 1) := by decide +kernel
theorem dX0_make_12 : decode cX0_make 12 = .ok (.lreturn, 1) := by decide +kernel
theorem dX0_kind_0 : decode cX0_kind 0 = .ok (.lload_n 0, 1) := by decide +kernel
theorem dX0_kind_1 : decode cX0_kind 1 = .ok (.bipush 32, 2) := by decide +kernel
theorem dX0_kind_3 : decode cX0_kind 3 = .ok (.lushr, 1) := by decide +kernel
theorem dX0_kind_4 : decode cX0_kind 4 = .ok (.l2i, 1) := by decide +kernel
theorem dX0_kind_5 : decode cX0_kind 5 = .ok (.ireturn, 1) := by decide +kernel
theorem dX0_bits_0 : decode cX0_bits 0 = .ok (.lload_n 0, 1) := by decide +kernel
theorem dX0_bits_1 : decode cX0_bits 1 = .ok (.l2i, 1) := by decide +kernel
theorem dX0_bits_2 : decode cX0_bits 2 = .ok (.ireturn, 1) := by decide +kernel
theorem dX0_isKnown_0 : decode cX0_isKnown 0 = .ok (.lload_n 0, 1) := by decide +kernel
theorem dX0_isKnown_1 : decode cX0_isKnown 1 = .ok (.bipush 32, 2) := by decide +kernel
theorem dX0_isKnown_3 : decode cX0_isKnown 3 = .ok (.lushr, 1) := by decide +kernel
theorem dX0_isKnown_4 : decode cX0_isKnown 4 = .ok (.lconst 1, 1) := by decide +kernel
theorem dX0_isKnown_5 : decode cX0_isKnown 5 = .ok (.lcmp, 1) := by decide +kernel
theorem dX0_isKnown_6 : decode cX0_isKnown 6 = .ok (.ifCond .gt 7, 3) := by decide +kernel
theorem dX0_isKnown_9 : decode cX0_isKnown 9 = .ok (.iconst 1, 1) := by decide +kernel
theorem dX0_isKnown_10 : decode cX0_isKnown 10 = .ok (.goto 4, 3) := by decide +kernel
theorem dX0_isKnown_13 : decode cX0_isKnown 13 = .ok (.iconst 0, 1) := by decide +kernel
theorem dX0_isKnown_14 : decode cX0_isKnown 14 = .ok (.ireturn, 1) := by decide +kernel
theorem dX0_isSign_0 : decode cX0_isSign 0 = .ok (.iload_n 0, 1) := by decide +kernel
theorem dX0_isSign_1 : decode cX0_isSign 1 = .ok (.bipush 43, 2) := by decide +kernel
theorem dX0_isSign_3 : decode cX0_isSign 3 = .ok (.if_icmp .eq 39, 3) := by decide +kernel
theorem dX0_isSign_6 : decode cX0_isSign 6 = .ok (.iload_n 0, 1) := by decide +kernel
theorem dX0_isSign_7 : decode cX0_isSign 7 = .ok (.bipush 45, 2) := by decide +kernel
theorem dX0_isSign_9 : decode cX0_isSign 9 = .ok (.if_icmp .eq 33, 3) := by decide +kernel
theorem dX0_isSign_12 : decode cX0_isSign 12 = .ok (.iload_n 0, 1) := by decide +kernel
theorem dX0_isSign_13 : decode cX0_isSign 13 = .ok (.bipush 42, 2) := by decide +kernel
theorem dX0_isSign_15 : decode cX0_isSign 15 = .ok (.if_icmp .eq 27, 3) := by decide +kernel
theorem dX0_isSign_18 : decode cX0_isSign 18 = .ok (.iload_n 0, 1) := by decide +kernel
theorem dX0_isSign_19 : decode cX0_isSign 19 = .ok (.bipush 47, 2) := by decide +kernel
theorem dX0_isSign_21 : decode cX0_isSign 21 = .ok (.if_icmp .eq 21, 3) := by decide +kernel
theorem dX0_isSign_24 : decode cX0_isSign 24 = .ok (.iload_n 0, 1) := by decide +kernel
theorem dX0_isSign_25 : decode cX0_isSign 25 = .ok (.bipush 37, 2) := by decide +kernel
theorem dX0_isSign_27 : decode cX0_isSign 27 = .ok (.if_icmp .eq 15, 3) := by decide +kernel
theorem dX0_isSign_30 : decode cX0_isSign 30 = .ok (.iload_n 0, 1) := by decide +kernel
theorem dX0_isSign_31 : decode cX0_isSign 31 = .ok (.bipush 60, 2) := by decide +kernel
theorem dX0_isSign_33 : decode cX0_isSign 33 = .ok (.if_icmp .eq 9, 3) := by decide +kernel
theorem dX0_isSign_36 : decode cX0_isSign 36 = .ok (.iload_n 0, 1) := by decide +kernel
theorem dX0_isSign_37 : decode cX0_isSign 37 = .ok (.bipush 61, 2) := by decide +kernel
theorem dX0_isSign_39 : decode cX0_isSign 39 = .ok (.if_icmp .ne 7, 3) := by decide +kernel
theorem dX0_isSign_42 : decode cX0_isSign 42 = .ok (.iconst 1, 1) := by decide +kernel
theorem dX0_isSign_43 : decode cX0_isSign 43 = .ok (.goto 4, 3) := by decide +kernel
theorem dX0_isSign_46 : decode cX0_isSign 46 = .ok (.iconst 0, 1) := by decide +kernel
theorem dX0_isSign_47 : decode cX0_isSign 47 = .ok (.ireturn, 1) := by decide +kernel
theorem dX0_apply_0 : decode cX0_apply 0 = .ok (.iload_n 0, 1) := by decide +kernel
theorem dX0_apply_1 : decode cX0_apply 1 = .ok (.bipush 37, 2) := by decide +kernel
theorem dX0_apply_3 : decode cX0_apply 3 = .ok (.if_icmp .ne 19, 3) := by decide +kernel
theorem dX0_apply_6 : decode cX0_apply 6 = .ok (.iconst 0, 1) := by decide +kernel
theorem dX0_apply_7 : decode cX0_apply 7 = .ok (.lload_n 1, 1) := by decide +kernel
theorem dX0_apply_8 : decode cX0_apply 8 = .ok (.invokestatic 11, 3) := by decide +kernel
theorem dX0_apply_11 : decode cX0_apply 11 = .ok (.lload_n 3, 1) := by decide +kernel
theorem dX0_apply_12 : decode cX0_apply 12 = .ok (.invokestatic 11, 3) := by decide +kernel
theorem dX0_apply_15 : decode cX0_apply 15 = .ok (.invokestatic 15, 3) := by decide +kernel
theorem dX0_apply_18 : decode cX0_apply 18 = .ok (.invokestatic 19, 3) := by decide +kernel
theorem dX0_apply_21 : decode cX0_apply 21 = .ok (.lreturn, 1) := by decide +kernel
theorem dX0_apply_22 : decode cX0_apply 22 = .ok (.lload_n 1, 1) := by decide +kernel
theorem dX0_apply_23 : decode cX0_apply 23 = .ok (.invokestatic 23, 3) := by decide +kernel
theorem dX0_apply_26 : decode cX0_apply 26 = .ok (.ifCond .ne 27, 3) := by decide +kernel
theorem dX0_apply_29 : decode cX0_apply 29 = .ok (.lload_n 3, 1) := by decide +kernel
theorem dX0_apply_30 : decode cX0_apply 30 = .ok (.invokestatic 23, 3) := by decide +kernel
theorem dX0_apply_33 : decode cX0_apply 33 = .ok (.ifCond .ne 20, 3) := by decide +kernel
theorem dX0_apply_36 : decode cX0_apply 36 = .ok (.iconst 0, 1) := by decide +kernel
theorem dX0_apply_37 : decode cX0_apply 37 = .ok (.iload_n 0, 1) := by decide +kernel
theorem dX0_apply_38 : decode cX0_apply 38 = .ok (.lload_n 1, 1) := by decide +kernel
theorem dX0_apply_39 : decode cX0_apply 39 = .ok (.invokestatic 26, 3) := by decide +kernel
theorem dX0_apply_42 : decode cX0_apply 42 = .ok (.lload_n 3, 1) := by decide +kernel
theorem dX0_apply_43 : decode cX0_apply 43 = .ok (.invokestatic 26, 3) := by decide +kernel
theorem dX0_apply_46 : decode cX0_apply 46 = .ok (.invokestatic 29, 3) := by decide +kernel
theorem dX0_apply_49 : decode cX0_apply 49 = .ok (.invokestatic 19, 3) := by decide +kernel
theorem dX0_apply_52 : decode cX0_apply 52 = .ok (.lreturn, 1) := by decide +kernel
theorem dX0_apply_53 : decode cX0_apply 53 = .ok (.lload_n 1, 1) := by decide +kernel
theorem dX0_apply_54 : decode cX0_apply 54 = .ok (.invokestatic 33, 3) := by decide +kernel
theorem dX0_apply_57 : decode cX0_apply 57 = .ok (.istore 5, 2) := by decide +kernel
theorem dX0_apply_59 : decode cX0_apply 59 = .ok (.lload_n 3, 1) := by decide +kernel
theorem dX0_apply_60 : decode cX0_apply 60 = .ok (.invokestatic 33, 3) := by decide +kernel
theorem dX0_apply_63 : decode cX0_apply 63 = .ok (.istore 6, 2) := by decide +kernel
theorem dX0_apply_65 : decode cX0_apply 65 = .ok (.iload 5, 2) := by decide +kernel
theorem dX0_apply_67 : decode cX0_apply 67 = .ok (.invokestatic 36, 3) := by decide +kernel
theorem dX0_apply_70 : decode cX0_apply 70 = .ok (.ifCond .ne 11, 3) := by decide +kernel
theorem dX0_apply_73 : decode cX0_apply 73 = .ok (.iload 6, 2) := by decide +kernel
theorem dX0_apply_75 : decode cX0_apply 75 = .ok (.invokestatic 36, 3) := by decide +kernel
theorem dX0_apply_78 : decode cX0_apply 78 = .ok (.ifCond .eq 7, 3) := by decide +kernel
theorem dX0_apply_81 : decode cX0_apply 81 = .ok (.iconst 1, 1) := by decide +kernel
theorem dX0_apply_82 : decode cX0_apply 82 = .ok (.goto 4, 3) := by decide +kernel
theorem dX0_apply_85 : decode cX0_apply 85 = .ok (.iconst 0, 1) := by decide +kernel
theorem dX0_apply_86 : decode cX0_apply 86 = .ok (.istore 7, 2) := by decide +kernel
theorem dX0_apply_88 : decode cX0_apply 88 = .ok (.iload_n 0, 1) := by decide +kernel
theorem dX0_apply_89 : decode cX0_apply 89 = .ok (.lookupswitch 160 #[(42, 138), (43, 91), (45, 113), (60, 51), (61, 71)], 51) := by decide +kernel
theorem dX0_apply_140 : decode cX0_apply 140 = .ok (.iconst 0, 1) := by decide +kernel
theorem dX0_apply_141 : decode cX0_apply 141 = .ok (.iload 5, 2) := by decide +kernel
theorem dX0_apply_143 : decode cX0_apply 143 = .ok (.iload 6, 2) := by decide +kernel
theorem dX0_apply_145 : decode cX0_apply 145 = .ok (.invokestatic 40, 3) := by decide +kernel
theorem dX0_apply_148 : decode cX0_apply 148 = .ok (.ifCond .eq 7, 3) := by decide +kernel
theorem dX0_apply_151 : decode cX0_apply 151 = .ok (.iconst 1, 1) := by decide +kernel
theorem dX0_apply_152 : decode cX0_apply 152 = .ok (.goto 4, 3) := by decide +kernel
theorem dX0_apply_155 : decode cX0_apply 155 = .ok (.iconst 0, 1) := by decide +kernel
theorem dX0_apply_156 : decode cX0_apply 156 = .ok (.invokestatic 19, 3) := by decide +kernel
theorem dX0_apply_159 : decode cX0_apply 159 = .ok (.lreturn, 1) := by decide +kernel
theorem dX0_apply_160 : decode cX0_apply 160 = .ok (.iconst 0, 1) := by decide +kernel
theorem dX0_apply_161 : decode cX0_apply 161 = .ok (.iload 5, 2) := by decide +kernel
theorem dX0_apply_163 : decode cX0_apply 163 = .ok (.iload 6, 2) := by decide +kernel
theorem dX0_apply_165 : decode cX0_apply 165 = .ok (.invokestatic 44, 3) := by decide +kernel
theorem dX0_apply_168 : decode cX0_apply 168 = .ok (.ifCond .eq 7, 3) := by decide +kernel
theorem dX0_apply_171 : decode cX0_apply 171 = .ok (.iconst 1, 1) := by decide +kernel
theorem dX0_apply_172 : decode cX0_apply 172 = .ok (.goto 4, 3) := by decide +kernel
theorem dX0_apply_175 : decode cX0_apply 175 = .ok (.iconst 0, 1) := by decide +kernel
theorem dX0_apply_176 : decode cX0_apply 176 = .ok (.invokestatic 19, 3) := by decide +kernel
theorem dX0_apply_179 : decode cX0_apply 179 = .ok (.lreturn, 1) := by decide +kernel
theorem dX0_apply_180 : decode cX0_apply 180 = .ok (.iconst 1, 1) := by decide +kernel
theorem dX0_apply_181 : decode cX0_apply 181 = .ok (.iload 7, 2) := by decide +kernel
theorem dX0_apply_183 : decode cX0_apply 183 = .ok (.ifCond .eq 8, 3) := by decide +kernel
theorem dX0_apply_186 : decode cX0_apply 186 = .ok (.ldc 47, 2) := by decide +kernel
theorem dX0_apply_188 : decode cX0_apply 188 = .ok (.goto 10, 3) := by decide +kernel
theorem dX0_apply_191 : decode cX0_apply 191 = .ok (.iload 5, 2) := by decide +kernel
theorem dX0_apply_193 : decode cX0_apply 193 = .ok (.iload 6, 2) := by decide +kernel
theorem dX0_apply_195 : decode cX0_apply 195 = .ok (.invokestatic 48, 3) := by decide +kernel
theorem dX0_apply_198 : decode cX0_apply 198 = .ok (.invokestatic 19, 3) := by decide +kernel
theorem dX0_apply_201 : decode cX0_apply 201 = .ok (.lreturn, 1) := by decide +kernel
theorem dX0_apply_202 : decode cX0_apply 202 = .ok (.iconst 1, 1) := by decide +kernel
theorem dX0_apply_203 : decode cX0_apply 203 = .ok (.iload 7, 2) := by decide +kernel
theorem dX0_apply_205 : decode cX0_apply 205 = .ok (.ifCond .eq 8, 3) := by decide +kernel
theorem dX0_apply_208 : decode cX0_apply 208 = .ok (.ldc 47, 2) := by decide +kernel
theorem dX0_apply_210 : decode cX0_apply 210 = .ok (.goto 13, 3) := by decide +kernel
theorem dX0_apply_213 : decode cX0_apply 213 = .ok (.iload 5, 2) := by decide +kernel
theorem dX0_apply_215 : decode cX0_apply 215 = .ok (.iload 6, 2) := by decide +kernel
theorem dX0_apply_217 : decode cX0_apply 217 = .ok (.ldc 51, 2) := by decide +kernel
theorem dX0_apply_219 : decode cX0_apply 219 = .ok (.ixor, 1) := by decide +kernel
theorem dX0_apply_220 : decode cX0_apply 220 = .ok (.invokestatic 48, 3) := by decide +kernel
theorem dX0_apply_223 : decode cX0_apply 223 = .ok (.invokestatic 19, 3) := by decide +kernel
theorem dX0_apply_226 : decode cX0_apply 226 = .ok (.lreturn, 1) := by decide +kernel
theorem dX0_apply_227 : decode cX0_apply 227 = .ok (.iconst 1, 1) := by decide +kernel
theorem dX0_apply_228 : decode cX0_apply 228 = .ok (.iload 7, 2) := by decide +kernel
theorem dX0_apply_230 : decode cX0_apply 230 = .ok (.ifCond .eq 8, 3) := by decide +kernel
theorem dX0_apply_233 : decode cX0_apply 233 = .ok (.ldc 47, 2) := by decide +kernel
theorem dX0_apply_235 : decode cX0_apply 235 = .ok (.goto 10, 3) := by decide +kernel
theorem dX0_apply_238 : decode cX0_apply 238 = .ok (.iload 5, 2) := by decide +kernel
theorem dX0_apply_240 : decode cX0_apply 240 = .ok (.iload 6, 2) := by decide +kernel
theorem dX0_apply_242 : decode cX0_apply 242 = .ok (.invokestatic 52, 3) := by decide +kernel
theorem dX0_apply_245 : decode cX0_apply 245 = .ok (.invokestatic 19, 3) := by decide +kernel
theorem dX0_apply_248 : decode cX0_apply 248 = .ok (.lreturn, 1) := by decide +kernel
theorem dX0_apply_249 : decode cX0_apply 249 = .ok (.iconst 1, 1) := by decide +kernel
theorem dX0_apply_250 : decode cX0_apply 250 = .ok (.iload 7, 2) := by decide +kernel
theorem dX0_apply_252 : decode cX0_apply 252 = .ok (.ifCond .eq 8, 3) := by decide +kernel
theorem dX0_apply_255 : decode cX0_apply 255 = .ok (.ldc 47, 2) := by decide +kernel
theorem dX0_apply_257 : decode cX0_apply 257 = .ok (.goto 10, 3) := by decide +kernel
theorem dX0_apply_260 : decode cX0_apply 260 = .ok (.iload 5, 2) := by decide +kernel
theorem dX0_apply_262 : decode cX0_apply 262 = .ok (.iload 6, 2) := by decide +kernel
theorem dX0_apply_264 : decode cX0_apply 264 = .ok (.invokestatic 55, 3) := by decide +kernel
theorem dX0_apply_267 : decode cX0_apply 267 = .ok (.invokestatic 19, 3) := by decide +kernel
theorem dX0_apply_270 : decode cX0_apply 270 = .ok (.lreturn, 1) := by decide +kernel
theorem dX0_rest_0 : decode cX0_rest 0 = .ok (.iload_n 1, 1) := by decide +kernel
theorem dX0_rest_1 : decode cX0_rest 1 = .ok (.ifCond .eq 8, 3) := by decide +kernel
theorem dX0_rest_4 : decode cX0_rest 4 = .ok (.iload_n 1, 1) := by decide +kernel
theorem dX0_rest_5 : decode cX0_rest 5 = .ok (.iconst (-1), 1) := by decide +kernel
theorem dX0_rest_6 : decode cX0_rest 6 = .ok (.if_icmp .ne 7, 3) := by decide +kernel
theorem dX0_rest_9 : decode cX0_rest 9 = .ok (.iconst 0, 1) := by decide +kernel
theorem dX0_rest_10 : decode cX0_rest 10 = .ok (.goto 6, 3) := by decide +kernel
theorem dX0_rest_13 : decode cX0_rest 13 = .ok (.iload_n 0, 1) := by decide +kernel
theorem dX0_rest_14 : decode cX0_rest 14 = .ok (.iload_n 1, 1) := by decide +kernel
theorem dX0_rest_15 : decode cX0_rest 15 = .ok (.irem, 1) := by decide +kernel
theorem dX0_rest_16 : decode cX0_rest 16 = .ok (.ireturn, 1) := by decide +kernel
theorem dX0_applyInts_0 : decode cX0_applyInts 0 = .ok (.iload_n 0, 1) := by decide +kernel
theorem dX0_applyInts_1 : decode cX0_applyInts 1 = .ok (.lookupswitch 86 #[(42, 59), (43, 51), (45, 55), (47, 63), (60, 75)], 51) := by decide +kernel
theorem dX0_applyInts_52 : decode cX0_applyInts 52 = .ok (.iload_n 1, 1) := by decide +kernel
theorem dX0_applyInts_53 : decode cX0_applyInts 53 = .ok (.iload_n 2, 1) := by decide +kernel
theorem dX0_applyInts_54 : decode cX0_applyInts 54 = .ok (.iadd, 1) := by decide +kernel
theorem dX0_applyInts_55 : decode cX0_applyInts 55 = .ok (.ireturn, 1) := by decide +kernel
theorem dX0_applyInts_56 : decode cX0_applyInts 56 = .ok (.iload_n 1, 1) := by decide +kernel
theorem dX0_applyInts_57 : decode cX0_applyInts 57 = .ok (.iload_n 2, 1) := by decide +kernel
theorem dX0_applyInts_58 : decode cX0_applyInts 58 = .ok (.isub, 1) := by decide +kernel
theorem dX0_applyInts_59 : decode cX0_applyInts 59 = .ok (.ireturn, 1) := by decide +kernel
theorem dX0_applyInts_60 : decode cX0_applyInts 60 = .ok (.iload_n 1, 1) := by decide +kernel
theorem dX0_applyInts_61 : decode cX0_applyInts 61 = .ok (.iload_n 2, 1) := by decide +kernel
theorem dX0_applyInts_62 : decode cX0_applyInts 62 = .ok (.imul, 1) := by decide +kernel
theorem dX0_applyInts_63 : decode cX0_applyInts 63 = .ok (.ireturn, 1) := by decide +kernel
theorem dX0_applyInts_64 : decode cX0_applyInts 64 = .ok (.iload_n 2, 1) := by decide +kernel
theorem dX0_applyInts_65 : decode cX0_applyInts 65 = .ok (.ifCond .ne 7, 3) := by decide +kernel
theorem dX0_applyInts_68 : decode cX0_applyInts 68 = .ok (.iconst 0, 1) := by decide +kernel
theorem dX0_applyInts_69 : decode cX0_applyInts 69 = .ok (.goto 6, 3) := by decide +kernel
theorem dX0_applyInts_72 : decode cX0_applyInts 72 = .ok (.iload_n 1, 1) := by decide +kernel
theorem dX0_applyInts_73 : decode cX0_applyInts 73 = .ok (.iload_n 2, 1) := by decide +kernel
theorem dX0_applyInts_74 : decode cX0_applyInts 74 = .ok (.idiv, 1) := by decide +kernel
theorem dX0_applyInts_75 : decode cX0_applyInts 75 = .ok (.ireturn, 1) := by decide +kernel
theorem dX0_applyInts_76 : decode cX0_applyInts 76 = .ok (.iload_n 1, 1) := by decide +kernel
theorem dX0_applyInts_77 : decode cX0_applyInts 77 = .ok (.iload_n 2, 1) := by decide +kernel
theorem dX0_applyInts_78 : decode cX0_applyInts 78 = .ok (.if_icmp .ge 7, 3) := by decide +kernel
theorem dX0_applyInts_81 : decode cX0_applyInts 81 = .ok (.iconst 1, 1) := by decide +kernel
theorem dX0_applyInts_82 : decode cX0_applyInts 82 = .ok (.goto 4, 3) := by decide +kernel
theorem dX0_applyInts_85 : decode cX0_applyInts 85 = .ok (.iconst 0, 1) := by decide +kernel
theorem dX0_applyInts_86 : decode cX0_applyInts 86 = .ok (.ireturn, 1) := by decide +kernel
theorem dX0_applyInts_87 : decode cX0_applyInts 87 = .ok (.iload_n 1, 1) := by decide +kernel
theorem dX0_applyInts_88 : decode cX0_applyInts 88 = .ok (.iload_n 2, 1) := by decide +kernel
theorem dX0_applyInts_89 : decode cX0_applyInts 89 = .ok (.if_icmp .ne 7, 3) := by decide +kernel
theorem dX0_applyInts_92 : decode cX0_applyInts 92 = .ok (.iconst 1, 1) := by decide +kernel
theorem dX0_applyInts_93 : decode cX0_applyInts 93 = .ok (.goto 4, 3) := by decide +kernel
theorem dX0_applyInts_96 : decode cX0_applyInts 96 = .ok (.iconst 0, 1) := by decide +kernel
theorem dX0_applyInts_97 : decode cX0_applyInts 97 = .ok (.ireturn, 1) := by decide +kernel
theorem dX0_turn_0 : decode cX0_turn 0 = .ok (.iload_n 0, 1) := by decide +kernel
theorem dX0_turn_1 : decode cX0_turn 1 = .ok (.bipush 36, 2) := by decide +kernel
theorem dX0_turn_3 : decode cX0_turn 3 = .ok (.if_icmp .ne 12, 3) := by decide +kernel
theorem dX0_turn_6 : decode cX0_turn 6 = .ok (.iconst 0, 1) := by decide +kernel
theorem dX0_turn_7 : decode cX0_turn 7 = .ok (.lload_n 1, 1) := by decide +kernel
theorem dX0_turn_8 : decode cX0_turn 8 = .ok (.invokestatic 11, 3) := by decide +kernel
theorem dX0_turn_11 : decode cX0_turn 11 = .ok (.invokestatic 19, 3) := by decide +kernel
theorem dX0_turn_14 : decode cX0_turn 14 = .ok (.lreturn, 1) := by decide +kernel
theorem dX0_turn_15 : decode cX0_turn 15 = .ok (.iload_n 0, 1) := by decide +kernel
theorem dX0_turn_16 : decode cX0_turn 16 = .ok (.bipush 94, 2) := by decide +kernel
theorem dX0_turn_18 : decode cX0_turn 18 = .ok (.if_icmp .ne 12, 3) := by decide +kernel
theorem dX0_turn_21 : decode cX0_turn 21 = .ok (.iconst 1, 1) := by decide +kernel
theorem dX0_turn_22 : decode cX0_turn 22 = .ok (.lload_n 1, 1) := by decide +kernel
theorem dX0_turn_23 : decode cX0_turn 23 = .ok (.invokestatic 33, 3) := by decide +kernel
theorem dX0_turn_26 : decode cX0_turn 26 = .ok (.invokestatic 19, 3) := by decide +kernel
theorem dX0_turn_29 : decode cX0_turn 29 = .ok (.lreturn, 1) := by decide +kernel
theorem dX0_turn_30 : decode cX0_turn 30 = .ok (.iconst 0, 1) := by decide +kernel
theorem dX0_turn_31 : decode cX0_turn 31 = .ok (.lload_n 1, 1) := by decide +kernel
theorem dX0_turn_32 : decode cX0_turn 32 = .ok (.invokestatic 33, 3) := by decide +kernel
theorem dX0_turn_35 : decode cX0_turn 35 = .ok (.invokestatic 19, 3) := by decide +kernel
theorem dX0_turn_38 : decode cX0_turn 38 = .ok (.lreturn, 1) := by decide +kernel
theorem dX0_isTrue_0 : decode cX0_isTrue 0 = .ok (.lload_n 0, 1) := by decide +kernel
theorem dX0_isTrue_1 : decode cX0_isTrue 1 = .ok (.invokestatic 23, 3) := by decide +kernel
theorem dX0_isTrue_4 : decode cX0_isTrue 4 = .ok (.iconst 1, 1) := by decide +kernel
theorem dX0_isTrue_5 : decode cX0_isTrue 5 = .ok (.if_icmp .ne 21, 3) := by decide +kernel
theorem dX0_isTrue_8 : decode cX0_isTrue 8 = .ok (.lload_n 0, 1) := by decide +kernel
theorem dX0_isTrue_9 : decode cX0_isTrue 9 = .ok (.invokestatic 26, 3) := by decide +kernel
theorem dX0_isTrue_12 : decode cX0_isTrue 12 = .ok (.ldc 58, 2) := by decide +kernel
theorem dX0_isTrue_14 : decode cX0_isTrue 14 = .ok (.iand, 1) := by decide +kernel
theorem dX0_isTrue_15 : decode cX0_isTrue 15 = .ok (.ifCond .eq 7, 3) := by decide +kernel
theorem dX0_isTrue_18 : decode cX0_isTrue 18 = .ok (.iconst 1, 1) := by decide +kernel
theorem dX0_isTrue_19 : decode cX0_isTrue 19 = .ok (.goto 19, 3) := by decide +kernel
theorem dX0_isTrue_22 : decode cX0_isTrue 22 = .ok (.iconst 0, 1) := by decide +kernel
theorem dX0_isTrue_23 : decode cX0_isTrue 23 = .ok (.goto 15, 3) := by decide +kernel
theorem dX0_isTrue_26 : decode cX0_isTrue 26 = .ok (.lload_n 0, 1) := by decide +kernel
theorem dX0_isTrue_27 : decode cX0_isTrue 27 = .ok (.invokestatic 26, 3) := by decide +kernel
theorem dX0_isTrue_30 : decode cX0_isTrue 30 = .ok (.ifCond .eq 7, 3) := by decide +kernel
theorem dX0_isTrue_33 : decode cX0_isTrue 33 = .ok (.iconst 1, 1) := by decide +kernel
theorem dX0_isTrue_34 : decode cX0_isTrue 34 = .ok (.goto 4, 3) := by decide +kernel
theorem dX0_isTrue_37 : decode cX0_isTrue 37 = .ok (.iconst 0, 1) := by decide +kernel
theorem dX0_isTrue_38 : decode cX0_isTrue 38 = .ok (.ireturn, 1) := by decide +kernel
theorem dX0_stored_0 : decode cX0_stored 0 = .ok (.iload_n 0, 1) := by decide +kernel
theorem dX0_stored_1 : decode cX0_stored 1 = .ok (.iconst 4, 1) := by decide +kernel
theorem dX0_stored_2 : decode cX0_stored 2 = .ok (.if_icmp .ge 14, 3) := by decide +kernel
theorem dX0_stored_5 : decode cX0_stored 5 = .ok (.iconst 0, 1) := by decide +kernel
theorem dX0_stored_6 : decode cX0_stored 6 = .ok (.lload_n 1, 1) := by decide +kernel
theorem dX0_stored_7 : decode cX0_stored 7 = .ok (.invokestatic 11, 3) := by decide +kernel
theorem dX0_stored_10 : decode cX0_stored 10 = .ok (.invokestatic 19, 3) := by decide +kernel
theorem dX0_stored_13 : decode cX0_stored 13 = .ok (.goto 11, 3) := by decide +kernel
theorem dX0_stored_16 : decode cX0_stored 16 = .ok (.iconst 1, 1) := by decide +kernel
theorem dX0_stored_17 : decode cX0_stored 17 = .ok (.lload_n 1, 1) := by decide +kernel
theorem dX0_stored_18 : decode cX0_stored 18 = .ok (.invokestatic 33, 3) := by decide +kernel
theorem dX0_stored_21 : decode cX0_stored 21 = .ok (.invokestatic 19, 3) := by decide +kernel
theorem dX0_stored_24 : decode cX0_stored 24 = .ok (.lreturn, 1) := by decide +kernel
theorem dX0_floatBits_0 : decode cX0_floatBits 0 = .ok (.lload_n 0, 1) := by decide +kernel
theorem dX0_floatBits_1 : decode cX0_floatBits 1 = .ok (.invokestatic 26, 3) := by decide +kernel
theorem dX0_floatBits_4 : decode cX0_floatBits 4 = .ok (.istore_n 2, 1) := by decide +kernel
theorem dX0_floatBits_5 : decode cX0_floatBits 5 = .ok (.lload_n 0, 1) := by decide +kernel
theorem dX0_floatBits_6 : decode cX0_floatBits 6 = .ok (.invokestatic 23, 3) := by decide +kernel
theorem dX0_floatBits_9 : decode cX0_floatBits 9 = .ok (.iconst 1, 1) := by decide +kernel
theorem dX0_floatBits_10 : decode cX0_floatBits 10 = .ok (.if_icmp .ne 17, 3) := by decide +kernel
theorem dX0_floatBits_13 : decode cX0_floatBits 13 = .ok (.iload_n 2, 1) := by decide +kernel
theorem dX0_floatBits_14 : decode cX0_floatBits 14 = .ok (.invokestatic 36, 3) := by decide +kernel
theorem dX0_floatBits_17 : decode cX0_floatBits 17 = .ok (.ifCond .eq 8, 3) := by decide +kernel
theorem dX0_floatBits_20 : decode cX0_floatBits 20 = .ok (.ldc 47, 2) := by decide +kernel
theorem dX0_floatBits_22 : decode cX0_floatBits 22 = .ok (.goto 4, 3) := by decide +kernel
theorem dX0_floatBits_25 : decode cX0_floatBits 25 = .ok (.iload_n 2, 1) := by decide +kernel
theorem dX0_floatBits_26 : decode cX0_floatBits 26 = .ok (.ireturn, 1) := by decide +kernel
theorem dX0_floatBits_27 : decode cX0_floatBits 27 = .ok (.iload_n 2, 1) := by decide +kernel
theorem dX0_floatBits_28 : decode cX0_floatBits 28 = .ok (.i2l, 1) := by decide +kernel
theorem dX0_floatBits_29 : decode cX0_floatBits 29 = .ok (.lstore_n 3, 1) := by decide +kernel
theorem dX0_floatBits_30 : decode cX0_floatBits 30 = .ok (.lload_n 3, 1) := by decide +kernel
theorem dX0_floatBits_31 : decode cX0_floatBits 31 = .ok (.lconst 0, 1) := by decide +kernel
theorem dX0_floatBits_32 : decode cX0_floatBits 32 = .ok (.lcmp, 1) := by decide +kernel
theorem dX0_floatBits_33 : decode cX0_floatBits 33 = .ok (.ifCond .ge 13, 3) := by decide +kernel
theorem dX0_floatBits_36 : decode cX0_floatBits 36 = .ok (.iconst 1, 1) := by decide +kernel
theorem dX0_floatBits_37 : decode cX0_floatBits 37 = .ok (.lload_n 3, 1) := by decide +kernel
theorem dX0_floatBits_38 : decode cX0_floatBits 38 = .ok (.lneg, 1) := by decide +kernel
theorem dX0_floatBits_39 : decode cX0_floatBits 39 = .ok (.iconst 0, 1) := by decide +kernel
theorem dX0_floatBits_40 : decode cX0_floatBits 40 = .ok (.invokestatic 59, 3) := by decide +kernel
theorem dX0_floatBits_43 : decode cX0_floatBits 43 = .ok (.goto 9, 3) := by decide +kernel
theorem dX0_floatBits_46 : decode cX0_floatBits 46 = .ok (.iconst 0, 1) := by decide +kernel
theorem dX0_floatBits_47 : decode cX0_floatBits 47 = .ok (.lload_n 3, 1) := by decide +kernel
theorem dX0_floatBits_48 : decode cX0_floatBits 48 = .ok (.iconst 0, 1) := by decide +kernel
theorem dX0_floatBits_49 : decode cX0_floatBits 49 = .ok (.invokestatic 59, 3) := by decide +kernel
theorem dX0_floatBits_52 : decode cX0_floatBits 52 = .ok (.ireturn, 1) := by decide +kernel
theorem dX0_cut_0 : decode cX0_cut 0 = .ok (.lload_n 0, 1) := by decide +kernel
theorem dX0_cut_1 : decode cX0_cut 1 = .ok (.invokestatic 26, 3) := by decide +kernel
theorem dX0_cut_4 : decode cX0_cut 4 = .ok (.istore_n 2, 1) := by decide +kernel
theorem dX0_cut_5 : decode cX0_cut 5 = .ok (.lload_n 0, 1) := by decide +kernel
theorem dX0_cut_6 : decode cX0_cut 6 = .ok (.invokestatic 23, 3) := by decide +kernel
theorem dX0_cut_9 : decode cX0_cut 9 = .ok (.iconst 1, 1) := by decide +kernel
theorem dX0_cut_10 : decode cX0_cut 10 = .ok (.if_icmp .eq 5, 3) := by decide +kernel
theorem dX0_cut_13 : decode cX0_cut 13 = .ok (.iload_n 2, 1) := by decide +kernel
theorem dX0_cut_14 : decode cX0_cut 14 = .ok (.ireturn, 1) := by decide +kernel
theorem dX0_cut_15 : decode cX0_cut 15 = .ok (.iload_n 2, 1) := by decide +kernel
theorem dX0_cut_16 : decode cX0_cut 16 = .ok (.invokestatic 36, 3) := by decide +kernel
theorem dX0_cut_19 : decode cX0_cut 19 = .ok (.ifCond .eq 5, 3) := by decide +kernel
theorem dX0_cut_22 : decode cX0_cut 22 = .ok (.iconst 0, 1) := by decide +kernel
theorem dX0_cut_23 : decode cX0_cut 23 = .ok (.ireturn, 1) := by decide +kernel
theorem dX0_cut_24 : decode cX0_cut 24 = .ok (.iload_n 2, 1) := by decide +kernel
theorem dX0_cut_25 : decode cX0_cut 25 = .ok (.invokestatic 63, 3) := by decide +kernel
theorem dX0_cut_28 : decode cX0_cut 28 = .ok (.istore_n 3, 1) := by decide +kernel
theorem dX0_cut_29 : decode cX0_cut 29 = .ok (.iload_n 3, 1) := by decide +kernel
theorem dX0_cut_30 : decode cX0_cut 30 = .ok (.bipush 7, 2) := by decide +kernel
theorem dX0_cut_32 : decode cX0_cut 32 = .ok (.if_icmp .le 15, 3) := by decide +kernel
theorem dX0_cut_35 : decode cX0_cut 35 = .ok (.iload_n 2, 1) := by decide +kernel
theorem dX0_cut_36 : decode cX0_cut 36 = .ok (.ifCond .ge 8, 3) := by decide +kernel
theorem dX0_cut_39 : decode cX0_cut 39 = .ok (.ldc 51, 2) := by decide +kernel
theorem dX0_cut_41 : decode cX0_cut 41 = .ok (.goto 5, 3) := by decide +kernel
theorem dX0_cut_44 : decode cX0_cut 44 = .ok (.ldc 58, 2) := by decide +kernel
theorem dX0_cut_46 : decode cX0_cut 46 = .ok (.ireturn, 1) := by decide +kernel
theorem dX0_cut_47 : decode cX0_cut 47 = .ok (.iload_n 3, 1) := by decide +kernel
theorem dX0_cut_48 : decode cX0_cut 48 = .ok (.bipush (-24), 2) := by decide +kernel
theorem dX0_cut_50 : decode cX0_cut 50 = .ok (.if_icmp .ge 5, 3) := by decide +kernel
theorem dX0_cut_53 : decode cX0_cut 53 = .ok (.iconst 0, 1) := by decide +kernel
theorem dX0_cut_54 : decode cX0_cut 54 = .ok (.ireturn, 1) := by decide +kernel
theorem dX0_cut_55 : decode cX0_cut 55 = .ok (.iload_n 3, 1) := by decide +kernel
theorem dX0_cut_56 : decode cX0_cut 56 = .ok (.ifCond .lt 12, 3) := by decide +kernel
theorem dX0_cut_59 : decode cX0_cut 59 = .ok (.iload_n 2, 1) := by decide +kernel
theorem dX0_cut_60 : decode cX0_cut 60 = .ok (.invokestatic 67, 3) := by decide +kernel
theorem dX0_cut_63 : decode cX0_cut 63 = .ok (.iload_n 3, 1) := by decide +kernel
theorem dX0_cut_64 : decode cX0_cut 64 = .ok (.lshl, 1) := by decide +kernel
theorem dX0_cut_65 : decode cX0_cut 65 = .ok (.goto 10, 3) := by decide +kernel
theorem dX0_cut_68 : decode cX0_cut 68 = .ok (.iload_n 2, 1) := by decide +kernel
theorem dX0_cut_69 : decode cX0_cut 69 = .ok (.invokestatic 67, 3) := by decide +kernel
theorem dX0_cut_72 : decode cX0_cut 72 = .ok (.iload_n 3, 1) := by decide +kernel
theorem dX0_cut_73 : decode cX0_cut 73 = .ok (.ineg, 1) := by decide +kernel
theorem dX0_cut_74 : decode cX0_cut 74 = .ok (.lshr, 1) := by decide +kernel
theorem dX0_cut_75 : decode cX0_cut 75 = .ok (.l2i, 1) := by decide +kernel
theorem dX0_cut_76 : decode cX0_cut 76 = .ok (.istore 4, 2) := by decide +kernel
theorem dX0_cut_78 : decode cX0_cut 78 = .ok (.iload_n 2, 1) := by decide +kernel
theorem dX0_cut_79 : decode cX0_cut 79 = .ok (.ifCond .ge 9, 3) := by decide +kernel
theorem dX0_cut_82 : decode cX0_cut 82 = .ok (.iload 4, 2) := by decide +kernel
theorem dX0_cut_84 : decode cX0_cut 84 = .ok (.ineg, 1) := by decide +kernel
theorem dX0_cut_85 : decode cX0_cut 85 = .ok (.goto 5, 3) := by decide +kernel
theorem dX0_cut_88 : decode cX0_cut 88 = .ok (.iload 4, 2) := by decide +kernel
theorem dX0_cut_90 : decode cX0_cut 90 = .ok (.ireturn, 1) := by decide +kernel
theorem dX0_isNan_0 : decode cX0_isNan 0 = .ok (.iload_n 0, 1) := by decide +kernel
theorem dX0_isNan_1 : decode cX0_isNan 1 = .ok (.ldc 58, 2) := by decide +kernel
theorem dX0_isNan_3 : decode cX0_isNan 3 = .ok (.iand, 1) := by decide +kernel
theorem dX0_isNan_4 : decode cX0_isNan 4 = .ok (.ldc 71, 2) := by decide +kernel
theorem dX0_isNan_6 : decode cX0_isNan 6 = .ok (.if_icmp .le 7, 3) := by decide +kernel
theorem dX0_isNan_9 : decode cX0_isNan 9 = .ok (.iconst 1, 1) := by decide +kernel
theorem dX0_isNan_10 : decode cX0_isNan 10 = .ok (.goto 4, 3) := by decide +kernel
theorem dX0_isNan_13 : decode cX0_isNan 13 = .ok (.iconst 0, 1) := by decide +kernel
theorem dX0_isNan_14 : decode cX0_isNan 14 = .ok (.ireturn, 1) := by decide +kernel
theorem dX0_isBelow_0 : decode cX0_isBelow 0 = .ok (.iload_n 0, 1) := by decide +kernel
theorem dX0_isBelow_1 : decode cX0_isBelow 1 = .ok (.invokestatic 36, 3) := by decide +kernel
theorem dX0_isBelow_4 : decode cX0_isBelow 4 = .ok (.ifCond .ne 25, 3) := by decide +kernel
theorem dX0_isBelow_7 : decode cX0_isBelow 7 = .ok (.iload_n 1, 1) := by decide +kernel
theorem dX0_isBelow_8 : decode cX0_isBelow 8 = .ok (.invokestatic 36, 3) := by decide +kernel
theorem dX0_isBelow_11 : decode cX0_isBelow 11 = .ok (.ifCond .ne 18, 3) := by decide +kernel
theorem dX0_isBelow_14 : decode cX0_isBelow 14 = .ok (.iload_n 0, 1) := by decide +kernel
theorem dX0_isBelow_15 : decode cX0_isBelow 15 = .ok (.invokestatic 72, 3) := by decide +kernel
theorem dX0_isBelow_18 : decode cX0_isBelow 18 = .ok (.iload_n 1, 1) := by decide +kernel
theorem dX0_isBelow_19 : decode cX0_isBelow 19 = .ok (.invokestatic 72, 3) := by decide +kernel
theorem dX0_isBelow_22 : decode cX0_isBelow 22 = .ok (.if_icmp .ge 7, 3) := by decide +kernel
theorem dX0_isBelow_25 : decode cX0_isBelow 25 = .ok (.iconst 1, 1) := by decide +kernel
theorem dX0_isBelow_26 : decode cX0_isBelow 26 = .ok (.goto 4, 3) := by decide +kernel
theorem dX0_isBelow_29 : decode cX0_isBelow 29 = .ok (.iconst 0, 1) := by decide +kernel
theorem dX0_isBelow_30 : decode cX0_isBelow 30 = .ok (.ireturn, 1) := by decide +kernel
theorem dX0_isEqual_0 : decode cX0_isEqual 0 = .ok (.iload_n 0, 1) := by decide +kernel
theorem dX0_isEqual_1 : decode cX0_isEqual 1 = .ok (.invokestatic 36, 3) := by decide +kernel
theorem dX0_isEqual_4 : decode cX0_isEqual 4 = .ok (.ifCond .ne 25, 3) := by decide +kernel
theorem dX0_isEqual_7 : decode cX0_isEqual 7 = .ok (.iload_n 1, 1) := by decide +kernel
theorem dX0_isEqual_8 : decode cX0_isEqual 8 = .ok (.invokestatic 36, 3) := by decide +kernel
theorem dX0_isEqual_11 : decode cX0_isEqual 11 = .ok (.ifCond .ne 18, 3) := by decide +kernel
theorem dX0_isEqual_14 : decode cX0_isEqual 14 = .ok (.iload_n 0, 1) := by decide +kernel
theorem dX0_isEqual_15 : decode cX0_isEqual 15 = .ok (.invokestatic 72, 3) := by decide +kernel
theorem dX0_isEqual_18 : decode cX0_isEqual 18 = .ok (.iload_n 1, 1) := by decide +kernel
theorem dX0_isEqual_19 : decode cX0_isEqual 19 = .ok (.invokestatic 72, 3) := by decide +kernel
theorem dX0_isEqual_22 : decode cX0_isEqual 22 = .ok (.if_icmp .ne 7, 3) := by decide +kernel
theorem dX0_isEqual_25 : decode cX0_isEqual 25 = .ok (.iconst 1, 1) := by decide +kernel
theorem dX0_isEqual_26 : decode cX0_isEqual 26 = .ok (.goto 4, 3) := by decide +kernel
theorem dX0_isEqual_29 : decode cX0_isEqual 29 = .ok (.iconst 0, 1) := by decide +kernel
theorem dX0_isEqual_30 : decode cX0_isEqual 30 = .ok (.ireturn, 1) := by decide +kernel
theorem dX0_ordered_0 : decode cX0_ordered 0 = .ok (.iload_n 0, 1) := by decide +kernel
theorem dX0_ordered_1 : decode cX0_ordered 1 = .ok (.ifCond .ge 11, 3) := by decide +kernel
theorem dX0_ordered_4 : decode cX0_ordered 4 = .ok (.iload_n 0, 1) := by decide +kernel
theorem dX0_ordered_5 : decode cX0_ordered 5 = .ok (.ldc 58, 2) := by decide +kernel
theorem dX0_ordered_7 : decode cX0_ordered 7 = .ok (.iand, 1) := by decide +kernel
theorem dX0_ordered_8 : decode cX0_ordered 8 = .ok (.ineg, 1) := by decide +kernel
theorem dX0_ordered_9 : decode cX0_ordered 9 = .ok (.goto 4, 3) := by decide +kernel
theorem dX0_ordered_12 : decode cX0_ordered 12 = .ok (.iload_n 0, 1) := by decide +kernel
theorem dX0_ordered_13 : decode cX0_ordered 13 = .ok (.ireturn, 1) := by decide +kernel
theorem dX0_wholeOf_0 : decode cX0_wholeOf 0 = .ok (.iload_n 0, 1) := by decide +kernel
theorem dX0_wholeOf_1 : decode cX0_wholeOf 1 = .ok (.ldc 75, 2) := by decide +kernel
theorem dX0_wholeOf_3 : decode cX0_wholeOf 3 = .ok (.iand, 1) := by decide +kernel
theorem dX0_wholeOf_4 : decode cX0_wholeOf 4 = .ok (.istore_n 1, 1) := by decide +kernel
theorem dX0_wholeOf_5 : decode cX0_wholeOf 5 = .ok (.iload_n 0, 1) := by decide +kernel
theorem dX0_wholeOf_6 : decode cX0_wholeOf 6 = .ok (.ldc 71, 2) := by decide +kernel
theorem dX0_wholeOf_8 : decode cX0_wholeOf 8 = .ok (.iand, 1) := by decide +kernel
theorem dX0_wholeOf_9 : decode cX0_wholeOf 9 = .ok (.ifCond .ne 8, 3) := by decide +kernel
theorem dX0_wholeOf_12 : decode cX0_wholeOf 12 = .ok (.iload_n 1, 1) := by decide +kernel
theorem dX0_wholeOf_13 : decode cX0_wholeOf 13 = .ok (.i2l, 1) := by decide +kernel
theorem dX0_wholeOf_14 : decode cX0_wholeOf 14 = .ok (.goto 8, 3) := by decide +kernel
theorem dX0_wholeOf_17 : decode cX0_wholeOf 17 = .ok (.iload_n 1, 1) := by decide +kernel
theorem dX0_wholeOf_18 : decode cX0_wholeOf 18 = .ok (.ldc 76, 2) := by decide +kernel
theorem dX0_wholeOf_20 : decode cX0_wholeOf 20 = .ok (.ior, 1) := by decide +kernel
theorem dX0_wholeOf_21 : decode cX0_wholeOf 21 = .ok (.i2l, 1) := by decide +kernel
theorem dX0_wholeOf_22 : decode cX0_wholeOf 22 = .ok (.lreturn, 1) := by decide +kernel
theorem dX0_lastBitOf_0 : decode cX0_lastBitOf 0 = .ok (.iload_n 0, 1) := by decide +kernel
theorem dX0_lastBitOf_1 : decode cX0_lastBitOf 1 = .ok (.ldc 71, 2) := by decide +kernel
theorem dX0_lastBitOf_3 : decode cX0_lastBitOf 3 = .ok (.iand, 1) := by decide +kernel
theorem dX0_lastBitOf_4 : decode cX0_lastBitOf 4 = .ok (.bipush 23, 2) := by decide +kernel
theorem dX0_lastBitOf_6 : decode cX0_lastBitOf 6 = .ok (.iushr, 1) := by decide +kernel
theorem dX0_lastBitOf_7 : decode cX0_lastBitOf 7 = .ok (.istore_n 1, 1) := by decide +kernel
theorem dX0_lastBitOf_8 : decode cX0_lastBitOf 8 = .ok (.iload_n 1, 1) := by decide +kernel
theorem dX0_lastBitOf_9 : decode cX0_lastBitOf 9 = .ok (.ifCond .ne 7, 3) := by decide +kernel
theorem dX0_lastBitOf_12 : decode cX0_lastBitOf 12 = .ok (.iconst 1, 1) := by decide +kernel
theorem dX0_lastBitOf_13 : decode cX0_lastBitOf 13 = .ok (.goto 4, 3) := by decide +kernel
theorem dX0_lastBitOf_16 : decode cX0_lastBitOf 16 = .ok (.iload_n 1, 1) := by decide +kernel
theorem dX0_lastBitOf_17 : decode cX0_lastBitOf 17 = .ok (.sipush 150, 3) := by decide +kernel
theorem dX0_lastBitOf_20 : decode cX0_lastBitOf 20 = .ok (.isub, 1) := by decide +kernel
theorem dX0_lastBitOf_21 : decode cX0_lastBitOf 21 = .ok (.ireturn, 1) := by decide +kernel
theorem dX0_add_0 : decode cX0_add 0 = .ok (.iload_n 0, 1) := by decide +kernel
theorem dX0_add_1 : decode cX0_add 1 = .ok (.ldc 58, 2) := by decide +kernel
theorem dX0_add_3 : decode cX0_add 3 = .ok (.iand, 1) := by decide +kernel
theorem dX0_add_4 : decode cX0_add 4 = .ok (.ldc 71, 2) := by decide +kernel
theorem dX0_add_6 : decode cX0_add 6 = .ok (.if_icmp .ne 7, 3) := by decide +kernel
theorem dX0_add_9 : decode cX0_add 9 = .ok (.iconst 1, 1) := by decide +kernel
theorem dX0_add_10 : decode cX0_add 10 = .ok (.goto 4, 3) := by decide +kernel
theorem dX0_add_13 : decode cX0_add 13 = .ok (.iconst 0, 1) := by decide +kernel
theorem dX0_add_14 : decode cX0_add 14 = .ok (.istore_n 2, 1) := by decide +kernel
theorem dX0_add_15 : decode cX0_add 15 = .ok (.iload_n 2, 1) := by decide +kernel
theorem dX0_add_16 : decode cX0_add 16 = .ok (.ifCond .ne 12, 3) := by decide +kernel
theorem dX0_add_19 : decode cX0_add 19 = .ok (.iload_n 1, 1) := by decide +kernel
theorem dX0_add_20 : decode cX0_add 20 = .ok (.ldc 58, 2) := by decide +kernel
theorem dX0_add_22 : decode cX0_add 22 = .ok (.iand, 1) := by decide +kernel
theorem dX0_add_23 : decode cX0_add 23 = .ok (.ldc 71, 2) := by decide +kernel
theorem dX0_add_25 : decode cX0_add 25 = .ok (.if_icmp .ne 36, 3) := by decide +kernel
theorem dX0_add_28 : decode cX0_add 28 = .ok (.iload_n 0, 1) := by decide +kernel
theorem dX0_add_29 : decode cX0_add 29 = .ok (.iload_n 1, 1) := by decide +kernel
theorem dX0_add_30 : decode cX0_add 30 = .ok (.ixor, 1) := by decide +kernel
theorem dX0_add_31 : decode cX0_add 31 = .ok (.ldc 51, 2) := by decide +kernel
theorem dX0_add_33 : decode cX0_add 33 = .ok (.if_icmp .ne 7, 3) := by decide +kernel
theorem dX0_add_36 : decode cX0_add 36 = .ok (.iconst 1, 1) := by decide +kernel
theorem dX0_add_37 : decode cX0_add 37 = .ok (.goto 4, 3) := by decide +kernel
theorem dX0_add_40 : decode cX0_add 40 = .ok (.iconst 0, 1) := by decide +kernel
theorem dX0_add_41 : decode cX0_add 41 = .ok (.istore_n 3, 1) := by decide +kernel
theorem dX0_add_42 : decode cX0_add 42 = .ok (.iload_n 3, 1) := by decide +kernel
theorem dX0_add_43 : decode cX0_add 43 = .ok (.ifCond .eq 8, 3) := by decide +kernel
theorem dX0_add_46 : decode cX0_add 46 = .ok (.ldc 47, 2) := by decide +kernel
theorem dX0_add_48 : decode cX0_add 48 = .ok (.goto 12, 3) := by decide +kernel
theorem dX0_add_51 : decode cX0_add 51 = .ok (.iload_n 2, 1) := by decide +kernel
theorem dX0_add_52 : decode cX0_add 52 = .ok (.ifCond .eq 7, 3) := by decide +kernel
theorem dX0_add_55 : decode cX0_add 55 = .ok (.iload_n 0, 1) := by decide +kernel
theorem dX0_add_56 : decode cX0_add 56 = .ok (.goto 4, 3) := by decide +kernel
theorem dX0_add_59 : decode cX0_add 59 = .ok (.iload_n 1, 1) := by decide +kernel
theorem dX0_add_60 : decode cX0_add 60 = .ok (.ireturn, 1) := by decide +kernel
theorem dX0_add_61 : decode cX0_add 61 = .ok (.iload_n 0, 1) := by decide +kernel
theorem dX0_add_62 : decode cX0_add 62 = .ok (.ldc 58, 2) := by decide +kernel
theorem dX0_add_64 : decode cX0_add 64 = .ok (.iand, 1) := by decide +kernel
theorem dX0_add_65 : decode cX0_add 65 = .ok (.iload_n 1, 1) := by decide +kernel
theorem dX0_add_66 : decode cX0_add 66 = .ok (.ldc 58, 2) := by decide +kernel
theorem dX0_add_68 : decode cX0_add 68 = .ok (.iand, 1) := by decide +kernel
theorem dX0_add_69 : decode cX0_add 69 = .ok (.if_icmp .lt 7, 3) := by decide +kernel
theorem dX0_add_72 : decode cX0_add 72 = .ok (.iload_n 0, 1) := by decide +kernel
theorem dX0_add_73 : decode cX0_add 73 = .ok (.goto 4, 3) := by decide +kernel
theorem dX0_add_76 : decode cX0_add 76 = .ok (.iload_n 1, 1) := by decide +kernel
theorem dX0_add_77 : decode cX0_add 77 = .ok (.istore_n 3, 1) := by decide +kernel
theorem dX0_add_78 : decode cX0_add 78 = .ok (.iload_n 3, 1) := by decide +kernel
theorem dX0_add_79 : decode cX0_add 79 = .ok (.iload_n 0, 1) := by decide +kernel
theorem dX0_add_80 : decode cX0_add 80 = .ok (.if_icmp .ne 7, 3) := by decide +kernel
theorem dX0_add_83 : decode cX0_add 83 = .ok (.iload_n 1, 1) := by decide +kernel
theorem dX0_add_84 : decode cX0_add 84 = .ok (.goto 4, 3) := by decide +kernel
theorem dX0_add_87 : decode cX0_add 87 = .ok (.iload_n 0, 1) := by decide +kernel
theorem dX0_add_88 : decode cX0_add 88 = .ok (.istore 4, 2) := by decide +kernel
theorem dX0_add_90 : decode cX0_add 90 = .ok (.iload_n 3, 1) := by decide +kernel
theorem dX0_add_91 : decode cX0_add 91 = .ok (.invokestatic 63, 3) := by decide +kernel
theorem dX0_add_94 : decode cX0_add 94 = .ok (.iload 4, 2) := by decide +kernel
theorem dX0_add_96 : decode cX0_add 96 = .ok (.invokestatic 63, 3) := by decide +kernel
theorem dX0_add_99 : decode cX0_add 99 = .ok (.isub, 1) := by decide +kernel
theorem dX0_add_100 : decode cX0_add 100 = .ok (.istore 5, 2) := by decide +kernel
theorem dX0_add_102 : decode cX0_add 102 = .ok (.iload 5, 2) := by decide +kernel
theorem dX0_add_104 : decode cX0_add 104 = .ok (.bipush 36, 2) := by decide +kernel
theorem dX0_add_106 : decode cX0_add 106 = .ok (.if_icmp .le 5, 3) := by decide +kernel
theorem dX0_add_109 : decode cX0_add 109 = .ok (.iload_n 3, 1) := by decide +kernel
theorem dX0_add_110 : decode cX0_add 110 = .ok (.ireturn, 1) := by decide +kernel
theorem dX0_add_111 : decode cX0_add 111 = .ok (.iload_n 3, 1) := by decide +kernel
theorem dX0_add_112 : decode cX0_add 112 = .ok (.invokestatic 67, 3) := by decide +kernel
theorem dX0_add_115 : decode cX0_add 115 = .ok (.iload 5, 2) := by decide +kernel
theorem dX0_add_117 : decode cX0_add 117 = .ok (.lshl, 1) := by decide +kernel
theorem dX0_add_118 : decode cX0_add 118 = .ok (.lstore 6, 2) := by decide +kernel
theorem dX0_add_120 : decode cX0_add 120 = .ok (.iload_n 0, 1) := by decide +kernel
theorem dX0_add_121 : decode cX0_add 121 = .ok (.iload_n 1, 1) := by decide +kernel
theorem dX0_add_122 : decode cX0_add 122 = .ok (.ixor, 1) := by decide +kernel
theorem dX0_add_123 : decode cX0_add 123 = .ok (.ifCond .ge 14, 3) := by decide +kernel
theorem dX0_add_126 : decode cX0_add 126 = .ok (.lload 6, 2) := by decide +kernel
theorem dX0_add_128 : decode cX0_add 128 = .ok (.iload 4, 2) := by decide +kernel
theorem dX0_add_130 : decode cX0_add 130 = .ok (.invokestatic 67, 3) := by decide +kernel
theorem dX0_add_133 : decode cX0_add 133 = .ok (.lsub, 1) := by decide +kernel
theorem dX0_add_134 : decode cX0_add 134 = .ok (.goto 11, 3) := by decide +kernel
theorem dX0_add_137 : decode cX0_add 137 = .ok (.lload 6, 2) := by decide +kernel
theorem dX0_add_139 : decode cX0_add 139 = .ok (.iload 4, 2) := by decide +kernel
theorem dX0_add_141 : decode cX0_add 141 = .ok (.invokestatic 67, 3) := by decide +kernel
theorem dX0_add_144 : decode cX0_add 144 = .ok (.ladd, 1) := by decide +kernel
theorem dX0_add_145 : decode cX0_add 145 = .ok (.lstore 6, 2) := by decide +kernel
theorem dX0_add_147 : decode cX0_add 147 = .ok (.lload 6, 2) := by decide +kernel
theorem dX0_add_149 : decode cX0_add 149 = .ok (.lconst 0, 1) := by decide +kernel
theorem dX0_add_150 : decode cX0_add 150 = .ok (.lcmp, 1) := by decide +kernel
theorem dX0_add_151 : decode cX0_add 151 = .ok (.ifCond .ne 10, 3) := by decide +kernel
theorem dX0_add_154 : decode cX0_add 154 = .ok (.iload_n 0, 1) := by decide +kernel
theorem dX0_add_155 : decode cX0_add 155 = .ok (.iload_n 1, 1) := by decide +kernel
theorem dX0_add_156 : decode cX0_add 156 = .ok (.iand, 1) := by decide +kernel
theorem dX0_add_157 : decode cX0_add 157 = .ok (.ldc 51, 2) := by decide +kernel
theorem dX0_add_159 : decode cX0_add 159 = .ok (.iand, 1) := by decide +kernel
theorem dX0_add_160 : decode cX0_add 160 = .ok (.ireturn, 1) := by decide +kernel
theorem dX0_add_161 : decode cX0_add 161 = .ok (.iload_n 3, 1) := by decide +kernel
theorem dX0_add_162 : decode cX0_add 162 = .ok (.bipush 31, 2) := by decide +kernel
theorem dX0_add_164 : decode cX0_add 164 = .ok (.iushr, 1) := by decide +kernel
theorem dX0_add_165 : decode cX0_add 165 = .ok (.lload 6, 2) := by decide +kernel
theorem dX0_add_167 : decode cX0_add 167 = .ok (.iload 4, 2) := by decide +kernel
theorem dX0_add_169 : decode cX0_add 169 = .ok (.invokestatic 63, 3) := by decide +kernel
theorem dX0_add_172 : decode cX0_add 172 = .ok (.invokestatic 59, 3) := by decide +kernel
theorem dX0_add_175 : decode cX0_add 175 = .ok (.ireturn, 1) := by decide +kernel
theorem dX0_multiply_0 : decode cX0_multiply 0 = .ok (.iload_n 0, 1) := by decide +kernel
theorem dX0_multiply_1 : decode cX0_multiply 1 = .ok (.iload_n 1, 1) := by decide +kernel
theorem dX0_multiply_2 : decode cX0_multiply 2 = .ok (.ixor, 1) := by decide +kernel
theorem dX0_multiply_3 : decode cX0_multiply 3 = .ok (.bipush 31, 2) := by decide +kernel
theorem dX0_multiply_5 : decode cX0_multiply 5 = .ok (.iushr, 1) := by decide +kernel
theorem dX0_multiply_6 : decode cX0_multiply 6 = .ok (.istore_n 2, 1) := by decide +kernel
theorem dX0_multiply_7 : decode cX0_multiply 7 = .ok (.iload_n 0, 1) := by decide +kernel
theorem dX0_multiply_8 : decode cX0_multiply 8 = .ok (.ldc 58, 2) := by decide +kernel
theorem dX0_multiply_10 : decode cX0_multiply 10 = .ok (.iand, 1) := by decide +kernel
theorem dX0_multiply_11 : decode cX0_multiply 11 = .ok (.ldc 71, 2) := by decide +kernel
theorem dX0_multiply_13 : decode cX0_multiply 13 = .ok (.if_icmp .eq 12, 3) := by decide +kernel
theorem dX0_multiply_16 : decode cX0_multiply 16 = .ok (.iload_n 1, 1) := by decide +kernel
theorem dX0_multiply_17 : decode cX0_multiply 17 = .ok (.ldc 58, 2) := by decide +kernel
theorem dX0_multiply_19 : decode cX0_multiply 19 = .ok (.iand, 1) := by decide +kernel
theorem dX0_multiply_20 : decode cX0_multiply 20 = .ok (.ldc 71, 2) := by decide +kernel
theorem dX0_multiply_22 : decode cX0_multiply 22 = .ok (.if_icmp .ne 7, 3) := by decide +kernel
theorem dX0_multiply_25 : decode cX0_multiply 25 = .ok (.iconst 1, 1) := by decide +kernel
theorem dX0_multiply_26 : decode cX0_multiply 26 = .ok (.goto 4, 3) := by decide +kernel
theorem dX0_multiply_29 : decode cX0_multiply 29 = .ok (.iconst 0, 1) := by decide +kernel
theorem dX0_multiply_30 : decode cX0_multiply 30 = .ok (.istore_n 3, 1) := by decide +kernel
theorem dX0_multiply_31 : decode cX0_multiply 31 = .ok (.iload_n 0, 1) := by decide +kernel
theorem dX0_multiply_32 : decode cX0_multiply 32 = .ok (.ldc 58, 2) := by decide +kernel
theorem dX0_multiply_34 : decode cX0_multiply 34 = .ok (.iand, 1) := by decide +kernel
theorem dX0_multiply_35 : decode cX0_multiply 35 = .ok (.ifCond .eq 10, 3) := by decide +kernel
theorem dX0_multiply_38 : decode cX0_multiply 38 = .ok (.iload_n 1, 1) := by decide +kernel
theorem dX0_multiply_39 : decode cX0_multiply 39 = .ok (.ldc 58, 2) := by decide +kernel
theorem dX0_multiply_41 : decode cX0_multiply 41 = .ok (.iand, 1) := by decide +kernel
theorem dX0_multiply_42 : decode cX0_multiply 42 = .ok (.ifCond .ne 7, 3) := by decide +kernel
theorem dX0_multiply_45 : decode cX0_multiply 45 = .ok (.iconst 1, 1) := by decide +kernel
theorem dX0_multiply_46 : decode cX0_multiply 46 = .ok (.goto 4, 3) := by decide +kernel
theorem dX0_multiply_49 : decode cX0_multiply 49 = .ok (.iconst 0, 1) := by decide +kernel
theorem dX0_multiply_50 : decode cX0_multiply 50 = .ok (.istore 4, 2) := by decide +kernel
theorem dX0_multiply_52 : decode cX0_multiply 52 = .ok (.iload_n 3, 1) := by decide +kernel
theorem dX0_multiply_53 : decode cX0_multiply 53 = .ok (.ifCond .eq 21, 3) := by decide +kernel
theorem dX0_multiply_56 : decode cX0_multiply 56 = .ok (.iload 4, 2) := by decide +kernel
theorem dX0_multiply_58 : decode cX0_multiply 58 = .ok (.ifCond .eq 8, 3) := by decide +kernel
theorem dX0_multiply_61 : decode cX0_multiply 61 = .ok (.ldc 47, 2) := by decide +kernel
theorem dX0_multiply_63 : decode cX0_multiply 63 = .ok (.goto 10, 3) := by decide +kernel
theorem dX0_multiply_66 : decode cX0_multiply 66 = .ok (.iload_n 2, 1) := by decide +kernel
theorem dX0_multiply_67 : decode cX0_multiply 67 = .ok (.bipush 31, 2) := by decide +kernel
theorem dX0_multiply_69 : decode cX0_multiply 69 = .ok (.ishl, 1) := by decide +kernel
theorem dX0_multiply_70 : decode cX0_multiply 70 = .ok (.ldc 71, 2) := by decide +kernel
theorem dX0_multiply_72 : decode cX0_multiply 72 = .ok (.ior, 1) := by decide +kernel
theorem dX0_multiply_73 : decode cX0_multiply 73 = .ok (.ireturn, 1) := by decide +kernel
theorem dX0_multiply_74 : decode cX0_multiply 74 = .ok (.iload_n 2, 1) := by decide +kernel
theorem dX0_multiply_75 : decode cX0_multiply 75 = .ok (.iload_n 0, 1) := by decide +kernel
theorem dX0_multiply_76 : decode cX0_multiply 76 = .ok (.invokestatic 67, 3) := by decide +kernel
theorem dX0_multiply_79 : decode cX0_multiply 79 = .ok (.iload_n 1, 1) := by decide +kernel
theorem dX0_multiply_80 : decode cX0_multiply 80 = .ok (.invokestatic 67, 3) := by decide +kernel
theorem dX0_multiply_83 : decode cX0_multiply 83 = .ok (.lmul, 1) := by decide +kernel
theorem dX0_multiply_84 : decode cX0_multiply 84 = .ok (.iload_n 0, 1) := by decide +kernel
theorem dX0_multiply_85 : decode cX0_multiply 85 = .ok (.invokestatic 63, 3) := by decide +kernel
theorem dX0_multiply_88 : decode cX0_multiply 88 = .ok (.iload_n 1, 1) := by decide +kernel
theorem dX0_multiply_89 : decode cX0_multiply 89 = .ok (.invokestatic 63, 3) := by decide +kernel
theorem dX0_multiply_92 : decode cX0_multiply 92 = .ok (.iadd, 1) := by decide +kernel
theorem dX0_multiply_93 : decode cX0_multiply 93 = .ok (.invokestatic 59, 3) := by decide +kernel
theorem dX0_multiply_96 : decode cX0_multiply 96 = .ok (.ireturn, 1) := by decide +kernel
theorem dX0_divide_0 : decode cX0_divide 0 = .ok (.iload_n 0, 1) := by decide +kernel
theorem dX0_divide_1 : decode cX0_divide 1 = .ok (.iload_n 1, 1) := by decide +kernel
theorem dX0_divide_2 : decode cX0_divide 2 = .ok (.ixor, 1) := by decide +kernel
theorem dX0_divide_3 : decode cX0_divide 3 = .ok (.bipush 31, 2) := by decide +kernel
theorem dX0_divide_5 : decode cX0_divide 5 = .ok (.iushr, 1) := by decide +kernel
theorem dX0_divide_6 : decode cX0_divide 6 = .ok (.istore_n 2, 1) := by decide +kernel
theorem dX0_divide_7 : decode cX0_divide 7 = .ok (.iload_n 0, 1) := by decide +kernel
theorem dX0_divide_8 : decode cX0_divide 8 = .ok (.ldc 58, 2) := by decide +kernel
theorem dX0_divide_10 : decode cX0_divide 10 = .ok (.iand, 1) := by decide +kernel
theorem dX0_divide_11 : decode cX0_divide 11 = .ok (.ldc 71, 2) := by decide +kernel
theorem dX0_divide_13 : decode cX0_divide 13 = .ok (.if_icmp .ne 7, 3) := by decide +kernel
theorem dX0_divide_16 : decode cX0_divide 16 = .ok (.iconst 1, 1) := by decide +kernel
theorem dX0_divide_17 : decode cX0_divide 17 = .ok (.goto 4, 3) := by decide +kernel
theorem dX0_divide_20 : decode cX0_divide 20 = .ok (.iconst 0, 1) := by decide +kernel
theorem dX0_divide_21 : decode cX0_divide 21 = .ok (.istore_n 3, 1) := by decide +kernel
theorem dX0_divide_22 : decode cX0_divide 22 = .ok (.iload_n 1, 1) := by decide +kernel
theorem dX0_divide_23 : decode cX0_divide 23 = .ok (.ldc 58, 2) := by decide +kernel
theorem dX0_divide_25 : decode cX0_divide 25 = .ok (.iand, 1) := by decide +kernel
theorem dX0_divide_26 : decode cX0_divide 26 = .ok (.ldc 71, 2) := by decide +kernel
theorem dX0_divide_28 : decode cX0_divide 28 = .ok (.if_icmp .ne 7, 3) := by decide +kernel
theorem dX0_divide_31 : decode cX0_divide 31 = .ok (.iconst 1, 1) := by decide +kernel
theorem dX0_divide_32 : decode cX0_divide 32 = .ok (.goto 4, 3) := by decide +kernel
theorem dX0_divide_35 : decode cX0_divide 35 = .ok (.iconst 0, 1) := by decide +kernel
theorem dX0_divide_36 : decode cX0_divide 36 = .ok (.istore 4, 2) := by decide +kernel
theorem dX0_divide_38 : decode cX0_divide 38 = .ok (.iload_n 0, 1) := by decide +kernel
theorem dX0_divide_39 : decode cX0_divide 39 = .ok (.invokestatic 67, 3) := by decide +kernel
theorem dX0_divide_42 : decode cX0_divide 42 = .ok (.lstore 5, 2) := by decide +kernel
theorem dX0_divide_44 : decode cX0_divide 44 = .ok (.iload_n 1, 1) := by decide +kernel
theorem dX0_divide_45 : decode cX0_divide 45 = .ok (.invokestatic 67, 3) := by decide +kernel
theorem dX0_divide_48 : decode cX0_divide 48 = .ok (.lstore 7, 2) := by decide +kernel
theorem dX0_divide_50 : decode cX0_divide 50 = .ok (.iload_n 3, 1) := by decide +kernel
theorem dX0_divide_51 : decode cX0_divide 51 = .ok (.ifCond .eq 21, 3) := by decide +kernel
theorem dX0_divide_54 : decode cX0_divide 54 = .ok (.iload 4, 2) := by decide +kernel
theorem dX0_divide_56 : decode cX0_divide 56 = .ok (.ifCond .eq 8, 3) := by decide +kernel
theorem dX0_divide_59 : decode cX0_divide 59 = .ok (.ldc 47, 2) := by decide +kernel
theorem dX0_divide_61 : decode cX0_divide 61 = .ok (.goto 10, 3) := by decide +kernel
theorem dX0_divide_64 : decode cX0_divide 64 = .ok (.iload_n 2, 1) := by decide +kernel
theorem dX0_divide_65 : decode cX0_divide 65 = .ok (.bipush 31, 2) := by decide +kernel
theorem dX0_divide_67 : decode cX0_divide 67 = .ok (.ishl, 1) := by decide +kernel
theorem dX0_divide_68 : decode cX0_divide 68 = .ok (.ldc 71, 2) := by decide +kernel
theorem dX0_divide_70 : decode cX0_divide 70 = .ok (.ior, 1) := by decide +kernel
theorem dX0_divide_71 : decode cX0_divide 71 = .ok (.ireturn, 1) := by decide +kernel
theorem dX0_divide_72 : decode cX0_divide 72 = .ok (.iload 4, 2) := by decide +kernel
theorem dX0_divide_74 : decode cX0_divide 74 = .ok (.ifCond .eq 8, 3) := by decide +kernel
theorem dX0_divide_77 : decode cX0_divide 77 = .ok (.iload_n 2, 1) := by decide +kernel
theorem dX0_divide_78 : decode cX0_divide 78 = .ok (.bipush 31, 2) := by decide +kernel
theorem dX0_divide_80 : decode cX0_divide 80 = .ok (.ishl, 1) := by decide +kernel
theorem dX0_divide_81 : decode cX0_divide 81 = .ok (.ireturn, 1) := by decide +kernel
theorem dX0_divide_82 : decode cX0_divide 82 = .ok (.lload 7, 2) := by decide +kernel
theorem dX0_divide_84 : decode cX0_divide 84 = .ok (.lconst 0, 1) := by decide +kernel
theorem dX0_divide_85 : decode cX0_divide 85 = .ok (.lcmp, 1) := by decide +kernel
theorem dX0_divide_86 : decode cX0_divide 86 = .ok (.ifCond .ne 23, 3) := by decide +kernel
theorem dX0_divide_89 : decode cX0_divide 89 = .ok (.lload 5, 2) := by decide +kernel
theorem dX0_divide_91 : decode cX0_divide 91 = .ok (.lconst 0, 1) := by decide +kernel
theorem dX0_divide_92 : decode cX0_divide 92 = .ok (.lcmp, 1) := by decide +kernel
theorem dX0_divide_93 : decode cX0_divide 93 = .ok (.ifCond .ne 8, 3) := by decide +kernel
theorem dX0_divide_96 : decode cX0_divide 96 = .ok (.ldc 47, 2) := by decide +kernel
theorem dX0_divide_98 : decode cX0_divide 98 = .ok (.goto 10, 3) := by decide +kernel
theorem dX0_divide_101 : decode cX0_divide 101 = .ok (.iload_n 2, 1) := by decide +kernel
theorem dX0_divide_102 : decode cX0_divide 102 = .ok (.bipush 31, 2) := by decide +kernel
theorem dX0_divide_104 : decode cX0_divide 104 = .ok (.ishl, 1) := by decide +kernel
theorem dX0_divide_105 : decode cX0_divide 105 = .ok (.ldc 71, 2) := by decide +kernel
theorem dX0_divide_107 : decode cX0_divide 107 = .ok (.ior, 1) := by decide +kernel
theorem dX0_divide_108 : decode cX0_divide 108 = .ok (.ireturn, 1) := by decide +kernel
theorem dX0_divide_109 : decode cX0_divide 109 = .ok (.lload 5, 2) := by decide +kernel
theorem dX0_divide_111 : decode cX0_divide 111 = .ok (.lconst 0, 1) := by decide +kernel
theorem dX0_divide_112 : decode cX0_divide 112 = .ok (.lcmp, 1) := by decide +kernel
theorem dX0_divide_113 : decode cX0_divide 113 = .ok (.ifCond .ne 8, 3) := by decide +kernel
theorem dX0_divide_116 : decode cX0_divide 116 = .ok (.iload_n 2, 1) := by decide +kernel
theorem dX0_divide_117 : decode cX0_divide 117 = .ok (.bipush 31, 2) := by decide +kernel
theorem dX0_divide_119 : decode cX0_divide 119 = .ok (.ishl, 1) := by decide +kernel
theorem dX0_divide_120 : decode cX0_divide 120 = .ok (.ireturn, 1) := by decide +kernel
theorem dX0_divide_121 : decode cX0_divide 121 = .ok (.lload 5, 2) := by decide +kernel
theorem dX0_divide_123 : decode cX0_divide 123 = .ok (.invokestatic 77, 3) := by decide +kernel
theorem dX0_divide_126 : decode cX0_divide 126 = .ok (.iconst 3, 1) := by decide +kernel
theorem dX0_divide_127 : decode cX0_divide 127 = .ok (.isub, 1) := by decide +kernel
theorem dX0_divide_128 : decode cX0_divide 128 = .ok (.istore 9, 2) := by decide +kernel
theorem dX0_divide_130 : decode cX0_divide 130 = .ok (.lload 5, 2) := by decide +kernel
theorem dX0_divide_132 : decode cX0_divide 132 = .ok (.iload 9, 2) := by decide +kernel
theorem dX0_divide_134 : decode cX0_divide 134 = .ok (.lshl, 1) := by decide +kernel
theorem dX0_divide_135 : decode cX0_divide 135 = .ok (.lstore 5, 2) := by decide +kernel
theorem dX0_divide_137 : decode cX0_divide 137 = .ok (.lload 5, 2) := by decide +kernel
theorem dX0_divide_139 : decode cX0_divide 139 = .ok (.lload 7, 2) := by decide +kernel
theorem dX0_divide_141 : decode cX0_divide 141 = .ok (.ldiv, 1) := by decide +kernel
theorem dX0_divide_142 : decode cX0_divide 142 = .ok (.lstore 10, 2) := by decide +kernel
theorem dX0_divide_144 : decode cX0_divide 144 = .ok (.lload 5, 2) := by decide +kernel
theorem dX0_divide_146 : decode cX0_divide 146 = .ok (.lload 7, 2) := by decide +kernel
theorem dX0_divide_148 : decode cX0_divide 148 = .ok (.lrem, 1) := by decide +kernel
theorem dX0_divide_149 : decode cX0_divide 149 = .ok (.lconst 0, 1) := by decide +kernel
theorem dX0_divide_150 : decode cX0_divide 150 = .ok (.lcmp, 1) := by decide +kernel
theorem dX0_divide_151 : decode cX0_divide 151 = .ok (.ifCond .ne 7, 3) := by decide +kernel
theorem dX0_divide_154 : decode cX0_divide 154 = .ok (.lconst 0, 1) := by decide +kernel
theorem dX0_divide_155 : decode cX0_divide 155 = .ok (.goto 4, 3) := by decide +kernel
theorem dX0_divide_158 : decode cX0_divide 158 = .ok (.lconst 1, 1) := by decide +kernel
theorem dX0_divide_159 : decode cX0_divide 159 = .ok (.lstore 12, 2) := by decide +kernel
theorem dX0_divide_161 : decode cX0_divide 161 = .ok (.iload_n 2, 1) := by decide +kernel
theorem dX0_divide_162 : decode cX0_divide 162 = .ok (.lload 10, 2) := by decide +kernel
theorem dX0_divide_164 : decode cX0_divide 164 = .ok (.lload 12, 2) := by decide +kernel
theorem dX0_divide_166 : decode cX0_divide 166 = .ok (.lor, 1) := by decide +kernel
theorem dX0_divide_167 : decode cX0_divide 167 = .ok (.iload_n 0, 1) := by decide +kernel
theorem dX0_divide_168 : decode cX0_divide 168 = .ok (.invokestatic 63, 3) := by decide +kernel
theorem dX0_divide_171 : decode cX0_divide 171 = .ok (.iload_n 1, 1) := by decide +kernel
theorem dX0_divide_172 : decode cX0_divide 172 = .ok (.invokestatic 63, 3) := by decide +kernel
theorem dX0_divide_175 : decode cX0_divide 175 = .ok (.isub, 1) := by decide +kernel
theorem dX0_divide_176 : decode cX0_divide 176 = .ok (.iload 9, 2) := by decide +kernel
theorem dX0_divide_178 : decode cX0_divide 178 = .ok (.isub, 1) := by decide +kernel
theorem dX0_divide_179 : decode cX0_divide 179 = .ok (.invokestatic 59, 3) := by decide +kernel
theorem dX0_divide_182 : decode cX0_divide 182 = .ok (.ireturn, 1) := by decide +kernel
theorem dX0_pack_0 : decode cX0_pack 0 = .ok (.lload_n 1, 1) := by decide +kernel
theorem dX0_pack_1 : decode cX0_pack 1 = .ok (.lconst 0, 1) := by decide +kernel
theorem dX0_pack_2 : decode cX0_pack 2 = .ok (.lcmp, 1) := by decide +kernel
theorem dX0_pack_3 : decode cX0_pack 3 = .ok (.ifCond .ne 8, 3) := by decide +kernel
theorem dX0_pack_6 : decode cX0_pack 6 = .ok (.iload_n 0, 1) := by decide +kernel
theorem dX0_pack_7 : decode cX0_pack 7 = .ok (.bipush 31, 2) := by decide +kernel
theorem dX0_pack_9 : decode cX0_pack 9 = .ok (.ishl, 1) := by decide +kernel
theorem dX0_pack_10 : decode cX0_pack 10 = .ok (.ireturn, 1) := by decide +kernel
theorem dX0_pack_11 : decode cX0_pack 11 = .ok (.bipush 64, 2) := by decide +kernel
theorem dX0_pack_13 : decode cX0_pack 13 = .ok (.lload_n 1, 1) := by decide +kernel
theorem dX0_pack_14 : decode cX0_pack 14 = .ok (.invokestatic 77, 3) := by decide +kernel
theorem dX0_pack_17 : decode cX0_pack 17 = .ok (.isub, 1) := by decide +kernel
theorem dX0_pack_18 : decode cX0_pack 18 = .ok (.istore 4, 2) := by decide +kernel
theorem dX0_pack_20 : decode cX0_pack 20 = .ok (.iload_n 3, 1) := by decide +kernel
theorem dX0_pack_21 : decode cX0_pack 21 = .ok (.iload 4, 2) := by decide +kernel
theorem dX0_pack_23 : decode cX0_pack 23 = .ok (.iadd, 1) := by decide +kernel
theorem dX0_pack_24 : decode cX0_pack 24 = .ok (.bipush 24, 2) := by decide +kernel
theorem dX0_pack_26 : decode cX0_pack 26 = .ok (.isub, 1) := by decide +kernel
theorem dX0_pack_27 : decode cX0_pack 27 = .ok (.sipush (-149), 3) := by decide +kernel
theorem dX0_pack_30 : decode cX0_pack 30 = .ok (.invokestatic 82, 3) := by decide +kernel
theorem dX0_pack_33 : decode cX0_pack 33 = .ok (.istore 5, 2) := by decide +kernel
theorem dX0_pack_35 : decode cX0_pack 35 = .ok (.iload 5, 2) := by decide +kernel
theorem dX0_pack_37 : decode cX0_pack 37 = .ok (.iload_n 3, 1) := by decide +kernel
theorem dX0_pack_38 : decode cX0_pack 38 = .ok (.isub, 1) := by decide +kernel
theorem dX0_pack_39 : decode cX0_pack 39 = .ok (.istore 6, 2) := by decide +kernel
theorem dX0_pack_41 : decode cX0_pack 41 = .ok (.lconst 0, 1) := by decide +kernel
theorem dX0_pack_42 : decode cX0_pack 42 = .ok (.lstore 7, 2) := by decide +kernel
theorem dX0_pack_44 : decode cX0_pack 44 = .ok (.iload 6, 2) := by decide +kernel
theorem dX0_pack_46 : decode cX0_pack 46 = .ok (.ifCond .gt 13, 3) := by decide +kernel
theorem dX0_pack_49 : decode cX0_pack 49 = .ok (.lload_n 1, 1) := by decide +kernel
theorem dX0_pack_50 : decode cX0_pack 50 = .ok (.iload 6, 2) := by decide +kernel
theorem dX0_pack_52 : decode cX0_pack 52 = .ok (.ineg, 1) := by decide +kernel
theorem dX0_pack_53 : decode cX0_pack 53 = .ok (.lshl, 1) := by decide +kernel
theorem dX0_pack_54 : decode cX0_pack 54 = .ok (.lstore 7, 2) := by decide +kernel
theorem dX0_pack_56 : decode cX0_pack 56 = .ok (.goto 68, 3) := by decide +kernel
theorem dX0_pack_59 : decode cX0_pack 59 = .ok (.iload 6, 2) := by decide +kernel
theorem dX0_pack_61 : decode cX0_pack 61 = .ok (.bipush 62, 2) := by decide +kernel
theorem dX0_pack_63 : decode cX0_pack 63 = .ok (.if_icmp .gt 61, 3) := by decide +kernel
theorem dX0_pack_66 : decode cX0_pack 66 = .ok (.lload_n 1, 1) := by decide +kernel
theorem dX0_pack_67 : decode cX0_pack 67 = .ok (.iload 6, 2) := by decide +kernel
theorem dX0_pack_69 : decode cX0_pack 69 = .ok (.lshr, 1) := by decide +kernel
theorem dX0_pack_70 : decode cX0_pack 70 = .ok (.lstore 7, 2) := by decide +kernel
theorem dX0_pack_72 : decode cX0_pack 72 = .ok (.lload_n 1, 1) := by decide +kernel
theorem dX0_pack_73 : decode cX0_pack 73 = .ok (.lload 7, 2) := by decide +kernel
theorem dX0_pack_75 : decode cX0_pack 75 = .ok (.iload 6, 2) := by decide +kernel
theorem dX0_pack_77 : decode cX0_pack 77 = .ok (.lshl, 1) := by decide +kernel
theorem dX0_pack_78 : decode cX0_pack 78 = .ok (.lsub, 1) := by decide +kernel
theorem dX0_pack_79 : decode cX0_pack 79 = .ok (.lstore 9, 2) := by decide +kernel
theorem dX0_pack_81 : decode cX0_pack 81 = .ok (.lconst 1, 1) := by decide +kernel
theorem dX0_pack_82 : decode cX0_pack 82 = .ok (.iload 6, 2) := by decide +kernel
theorem dX0_pack_84 : decode cX0_pack 84 = .ok (.iconst 1, 1) := by decide +kernel
theorem dX0_pack_85 : decode cX0_pack 85 = .ok (.isub, 1) := by decide +kernel
theorem dX0_pack_86 : decode cX0_pack 86 = .ok (.lshl, 1) := by decide +kernel
theorem dX0_pack_87 : decode cX0_pack 87 = .ok (.lstore 11, 2) := by decide +kernel
theorem dX0_pack_89 : decode cX0_pack 89 = .ok (.lload 7, 2) := by decide +kernel
theorem dX0_pack_91 : decode cX0_pack 91 = .ok (.lload 9, 2) := by decide +kernel
theorem dX0_pack_93 : decode cX0_pack 93 = .ok (.lload 11, 2) := by decide +kernel
theorem dX0_pack_95 : decode cX0_pack 95 = .ok (.lcmp, 1) := by decide +kernel
theorem dX0_pack_96 : decode cX0_pack 96 = .ok (.ifCond .gt 20, 3) := by decide +kernel
theorem dX0_pack_99 : decode cX0_pack 99 = .ok (.lload 9, 2) := by decide +kernel
theorem dX0_pack_101 : decode cX0_pack 101 = .ok (.lload 11, 2) := by decide +kernel
theorem dX0_pack_103 : decode cX0_pack 103 = .ok (.lcmp, 1) := by decide +kernel
theorem dX0_pack_104 : decode cX0_pack 104 = .ok (.ifCond .ne 16, 3) := by decide +kernel
theorem dX0_pack_107 : decode cX0_pack 107 = .ok (.lload 7, 2) := by decide +kernel
theorem dX0_pack_109 : decode cX0_pack 109 = .ok (.lconst 1, 1) := by decide +kernel
theorem dX0_pack_110 : decode cX0_pack 110 = .ok (.land, 1) := by decide +kernel
theorem dX0_pack_111 : decode cX0_pack 111 = .ok (.lconst 1, 1) := by decide +kernel
theorem dX0_pack_112 : decode cX0_pack 112 = .ok (.lcmp, 1) := by decide +kernel
theorem dX0_pack_113 : decode cX0_pack 113 = .ok (.ifCond .ne 7, 3) := by decide +kernel
theorem dX0_pack_116 : decode cX0_pack 116 = .ok (.lconst 1, 1) := by decide +kernel
theorem dX0_pack_117 : decode cX0_pack 117 = .ok (.goto 4, 3) := by decide +kernel
theorem dX0_pack_120 : decode cX0_pack 120 = .ok (.lconst 0, 1) := by decide +kernel
theorem dX0_pack_121 : decode cX0_pack 121 = .ok (.ladd, 1) := by decide +kernel
theorem dX0_pack_122 : decode cX0_pack 122 = .ok (.lstore 7, 2) := by decide +kernel
theorem dX0_pack_124 : decode cX0_pack 124 = .ok (.lload 7, 2) := by decide +kernel
theorem dX0_pack_126 : decode cX0_pack 126 = .ok (.ldc2_w 87, 3) := by decide +kernel
theorem dX0_pack_129 : decode cX0_pack 129 = .ok (.lcmp, 1) := by decide +kernel
theorem dX0_pack_130 : decode cX0_pack 130 = .ok (.ifCond .lt 12, 3) := by decide +kernel
theorem dX0_pack_133 : decode cX0_pack 133 = .ok (.lload 7, 2) := by decide +kernel
theorem dX0_pack_135 : decode cX0_pack 135 = .ok (.iconst 1, 1) := by decide +kernel
theorem dX0_pack_136 : decode cX0_pack 136 = .ok (.lshr, 1) := by decide +kernel
theorem dX0_pack_137 : decode cX0_pack 137 = .ok (.lstore 7, 2) := by decide +kernel
theorem dX0_pack_139 : decode cX0_pack 139 = .ok (.iinc 5 1, 3) := by decide +kernel
theorem dX0_pack_142 : decode cX0_pack 142 = .ok (.iload 5, 2) := by decide +kernel
theorem dX0_pack_144 : decode cX0_pack 144 = .ok (.sipush 150, 3) := by decide +kernel
theorem dX0_pack_147 : decode cX0_pack 147 = .ok (.iadd, 1) := by decide +kernel
theorem dX0_pack_148 : decode cX0_pack 148 = .ok (.sipush 255, 3) := by decide +kernel
theorem dX0_pack_151 : decode cX0_pack 151 = .ok (.if_icmp .lt 11, 3) := by decide +kernel
theorem dX0_pack_154 : decode cX0_pack 154 = .ok (.iload_n 0, 1) := by decide +kernel
theorem dX0_pack_155 : decode cX0_pack 155 = .ok (.bipush 31, 2) := by decide +kernel
theorem dX0_pack_157 : decode cX0_pack 157 = .ok (.ishl, 1) := by decide +kernel
theorem dX0_pack_158 : decode cX0_pack 158 = .ok (.ldc 71, 2) := by decide +kernel
theorem dX0_pack_160 : decode cX0_pack 160 = .ok (.ior, 1) := by decide +kernel
theorem dX0_pack_161 : decode cX0_pack 161 = .ok (.ireturn, 1) := by decide +kernel
theorem dX0_pack_162 : decode cX0_pack 162 = .ok (.lload 7, 2) := by decide +kernel
theorem dX0_pack_164 : decode cX0_pack 164 = .ok (.ldc2_w 89, 3) := by decide +kernel
theorem dX0_pack_167 : decode cX0_pack 167 = .ok (.lcmp, 1) := by decide +kernel
theorem dX0_pack_168 : decode cX0_pack 168 = .ok (.ifCond .ge 7, 3) := by decide +kernel
theorem dX0_pack_171 : decode cX0_pack 171 = .ok (.iconst 0, 1) := by decide +kernel
theorem dX0_pack_172 : decode cX0_pack 172 = .ok (.goto 9, 3) := by decide +kernel
theorem dX0_pack_175 : decode cX0_pack 175 = .ok (.iload 5, 2) := by decide +kernel
theorem dX0_pack_177 : decode cX0_pack 177 = .ok (.sipush 150, 3) := by decide +kernel
theorem dX0_pack_180 : decode cX0_pack 180 = .ok (.iadd, 1) := by decide +kernel
theorem dX0_pack_181 : decode cX0_pack 181 = .ok (.istore 9, 2) := by decide +kernel
theorem dX0_pack_183 : decode cX0_pack 183 = .ok (.iload_n 0, 1) := by decide +kernel
theorem dX0_pack_184 : decode cX0_pack 184 = .ok (.bipush 31, 2) := by decide +kernel
theorem dX0_pack_186 : decode cX0_pack 186 = .ok (.ishl, 1) := by decide +kernel
theorem dX0_pack_187 : decode cX0_pack 187 = .ok (.iload 9, 2) := by decide +kernel
theorem dX0_pack_189 : decode cX0_pack 189 = .ok (.bipush 23, 2) := by decide +kernel
theorem dX0_pack_191 : decode cX0_pack 191 = .ok (.ishl, 1) := by decide +kernel
theorem dX0_pack_192 : decode cX0_pack 192 = .ok (.ior, 1) := by decide +kernel
theorem dX0_pack_193 : decode cX0_pack 193 = .ok (.lload 7, 2) := by decide +kernel
theorem dX0_pack_195 : decode cX0_pack 195 = .ok (.l2i, 1) := by decide +kernel
theorem dX0_pack_196 : decode cX0_pack 196 = .ok (.ldc 75, 2) := by decide +kernel
theorem dX0_pack_198 : decode cX0_pack 198 = .ok (.iand, 1) := by decide +kernel
theorem dX0_pack_199 : decode cX0_pack 199 = .ok (.ior, 1) := by decide +kernel
theorem dX0_pack_200 : decode cX0_pack 200 = .ok (.ireturn, 1) := by decide +kernel
theorem dX1_init_0 : decode cX1_init 0 = .ok (.aload_n 0, 1) := by decide +kernel
theorem dX1_init_1 : decode cX1_init 1 = .ok (.invokespecial 3, 3) := by decide +kernel
theorem dX1_init_4 : decode cX1_init 4 = .ok (.aload_n 0, 1) := by decide +kernel
theorem dX1_init_5 : decode cX1_init 5 = .ok (.bipush 60, 2) := by decide +kernel
theorem dX1_init_7 : decode cX1_init 7 = .ok (.newarray .long, 2) := by decide +kernel
theorem dX1_init_9 : decode cX1_init 9 = .ok (.putfield 11, 3) := by decide +kernel
theorem dX1_init_12 : decode cX1_init 12 = .ok (.aload_n 0, 1) := by decide +kernel
theorem dX1_init_13 : decode cX1_init 13 = .ok (.bipush 8, 2) := by decide +kernel
theorem dX1_init_15 : decode cX1_init 15 = .ok (.newarray .int, 2) := by decide +kernel
theorem dX1_init_17 : decode cX1_init 17 = .ok (.putfield 15, 3) := by decide +kernel
theorem dX1_init_20 : decode cX1_init 20 = .ok (.aload_n 0, 1) := by decide +kernel
theorem dX1_init_21 : decode cX1_init 21 = .ok (.new 19, 3) := by decide +kernel
theorem dX1_init_24 : decode cX1_init 24 = .ok (.dup, 1) := by decide +kernel
theorem dX1_init_25 : decode cX1_init 25 = .ok (.bipush 40, 2) := by decide +kernel
theorem dX1_init_27 : decode cX1_init 27 = .ok (.invokespecial 21, 3) := by decide +kernel
theorem dX1_init_30 : decode cX1_init 30 = .ok (.putfield 24, 3) := by decide +kernel
theorem dX1_init_33 : decode cX1_init 33 = .ok (.aload_n 0, 1) := by decide +kernel
theorem dX1_init_34 : decode cX1_init 34 = .ok (.invokevirtual 28, 3) := by decide +kernel
theorem dX1_init_37 : decode cX1_init 37 = .ok (.return_, 1) := by decide +kernel
theorem dX1_begin_0 : decode cX1_begin 0 = .ok (.aload_n 0, 1) := by decide +kernel
theorem dX1_begin_1 : decode cX1_begin 1 = .ok (.iconst (-1), 1) := by decide +kernel
theorem dX1_begin_2 : decode cX1_begin 2 = .ok (.putfield 31, 3) := by decide +kernel
theorem dX1_begin_5 : decode cX1_begin 5 = .ok (.aload_n 0, 1) := by decide +kernel
theorem dX1_begin_6 : decode cX1_begin 6 = .ok (.iconst 0, 1) := by decide +kernel
theorem dX1_begin_7 : decode cX1_begin 7 = .ok (.putfield 35, 3) := by decide +kernel
theorem dX1_begin_10 : decode cX1_begin 10 = .ok (.aload_n 0, 1) := by decide +kernel
theorem dX1_begin_11 : decode cX1_begin 11 = .ok (.iconst 0, 1) := by decide +kernel
theorem dX1_begin_12 : decode cX1_begin 12 = .ok (.putfield 38, 3) := by decide +kernel
theorem dX1_begin_15 : decode cX1_begin 15 = .ok (.aload_n 0, 1) := by decide +kernel
theorem dX1_begin_16 : decode cX1_begin 16 = .ok (.iconst 0, 1) := by decide +kernel
theorem dX1_begin_17 : decode cX1_begin 17 = .ok (.putfield 41, 3) := by decide +kernel
theorem dX1_begin_20 : decode cX1_begin 20 = .ok (.aload_n 0, 1) := by decide +kernel
theorem dX1_begin_21 : decode cX1_begin 21 = .ok (.iconst 0, 1) := by decide +kernel
theorem dX1_begin_22 : decode cX1_begin 22 = .ok (.putfield 44, 3) := by decide +kernel
theorem dX1_begin_25 : decode cX1_begin 25 = .ok (.aload_n 0, 1) := by decide +kernel
theorem dX1_begin_26 : decode cX1_begin 26 = .ok (.iconst 0, 1) := by decide +kernel
theorem dX1_begin_27 : decode cX1_begin 27 = .ok (.putfield 47, 3) := by decide +kernel
theorem dX1_begin_30 : decode cX1_begin 30 = .ok (.aload_n 0, 1) := by decide +kernel
theorem dX1_begin_31 : decode cX1_begin 31 = .ok (.iconst 0, 1) := by decide +kernel
theorem dX1_begin_32 : decode cX1_begin 32 = .ok (.putfield 50, 3) := by decide +kernel
theorem dX1_begin_35 : decode cX1_begin 35 = .ok (.aload_n 0, 1) := by decide +kernel
theorem dX1_begin_36 : decode cX1_begin 36 = .ok (.getfield 24, 3) := by decide +kernel
theorem dX1_begin_39 : decode cX1_begin 39 = .ok (.iconst 0, 1) := by decide +kernel
theorem dX1_begin_40 : decode cX1_begin 40 = .ok (.invokevirtual 53, 3) := by decide +kernel
theorem dX1_begin_43 : decode cX1_begin 43 = .ok (.iconst 0, 1) := by decide +kernel
theorem dX1_begin_44 : decode cX1_begin 44 = .ok (.istore_n 1, 1) := by decide +kernel
theorem dX1_begin_45 : decode cX1_begin 45 = .ok (.iload_n 1, 1) := by decide +kernel
theorem dX1_begin_46 : decode cX1_begin 46 = .ok (.bipush 8, 2) := by decide +kernel
theorem dX1_begin_48 : decode cX1_begin 48 = .ok (.if_icmp .ge 16, 3) := by decide +kernel
theorem dX1_begin_51 : decode cX1_begin 51 = .ok (.aload_n 0, 1) := by decide +kernel
theorem dX1_begin_52 : decode cX1_begin 52 = .ok (.getfield 15, 3) := by decide +kernel
theorem dX1_begin_55 : decode cX1_begin 55 = .ok (.iload_n 1, 1) := by decide +kernel
theorem dX1_begin_56 : decode cX1_begin 56 = .ok (.iconst 0, 1) := by decide +kernel
theorem dX1_begin_57 : decode cX1_begin 57 = .ok (.iastore, 1) := by decide +kernel
theorem dX1_begin_58 : decode cX1_begin 58 = .ok (.iinc 1 1, 3) := by decide +kernel
theorem dX1_begin_61 : decode cX1_begin 61 = .ok (.goto (-16), 3) := by decide +kernel
theorem dX1_begin_64 : decode cX1_begin 64 = .ok (.return_, 1) := by decide +kernel
theorem dX1_clear_0 : decode cX1_clear 0 = .ok (.aload_n 0, 1) := by decide +kernel
theorem dX1_clear_1 : decode cX1_clear 1 = .ok (.invokevirtual 28, 3) := by decide +kernel
theorem dX1_clear_4 : decode cX1_clear 4 = .ok (.return_, 1) := by decide +kernel
theorem dX1_isRunning_0 : decode cX1_isRunning 0 = .ok (.aload_n 0, 1) := by decide +kernel
theorem dX1_isRunning_1 : decode cX1_isRunning 1 = .ok (.getfield 31, 3) := by decide +kernel
theorem dX1_isRunning_4 : decode cX1_isRunning 4 = .ok (.iconst (-1), 1) := by decide +kernel
theorem dX1_isRunning_5 : decode cX1_isRunning 5 = .ok (.if_icmp .ne 7, 3) := by decide +kernel
theorem dX1_isRunning_8 : decode cX1_isRunning 8 = .ok (.iconst 1, 1) := by decide +kernel
theorem dX1_isRunning_9 : decode cX1_isRunning 9 = .ok (.goto 4, 3) := by decide +kernel
theorem dX1_isRunning_12 : decode cX1_isRunning 12 = .ok (.iconst 0, 1) := by decide +kernel
theorem dX1_isRunning_13 : decode cX1_isRunning 13 = .ok (.ireturn, 1) := by decide +kernel
theorem dX1_beginCall_0 : decode cX1_beginCall 0 = .ok (.aload_n 0, 1) := by decide +kernel
theorem dX1_beginCall_1 : decode cX1_beginCall 1 = .ok (.getfield 35, 3) := by decide +kernel
theorem dX1_beginCall_4 : decode cX1_beginCall 4 = .ok (.bipush 100, 2) := by decide +kernel
theorem dX1_beginCall_6 : decode cX1_beginCall 6 = .ok (.if_icmp .lt 11, 3) := by decide +kernel
theorem dX1_beginCall_9 : decode cX1_beginCall 9 = .ok (.aload_n 0, 1) := by decide +kernel
theorem dX1_beginCall_10 : decode cX1_beginCall 10 = .ok (.iconst 1, 1) := by decide +kernel
theorem dX1_beginCall_11 : decode cX1_beginCall 11 = .ok (.putfield 31, 3) := by decide +kernel
theorem dX1_beginCall_14 : decode cX1_beginCall 14 = .ok (.goto 55, 3) := by decide +kernel
theorem dX1_beginCall_17 : decode cX1_beginCall 17 = .ok (.aload_n 0, 1) := by decide +kernel
theorem dX1_beginCall_18 : decode cX1_beginCall 18 = .ok (.getfield 38, 3) := by decide +kernel
theorem dX1_beginCall_21 : decode cX1_beginCall 21 = .ok (.bipush 30, 2) := by decide +kernel
theorem dX1_beginCall_23 : decode cX1_beginCall 23 = .ok (.if_icmp .lt 11, 3) := by decide +kernel
theorem dX1_beginCall_26 : decode cX1_beginCall 26 = .ok (.aload_n 0, 1) := by decide +kernel
theorem dX1_beginCall_27 : decode cX1_beginCall 27 = .ok (.iconst 3, 1) := by decide +kernel
theorem dX1_beginCall_28 : decode cX1_beginCall 28 = .ok (.putfield 31, 3) := by decide +kernel
theorem dX1_beginCall_31 : decode cX1_beginCall 31 = .ok (.goto 38, 3) := by decide +kernel
theorem dX1_beginCall_34 : decode cX1_beginCall 34 = .ok (.aload_n 0, 1) := by decide +kernel
theorem dX1_beginCall_35 : decode cX1_beginCall 35 = .ok (.dup, 1) := by decide +kernel
theorem dX1_beginCall_36 : decode cX1_beginCall 36 = .ok (.getfield 35, 3) := by decide +kernel
theorem dX1_beginCall_39 : decode cX1_beginCall 39 = .ok (.iconst 1, 1) := by decide +kernel
theorem dX1_beginCall_40 : decode cX1_beginCall 40 = .ok (.iadd, 1) := by decide +kernel
theorem dX1_beginCall_41 : decode cX1_beginCall 41 = .ok (.putfield 35, 3) := by decide +kernel
theorem dX1_beginCall_44 : decode cX1_beginCall 44 = .ok (.aload_n 0, 1) := by decide +kernel
theorem dX1_beginCall_45 : decode cX1_beginCall 45 = .ok (.dup, 1) := by decide +kernel
theorem dX1_beginCall_46 : decode cX1_beginCall 46 = .ok (.getfield 38, 3) := by decide +kernel
theorem dX1_beginCall_49 : decode cX1_beginCall 49 = .ok (.iconst 1, 1) := by decide +kernel
theorem dX1_beginCall_50 : decode cX1_beginCall 50 = .ok (.iadd, 1) := by decide +kernel
theorem dX1_beginCall_51 : decode cX1_beginCall 51 = .ok (.putfield 38, 3) := by decide +kernel
theorem dX1_beginCall_54 : decode cX1_beginCall 54 = .ok (.aload_n 0, 1) := by decide +kernel
theorem dX1_beginCall_55 : decode cX1_beginCall 55 = .ok (.aload_n 0, 1) := by decide +kernel
theorem dX1_beginCall_56 : decode cX1_beginCall 56 = .ok (.getfield 41, 3) := by decide +kernel
theorem dX1_beginCall_59 : decode cX1_beginCall 59 = .ok (.aload_n 0, 1) := by decide +kernel
theorem dX1_beginCall_60 : decode cX1_beginCall 60 = .ok (.getfield 38, 3) := by decide +kernel
theorem dX1_beginCall_63 : decode cX1_beginCall 63 = .ok (.invokestatic 55, 3) := by decide +kernel
theorem dX1_beginCall_66 : decode cX1_beginCall 66 = .ok (.putfield 41, 3) := by decide +kernel
theorem dX1_beginCall_69 : decode cX1_beginCall 69 = .ok (.aload_n 0, 1) := by decide +kernel
theorem dX1_beginCall_70 : decode cX1_beginCall 70 = .ok (.invokevirtual 61, 3) := by decide +kernel
theorem dX1_beginCall_73 : decode cX1_beginCall 73 = .ok (.ireturn, 1) := by decide +kernel
theorem dX1_endCall_0 : decode cX1_endCall 0 = .ok (.aload_n 0, 1) := by decide +kernel
theorem dX1_endCall_1 : decode cX1_endCall 1 = .ok (.dup, 1) := by decide +kernel
theorem dX1_endCall_2 : decode cX1_endCall 2 = .ok (.getfield 38, 3) := by decide +kernel
theorem dX1_endCall_5 : decode cX1_endCall 5 = .ok (.iconst 1, 1) := by decide +kernel
theorem dX1_endCall_6 : decode cX1_endCall 6 = .ok (.isub, 1) := by decide +kernel
theorem dX1_endCall_7 : decode cX1_endCall 7 = .ok (.putfield 38, 3) := by decide +kernel
theorem dX1_endCall_10 : decode cX1_endCall 10 = .ok (.return_, 1) := by decide +kernel
theorem dX1_endWith_0 : decode cX1_endWith 0 = .ok (.aload_n 0, 1) := by decide +kernel
theorem dX1_endWith_1 : decode cX1_endWith 1 = .ok (.iconst 0, 1) := by decide +kernel
theorem dX1_endWith_2 : decode cX1_endWith 2 = .ok (.putfield 31, 3) := by decide +kernel
theorem dX1_endWith_5 : decode cX1_endWith 5 = .ok (.aload_n 0, 1) := by decide +kernel
theorem dX1_endWith_6 : decode cX1_endWith 6 = .ok (.aload_n 1, 1) := by decide +kernel
theorem dX1_endWith_7 : decode cX1_endWith 7 = .ok (.lload_n 2, 1) := by decide +kernel
theorem dX1_endWith_8 : decode cX1_endWith 8 = .ok (.invokevirtual 65, 3) := by decide +kernel
theorem dX1_endWith_11 : decode cX1_endWith 11 = .ok (.putfield 47, 3) := by decide +kernel
theorem dX1_endWith_14 : decode cX1_endWith 14 = .ok (.aload_n 0, 1) := by decide +kernel
theorem dX1_endWith_15 : decode cX1_endWith 15 = .ok (.aload_n 1, 1) := by decide +kernel
theorem dX1_endWith_16 : decode cX1_endWith 16 = .ok (.lload_n 2, 1) := by decide +kernel
theorem dX1_endWith_17 : decode cX1_endWith 17 = .ok (.invokevirtual 71, 3) := by decide +kernel
theorem dX1_endWith_20 : decode cX1_endWith 20 = .ok (.putfield 50, 3) := by decide +kernel
theorem dX1_endWith_23 : decode cX1_endWith 23 = .ok (.aload_n 1, 1) := by decide +kernel
theorem dX1_endWith_24 : decode cX1_endWith 24 = .ok (.lload_n 2, 1) := by decide +kernel
theorem dX1_endWith_25 : decode cX1_endWith 25 = .ok (.aload_n 0, 1) := by decide +kernel
theorem dX1_endWith_26 : decode cX1_endWith 26 = .ok (.getfield 24, 3) := by decide +kernel
theorem dX1_endWith_29 : decode cX1_endWith 29 = .ok (.invokevirtual 74, 3) := by decide +kernel
theorem dX1_endWith_32 : decode cX1_endWith 32 = .ok (.return_, 1) := by decide +kernel
theorem dX1_writeOut_0 : decode cX1_writeOut 0 = .ok (.aload_n 0, 1) := by decide +kernel
theorem dX1_writeOut_1 : decode cX1_writeOut 1 = .ok (.getfield 44, 3) := by decide +kernel
theorem dX1_writeOut_4 : decode cX1_writeOut 4 = .ok (.bipush 60, 2) := by decide +kernel
theorem dX1_writeOut_6 : decode cX1_writeOut 6 = .ok (.if_icmp .ge 13, 3) := by decide +kernel
theorem dX1_writeOut_9 : decode cX1_writeOut 9 = .ok (.aload_n 0, 1) := by decide +kernel
theorem dX1_writeOut_10 : decode cX1_writeOut 10 = .ok (.getfield 11, 3) := by decide +kernel
theorem dX1_writeOut_13 : decode cX1_writeOut 13 = .ok (.aload_n 0, 1) := by decide +kernel
theorem dX1_writeOut_14 : decode cX1_writeOut 14 = .ok (.getfield 44, 3) := by decide +kernel
theorem dX1_writeOut_17 : decode cX1_writeOut 17 = .ok (.lload_n 1, 1) := by decide +kernel
theorem dX1_writeOut_18 : decode cX1_writeOut 18 = .ok (.lastore, 1) := by decide +kernel
theorem dX1_writeOut_19 : decode cX1_writeOut 19 = .ok (.aload_n 0, 1) := by decide +kernel
theorem dX1_writeOut_20 : decode cX1_writeOut 20 = .ok (.dup, 1) := by decide +kernel
theorem dX1_writeOut_21 : decode cX1_writeOut 21 = .ok (.getfield 44, 3) := by decide +kernel
theorem dX1_writeOut_24 : decode cX1_writeOut 24 = .ok (.iconst 1, 1) := by decide +kernel
theorem dX1_writeOut_25 : decode cX1_writeOut 25 = .ok (.iadd, 1) := by decide +kernel
theorem dX1_writeOut_26 : decode cX1_writeOut 26 = .ok (.putfield 44, 3) := by decide +kernel
theorem dX1_writeOut_29 : decode cX1_writeOut 29 = .ok (.return_, 1) := by decide +kernel
theorem dX1_put_0 : decode cX1_put 0 = .ok (.iload_n 1, 1) := by decide +kernel
theorem dX1_put_1 : decode cX1_put 1 = .ok (.ifCond .lt 19, 3) := by decide +kernel
theorem dX1_put_4 : decode cX1_put 4 = .ok (.iload_n 1, 1) := by decide +kernel
theorem dX1_put_5 : decode cX1_put 5 = .ok (.bipush 8, 2) := by decide +kernel
theorem dX1_put_7 : decode cX1_put 7 = .ok (.if_icmp .ge 13, 3) := by decide +kernel
theorem dX1_put_10 : decode cX1_put 10 = .ok (.aload_n 0, 1) := by decide +kernel
theorem dX1_put_11 : decode cX1_put 11 = .ok (.getfield 15, 3) := by decide +kernel
theorem dX1_put_14 : decode cX1_put 14 = .ok (.iload_n 1, 1) := by decide +kernel
theorem dX1_put_15 : decode cX1_put 15 = .ok (.lload_n 2, 1) := by decide +kernel
theorem dX1_put_16 : decode cX1_put 16 = .ok (.invokestatic 78, 3) := by decide +kernel
theorem dX1_put_19 : decode cX1_put 19 = .ok (.iastore, 1) := by decide +kernel
theorem dX1_put_20 : decode cX1_put 20 = .ok (.lload_n 2, 1) := by decide +kernel
theorem dX1_put_21 : decode cX1_put 21 = .ok (.lreturn, 1) := by decide +kernel
theorem dX1_get_0 : decode cX1_get 0 = .ok (.iload_n 1, 1) := by decide +kernel
theorem dX1_get_1 : decode cX1_get 1 = .ok (.iconst 4, 1) := by decide +kernel
theorem dX1_get_2 : decode cX1_get 2 = .ok (.if_icmp .ge 7, 3) := by decide +kernel
theorem dX1_get_5 : decode cX1_get 5 = .ok (.iconst 0, 1) := by decide +kernel
theorem dX1_get_6 : decode cX1_get 6 = .ok (.goto 4, 3) := by decide +kernel
theorem dX1_get_9 : decode cX1_get 9 = .ok (.iconst 1, 1) := by decide +kernel
theorem dX1_get_10 : decode cX1_get 10 = .ok (.aload_n 0, 1) := by decide +kernel
theorem dX1_get_11 : decode cX1_get 11 = .ok (.iload_n 1, 1) := by decide +kernel
theorem dX1_get_12 : decode cX1_get 12 = .ok (.invokevirtual 83, 3) := by decide +kernel
theorem dX1_get_15 : decode cX1_get 15 = .ok (.invokestatic 87, 3) := by decide +kernel
theorem dX1_get_18 : decode cX1_get 18 = .ok (.lreturn, 1) := by decide +kernel
theorem dX1_placeBits_0 : decode cX1_placeBits 0 = .ok (.iload_n 1, 1) := by decide +kernel
theorem dX1_placeBits_1 : decode cX1_placeBits 1 = .ok (.ifCond .lt 18, 3) := by decide +kernel
theorem dX1_placeBits_4 : decode cX1_placeBits 4 = .ok (.iload_n 1, 1) := by decide +kernel
theorem dX1_placeBits_5 : decode cX1_placeBits 5 = .ok (.bipush 8, 2) := by decide +kernel
theorem dX1_placeBits_7 : decode cX1_placeBits 7 = .ok (.if_icmp .ge 12, 3) := by decide +kernel
theorem dX1_placeBits_10 : decode cX1_placeBits 10 = .ok (.aload_n 0, 1) := by decide +kernel
theorem dX1_placeBits_11 : decode cX1_placeBits 11 = .ok (.getfield 15, 3) := by decide +kernel
theorem dX1_placeBits_14 : decode cX1_placeBits 14 = .ok (.iload_n 1, 1) := by decide +kernel
theorem dX1_placeBits_15 : decode cX1_placeBits 15 = .ok (.iaload, 1) := by decide +kernel
theorem dX1_placeBits_16 : decode cX1_placeBits 16 = .ok (.goto 4, 3) := by decide +kernel
theorem dX1_placeBits_19 : decode cX1_placeBits 19 = .ok (.iconst 0, 1) := by decide +kernel
theorem dX1_placeBits_20 : decode cX1_placeBits 20 = .ok (.ireturn, 1) := by decide +kernel
theorem dX1_about_0 : decode cX1_about 0 = .ok (.iload_n 1, 1) := by decide +kernel
theorem dX1_about_1 : decode cX1_about 1 = .ok (.tableswitch 69 0 5 #[39, 44, 49, 54, 59, 64], 39) := by decide +kernel
theorem dX1_about_40 : decode cX1_about 40 = .ok (.aload_n 0, 1) := by decide +kernel
theorem dX1_about_41 : decode cX1_about 41 = .ok (.getfield 31, 3) := by decide +kernel
theorem dX1_about_44 : decode cX1_about 44 = .ok (.ireturn, 1) := by decide +kernel
theorem dX1_about_45 : decode cX1_about 45 = .ok (.aload_n 0, 1) := by decide +kernel
theorem dX1_about_46 : decode cX1_about 46 = .ok (.getfield 35, 3) := by decide +kernel
theorem dX1_about_49 : decode cX1_about 49 = .ok (.ireturn, 1) := by decide +kernel
theorem dX1_about_50 : decode cX1_about 50 = .ok (.aload_n 0, 1) := by decide +kernel
theorem dX1_about_51 : decode cX1_about 51 = .ok (.getfield 44, 3) := by decide +kernel
theorem dX1_about_54 : decode cX1_about 54 = .ok (.ireturn, 1) := by decide +kernel
theorem dX1_about_55 : decode cX1_about 55 = .ok (.aload_n 0, 1) := by decide +kernel
theorem dX1_about_56 : decode cX1_about 56 = .ok (.getfield 47, 3) := by decide +kernel
theorem dX1_about_59 : decode cX1_about 59 = .ok (.ireturn, 1) := by decide +kernel
theorem dX1_about_60 : decode cX1_about 60 = .ok (.aload_n 0, 1) := by decide +kernel
theorem dX1_about_61 : decode cX1_about 61 = .ok (.getfield 50, 3) := by decide +kernel
theorem dX1_about_64 : decode cX1_about 64 = .ok (.ireturn, 1) := by decide +kernel
theorem dX1_about_65 : decode cX1_about 65 = .ok (.aload_n 0, 1) := by decide +kernel
theorem dX1_about_66 : decode cX1_about 66 = .ok (.getfield 41, 3) := by decide +kernel
theorem dX1_about_69 : decode cX1_about 69 = .ok (.ireturn, 1) := by decide +kernel
theorem dX1_about_70 : decode cX1_about 70 = .ok (.iconst (-1), 1) := by decide +kernel
theorem dX1_about_71 : decode cX1_about 71 = .ok (.ireturn, 1) := by decide +kernel
theorem dX1_keptCount_0 : decode cX1_keptCount 0 = .ok (.aload_n 0, 1) := by decide +kernel
theorem dX1_keptCount_1 : decode cX1_keptCount 1 = .ok (.getfield 44, 3) := by decide +kernel
theorem dX1_keptCount_4 : decode cX1_keptCount 4 = .ok (.bipush 60, 2) := by decide +kernel
theorem dX1_keptCount_6 : decode cX1_keptCount 6 = .ok (.invokestatic 91, 3) := by decide +kernel
theorem dX1_keptCount_9 : decode cX1_keptCount 9 = .ok (.ireturn, 1) := by decide +kernel
theorem dX1_aboutOutput_0 : decode cX1_aboutOutput 0 = .ok (.iload_n 1, 1) := by decide +kernel
theorem dX1_aboutOutput_1 : decode cX1_aboutOutput 1 = .ok (.ifCond .lt 20, 3) := by decide +kernel
theorem dX1_aboutOutput_4 : decode cX1_aboutOutput 4 = .ok (.iload_n 1, 1) := by decide +kernel
theorem dX1_aboutOutput_5 : decode cX1_aboutOutput 5 = .ok (.aload_n 0, 1) := by decide +kernel
theorem dX1_aboutOutput_6 : decode cX1_aboutOutput 6 = .ok (.invokevirtual 94, 3) := by decide +kernel
theorem dX1_aboutOutput_9 : decode cX1_aboutOutput 9 = .ok (.if_icmp .ge 12, 3) := by decide +kernel
theorem dX1_aboutOutput_12 : decode cX1_aboutOutput 12 = .ok (.iload_n 2, 1) := by decide +kernel
theorem dX1_aboutOutput_13 : decode cX1_aboutOutput 13 = .ok (.ifCond .lt 8, 3) := by decide +kernel
theorem dX1_aboutOutput_16 : decode cX1_aboutOutput 16 = .ok (.iload_n 2, 1) := by decide +kernel
theorem dX1_aboutOutput_17 : decode cX1_aboutOutput 17 = .ok (.iconst 1, 1) := by decide +kernel
theorem dX1_aboutOutput_18 : decode cX1_aboutOutput 18 = .ok (.if_icmp .le 5, 3) := by decide +kernel
theorem dX1_aboutOutput_21 : decode cX1_aboutOutput 21 = .ok (.iconst (-1), 1) := by decide +kernel
theorem dX1_aboutOutput_22 : decode cX1_aboutOutput 22 = .ok (.ireturn, 1) := by decide +kernel
theorem dX1_aboutOutput_23 : decode cX1_aboutOutput 23 = .ok (.iload_n 2, 1) := by decide +kernel
theorem dX1_aboutOutput_24 : decode cX1_aboutOutput 24 = .ok (.ifCond .ne 15, 3) := by decide +kernel
theorem dX1_aboutOutput_27 : decode cX1_aboutOutput 27 = .ok (.aload_n 0, 1) := by decide +kernel
theorem dX1_aboutOutput_28 : decode cX1_aboutOutput 28 = .ok (.getfield 11, 3) := by decide +kernel
theorem dX1_aboutOutput_31 : decode cX1_aboutOutput 31 = .ok (.iload_n 1, 1) := by decide +kernel
theorem dX1_aboutOutput_32 : decode cX1_aboutOutput 32 = .ok (.laload, 1) := by decide +kernel
theorem dX1_aboutOutput_33 : decode cX1_aboutOutput 33 = .ok (.invokestatic 98, 3) := by decide +kernel
theorem dX1_aboutOutput_36 : decode cX1_aboutOutput 36 = .ok (.goto 12, 3) := by decide +kernel
theorem dX1_aboutOutput_39 : decode cX1_aboutOutput 39 = .ok (.aload_n 0, 1) := by decide +kernel
theorem dX1_aboutOutput_40 : decode cX1_aboutOutput 40 = .ok (.getfield 11, 3) := by decide +kernel
theorem dX1_aboutOutput_43 : decode cX1_aboutOutput 43 = .ok (.iload_n 1, 1) := by decide +kernel
theorem dX1_aboutOutput_44 : decode cX1_aboutOutput 44 = .ok (.laload, 1) := by decide +kernel
theorem dX1_aboutOutput_45 : decode cX1_aboutOutput 45 = .ok (.invokestatic 78, 3) := by decide +kernel
theorem dX1_aboutOutput_48 : decode cX1_aboutOutput 48 = .ok (.ireturn, 1) := by decide +kernel
theorem dX1_isLike_0 : decode cX1_isLike 0 = .ok (.aload_n 0, 1) := by decide +kernel
theorem dX1_isLike_1 : decode cX1_isLike 1 = .ok (.getfield 31, 3) := by decide +kernel
theorem dX1_isLike_4 : decode cX1_isLike 4 = .ok (.aload_n 1, 1) := by decide +kernel
theorem dX1_isLike_5 : decode cX1_isLike 5 = .ok (.getfield 31, 3) := by decide +kernel
theorem dX1_isLike_8 : decode cX1_isLike 8 = .ok (.if_icmp .ne 28, 3) := by decide +kernel
theorem dX1_isLike_11 : decode cX1_isLike 11 = .ok (.aload_n 0, 1) := by decide +kernel
theorem dX1_isLike_12 : decode cX1_isLike 12 = .ok (.getfield 24, 3) := by decide +kernel
theorem dX1_isLike_15 : decode cX1_isLike 15 = .ok (.aload_n 1, 1) := by decide +kernel
theorem dX1_isLike_16 : decode cX1_isLike 16 = .ok (.getfield 24, 3) := by decide +kernel
theorem dX1_isLike_19 : decode cX1_isLike 19 = .ok (.invokevirtual 101, 3) := by decide +kernel
theorem dX1_isLike_22 : decode cX1_isLike 22 = .ok (.ifCond .eq 14, 3) := by decide +kernel
theorem dX1_isLike_25 : decode cX1_isLike 25 = .ok (.aload_n 0, 1) := by decide +kernel
theorem dX1_isLike_26 : decode cX1_isLike 26 = .ok (.invokevirtual 94, 3) := by decide +kernel
theorem dX1_isLike_29 : decode cX1_isLike 29 = .ok (.aload_n 1, 1) := by decide +kernel
theorem dX1_isLike_30 : decode cX1_isLike 30 = .ok (.invokevirtual 94, 3) := by decide +kernel
theorem dX1_isLike_33 : decode cX1_isLike 33 = .ok (.if_icmp .eq 5, 3) := by decide +kernel
theorem dX1_isLike_36 : decode cX1_isLike 36 = .ok (.iconst 0, 1) := by decide +kernel
theorem dX1_isLike_37 : decode cX1_isLike 37 = .ok (.ireturn, 1) := by decide +kernel
theorem dX1_isLike_38 : decode cX1_isLike 38 = .ok (.iconst 0, 1) := by decide +kernel
theorem dX1_isLike_39 : decode cX1_isLike 39 = .ok (.istore_n 2, 1) := by decide +kernel
theorem dX1_isLike_40 : decode cX1_isLike 40 = .ok (.iload_n 2, 1) := by decide +kernel
theorem dX1_isLike_41 : decode cX1_isLike 41 = .ok (.aload_n 0, 1) := by decide +kernel
theorem dX1_isLike_42 : decode cX1_isLike 42 = .ok (.invokevirtual 94, 3) := by decide +kernel
theorem dX1_isLike_45 : decode cX1_isLike 45 = .ok (.if_icmp .ge 27, 3) := by decide +kernel
theorem dX1_isLike_48 : decode cX1_isLike 48 = .ok (.aload_n 0, 1) := by decide +kernel
theorem dX1_isLike_49 : decode cX1_isLike 49 = .ok (.getfield 11, 3) := by decide +kernel
theorem dX1_isLike_52 : decode cX1_isLike 52 = .ok (.iload_n 2, 1) := by decide +kernel
theorem dX1_isLike_53 : decode cX1_isLike 53 = .ok (.laload, 1) := by decide +kernel
theorem dX1_isLike_54 : decode cX1_isLike 54 = .ok (.aload_n 1, 1) := by decide +kernel
theorem dX1_isLike_55 : decode cX1_isLike 55 = .ok (.getfield 11, 3) := by decide +kernel
theorem dX1_isLike_58 : decode cX1_isLike 58 = .ok (.iload_n 2, 1) := by decide +kernel
theorem dX1_isLike_59 : decode cX1_isLike 59 = .ok (.laload, 1) := by decide +kernel
theorem dX1_isLike_60 : decode cX1_isLike 60 = .ok (.lcmp, 1) := by decide +kernel
theorem dX1_isLike_61 : decode cX1_isLike 61 = .ok (.ifCond .eq 5, 3) := by decide +kernel
theorem dX1_isLike_64 : decode cX1_isLike 64 = .ok (.iconst 0, 1) := by decide +kernel
theorem dX1_isLike_65 : decode cX1_isLike 65 = .ok (.ireturn, 1) := by decide +kernel
theorem dX1_isLike_66 : decode cX1_isLike 66 = .ok (.iinc 2 1, 3) := by decide +kernel
theorem dX1_isLike_69 : decode cX1_isLike 69 = .ok (.goto (-29), 3) := by decide +kernel
theorem dX1_isLike_72 : decode cX1_isLike 72 = .ok (.iconst 0, 1) := by decide +kernel
theorem dX1_isLike_73 : decode cX1_isLike 73 = .ok (.istore_n 2, 1) := by decide +kernel
theorem dX1_isLike_74 : decode cX1_isLike 74 = .ok (.iload_n 2, 1) := by decide +kernel
theorem dX1_isLike_75 : decode cX1_isLike 75 = .ok (.bipush 8, 2) := by decide +kernel
theorem dX1_isLike_77 : decode cX1_isLike 77 = .ok (.if_icmp .ge 26, 3) := by decide +kernel
theorem dX1_isLike_80 : decode cX1_isLike 80 = .ok (.aload_n 0, 1) := by decide +kernel
theorem dX1_isLike_81 : decode cX1_isLike 81 = .ok (.getfield 15, 3) := by decide +kernel
theorem dX1_isLike_84 : decode cX1_isLike 84 = .ok (.iload_n 2, 1) := by decide +kernel
theorem dX1_isLike_85 : decode cX1_isLike 85 = .ok (.iaload, 1) := by decide +kernel
theorem dX1_isLike_86 : decode cX1_isLike 86 = .ok (.aload_n 1, 1) := by decide +kernel
theorem dX1_isLike_87 : decode cX1_isLike 87 = .ok (.getfield 15, 3) := by decide +kernel
theorem dX1_isLike_90 : decode cX1_isLike 90 = .ok (.iload_n 2, 1) := by decide +kernel
theorem dX1_isLike_91 : decode cX1_isLike 91 = .ok (.iaload, 1) := by decide +kernel
theorem dX1_isLike_92 : decode cX1_isLike 92 = .ok (.if_icmp .eq 5, 3) := by decide +kernel
theorem dX1_isLike_95 : decode cX1_isLike 95 = .ok (.iconst 0, 1) := by decide +kernel
theorem dX1_isLike_96 : decode cX1_isLike 96 = .ok (.ireturn, 1) := by decide +kernel
theorem dX1_isLike_97 : decode cX1_isLike 97 = .ok (.iinc 2 1, 3) := by decide +kernel
theorem dX1_isLike_100 : decode cX1_isLike 100 = .ok (.goto (-26), 3) := by decide +kernel
theorem dX1_isLike_103 : decode cX1_isLike 103 = .ok (.iconst 1, 1) := by decide +kernel
theorem dX1_isLike_104 : decode cX1_isLike 104 = .ok (.ireturn, 1) := by decide +kernel
theorem dX2_init_0 : decode cX2_init 0 = .ok (.aload_n 0, 1) := by decide +kernel
theorem dX2_init_1 : decode cX2_init 1 = .ok (.invokespecial 3, 3) := by decide +kernel
theorem dX2_init_4 : decode cX2_init 4 = .ok (.aload_n 0, 1) := by decide +kernel
theorem dX2_init_5 : decode cX2_init 5 = .ok (.iload_n 1, 1) := by decide +kernel
theorem dX2_init_6 : decode cX2_init 6 = .ok (.newarray .long, 2) := by decide +kernel
theorem dX2_init_8 : decode cX2_init 8 = .ok (.putfield 9, 3) := by decide +kernel
theorem dX2_init_11 : decode cX2_init 11 = .ok (.aload_n 0, 1) := by decide +kernel
theorem dX2_init_12 : decode cX2_init 12 = .ok (.iload_n 1, 1) := by decide +kernel
theorem dX2_init_13 : decode cX2_init 13 = .ok (.newarray .long, 2) := by decide +kernel
theorem dX2_init_15 : decode cX2_init 15 = .ok (.putfield 15, 3) := by decide +kernel
theorem dX2_init_18 : decode cX2_init 18 = .ok (.aload_n 0, 1) := by decide +kernel
theorem dX2_init_19 : decode cX2_init 19 = .ok (.iconst 0, 1) := by decide +kernel
theorem dX2_init_20 : decode cX2_init 20 = .ok (.putfield 18, 3) := by decide +kernel
theorem dX2_init_23 : decode cX2_init 23 = .ok (.aload_n 0, 1) := by decide +kernel
theorem dX2_init_24 : decode cX2_init 24 = .ok (.iconst 0, 1) := by decide +kernel
theorem dX2_init_25 : decode cX2_init 25 = .ok (.putfield 22, 3) := by decide +kernel
theorem dX2_init_28 : decode cX2_init 28 = .ok (.return_, 1) := by decide +kernel
theorem dX2_begin_0 : decode cX2_begin 0 = .ok (.aload_n 0, 1) := by decide +kernel
theorem dX2_begin_1 : decode cX2_begin 1 = .ok (.iconst 0, 1) := by decide +kernel
theorem dX2_begin_2 : decode cX2_begin 2 = .ok (.putfield 18, 3) := by decide +kernel
theorem dX2_begin_5 : decode cX2_begin 5 = .ok (.aload_n 0, 1) := by decide +kernel
theorem dX2_begin_6 : decode cX2_begin 6 = .ok (.iload_n 1, 1) := by decide +kernel
theorem dX2_begin_7 : decode cX2_begin 7 = .ok (.putfield 22, 3) := by decide +kernel
theorem dX2_begin_10 : decode cX2_begin 10 = .ok (.return_, 1) := by decide +kernel
theorem dX2_add_0 : decode cX2_add 0 = .ok (.aload_n 0, 1) := by decide +kernel
theorem dX2_add_1 : decode cX2_add 1 = .ok (.getfield 18, 3) := by decide +kernel
theorem dX2_add_4 : decode cX2_add 4 = .ok (.aload_n 0, 1) := by decide +kernel
theorem dX2_add_5 : decode cX2_add 5 = .ok (.getfield 9, 3) := by decide +kernel
theorem dX2_add_8 : decode cX2_add 8 = .ok (.arraylength, 1) := by decide +kernel
theorem dX2_add_9 : decode cX2_add 9 = .ok (.if_icmp .ge 33, 3) := by decide +kernel
theorem dX2_add_12 : decode cX2_add 12 = .ok (.aload_n 0, 1) := by decide +kernel
theorem dX2_add_13 : decode cX2_add 13 = .ok (.getfield 9, 3) := by decide +kernel
theorem dX2_add_16 : decode cX2_add 16 = .ok (.aload_n 0, 1) := by decide +kernel
theorem dX2_add_17 : decode cX2_add 17 = .ok (.getfield 18, 3) := by decide +kernel
theorem dX2_add_20 : decode cX2_add 20 = .ok (.lload_n 1, 1) := by decide +kernel
theorem dX2_add_21 : decode cX2_add 21 = .ok (.lastore, 1) := by decide +kernel
theorem dX2_add_22 : decode cX2_add 22 = .ok (.aload_n 0, 1) := by decide +kernel
theorem dX2_add_23 : decode cX2_add 23 = .ok (.getfield 15, 3) := by decide +kernel
theorem dX2_add_26 : decode cX2_add 26 = .ok (.aload_n 0, 1) := by decide +kernel
theorem dX2_add_27 : decode cX2_add 27 = .ok (.getfield 18, 3) := by decide +kernel
theorem dX2_add_30 : decode cX2_add 30 = .ok (.lload_n 3, 1) := by decide +kernel
theorem dX2_add_31 : decode cX2_add 31 = .ok (.lastore, 1) := by decide +kernel
theorem dX2_add_32 : decode cX2_add 32 = .ok (.aload_n 0, 1) := by decide +kernel
theorem dX2_add_33 : decode cX2_add 33 = .ok (.dup, 1) := by decide +kernel
theorem dX2_add_34 : decode cX2_add 34 = .ok (.getfield 18, 3) := by decide +kernel
theorem dX2_add_37 : decode cX2_add 37 = .ok (.iconst 1, 1) := by decide +kernel
theorem dX2_add_38 : decode cX2_add 38 = .ok (.iadd, 1) := by decide +kernel
theorem dX2_add_39 : decode cX2_add 39 = .ok (.putfield 18, 3) := by decide +kernel
theorem dX2_add_42 : decode cX2_add 42 = .ok (.return_, 1) := by decide +kernel
theorem dX2_copyFrom_0 : decode cX2_copyFrom 0 = .ok (.aload_n 0, 1) := by decide +kernel
theorem dX2_copyFrom_1 : decode cX2_copyFrom 1 = .ok (.aload_n 1, 1) := by decide +kernel
theorem dX2_copyFrom_2 : decode cX2_copyFrom 2 = .ok (.getfield 22, 3) := by decide +kernel
theorem dX2_copyFrom_5 : decode cX2_copyFrom 5 = .ok (.invokevirtual 25, 3) := by decide +kernel
theorem dX2_copyFrom_8 : decode cX2_copyFrom 8 = .ok (.aload_n 0, 1) := by decide +kernel
theorem dX2_copyFrom_9 : decode cX2_copyFrom 9 = .ok (.aload_n 1, 1) := by decide +kernel
theorem dX2_copyFrom_10 : decode cX2_copyFrom 10 = .ok (.iconst 0, 1) := by decide +kernel
theorem dX2_copyFrom_11 : decode cX2_copyFrom 11 = .ok (.aload_n 1, 1) := by decide +kernel
theorem dX2_copyFrom_12 : decode cX2_copyFrom 12 = .ok (.getfield 18, 3) := by decide +kernel
theorem dX2_copyFrom_15 : decode cX2_copyFrom 15 = .ok (.invokevirtual 29, 3) := by decide +kernel
theorem dX2_copyFrom_18 : decode cX2_copyFrom 18 = .ok (.return_, 1) := by decide +kernel
theorem dX2_addParts_0 : decode cX2_addParts 0 = .ok (.iload_n 2, 1) := by decide +kernel
theorem dX2_addParts_1 : decode cX2_addParts 1 = .ok (.istore 4, 2) := by decide +kernel
theorem dX2_addParts_3 : decode cX2_addParts 3 = .ok (.iload 4, 2) := by decide +kernel
theorem dX2_addParts_5 : decode cX2_addParts 5 = .ok (.iload_n 3, 1) := by decide +kernel
theorem dX2_addParts_6 : decode cX2_addParts 6 = .ok (.if_icmp .ge 36, 3) := by decide +kernel
theorem dX2_addParts_9 : decode cX2_addParts 9 = .ok (.iload 4, 2) := by decide +kernel
theorem dX2_addParts_11 : decode cX2_addParts 11 = .ok (.aload_n 1, 1) := by decide +kernel
theorem dX2_addParts_12 : decode cX2_addParts 12 = .ok (.getfield 18, 3) := by decide +kernel
theorem dX2_addParts_15 : decode cX2_addParts 15 = .ok (.if_icmp .ge 27, 3) := by decide +kernel
theorem dX2_addParts_18 : decode cX2_addParts 18 = .ok (.aload_n 0, 1) := by decide +kernel
theorem dX2_addParts_19 : decode cX2_addParts 19 = .ok (.aload_n 1, 1) := by decide +kernel
theorem dX2_addParts_20 : decode cX2_addParts 20 = .ok (.getfield 9, 3) := by decide +kernel
theorem dX2_addParts_23 : decode cX2_addParts 23 = .ok (.iload 4, 2) := by decide +kernel
theorem dX2_addParts_25 : decode cX2_addParts 25 = .ok (.laload, 1) := by decide +kernel
theorem dX2_addParts_26 : decode cX2_addParts 26 = .ok (.aload_n 1, 1) := by decide +kernel
theorem dX2_addParts_27 : decode cX2_addParts 27 = .ok (.getfield 15, 3) := by decide +kernel
theorem dX2_addParts_30 : decode cX2_addParts 30 = .ok (.iload 4, 2) := by decide +kernel
theorem dX2_addParts_32 : decode cX2_addParts 32 = .ok (.laload, 1) := by decide +kernel
theorem dX2_addParts_33 : decode cX2_addParts 33 = .ok (.invokevirtual 33, 3) := by decide +kernel
theorem dX2_addParts_36 : decode cX2_addParts 36 = .ok (.iinc 4 1, 3) := by decide +kernel
theorem dX2_addParts_39 : decode cX2_addParts 39 = .ok (.goto (-36), 3) := by decide +kernel
theorem dX2_addParts_42 : decode cX2_addParts 42 = .ok (.return_, 1) := by decide +kernel
theorem dX2_stars_0 : decode cX2_stars 0 = .ok (.iconst 0, 1) := by decide +kernel
theorem dX2_stars_1 : decode cX2_stars 1 = .ok (.istore_n 1, 1) := by decide +kernel
theorem dX2_stars_2 : decode cX2_stars 2 = .ok (.iconst 0, 1) := by decide +kernel
theorem dX2_stars_3 : decode cX2_stars 3 = .ok (.istore_n 2, 1) := by decide +kernel
theorem dX2_stars_4 : decode cX2_stars 4 = .ok (.iload_n 2, 1) := by decide +kernel
theorem dX2_stars_5 : decode cX2_stars 5 = .ok (.aload_n 0, 1) := by decide +kernel
theorem dX2_stars_6 : decode cX2_stars 6 = .ok (.getfield 18, 3) := by decide +kernel
theorem dX2_stars_9 : decode cX2_stars 9 = .ok (.if_icmp .ge 25, 3) := by decide +kernel
theorem dX2_stars_12 : decode cX2_stars 12 = .ok (.aload_n 0, 1) := by decide +kernel
theorem dX2_stars_13 : decode cX2_stars 13 = .ok (.getfield 9, 3) := by decide +kernel
theorem dX2_stars_16 : decode cX2_stars 16 = .ok (.iload_n 2, 1) := by decide +kernel
theorem dX2_stars_17 : decode cX2_stars 17 = .ok (.laload, 1) := by decide +kernel
theorem dX2_stars_18 : decode cX2_stars 18 = .ok (.invokestatic 37, 3) := by decide +kernel
theorem dX2_stars_21 : decode cX2_stars 21 = .ok (.iconst 4, 1) := by decide +kernel
theorem dX2_stars_22 : decode cX2_stars 22 = .ok (.if_icmp .ne 6, 3) := by decide +kernel
theorem dX2_stars_25 : decode cX2_stars 25 = .ok (.iinc 1 1, 3) := by decide +kernel
theorem dX2_stars_28 : decode cX2_stars 28 = .ok (.iinc 2 1, 3) := by decide +kernel
theorem dX2_stars_31 : decode cX2_stars 31 = .ok (.goto (-27), 3) := by decide +kernel
theorem dX2_stars_34 : decode cX2_stars 34 = .ok (.iload_n 1, 1) := by decide +kernel
theorem dX2_stars_35 : decode cX2_stars 35 = .ok (.ireturn, 1) := by decide +kernel
theorem dX2_numbers_0 : decode cX2_numbers 0 = .ok (.iconst 0, 1) := by decide +kernel
theorem dX2_numbers_1 : decode cX2_numbers 1 = .ok (.istore_n 1, 1) := by decide +kernel
theorem dX2_numbers_2 : decode cX2_numbers 2 = .ok (.iconst 0, 1) := by decide +kernel
theorem dX2_numbers_3 : decode cX2_numbers 3 = .ok (.istore_n 2, 1) := by decide +kernel
theorem dX2_numbers_4 : decode cX2_numbers 4 = .ok (.iload_n 2, 1) := by decide +kernel
theorem dX2_numbers_5 : decode cX2_numbers 5 = .ok (.aload_n 0, 1) := by decide +kernel
theorem dX2_numbers_6 : decode cX2_numbers 6 = .ok (.getfield 18, 3) := by decide +kernel
theorem dX2_numbers_9 : decode cX2_numbers 9 = .ok (.if_icmp .ge 24, 3) := by decide +kernel
theorem dX2_numbers_12 : decode cX2_numbers 12 = .ok (.aload_n 0, 1) := by decide +kernel
theorem dX2_numbers_13 : decode cX2_numbers 13 = .ok (.getfield 9, 3) := by decide +kernel
theorem dX2_numbers_16 : decode cX2_numbers 16 = .ok (.iload_n 2, 1) := by decide +kernel
theorem dX2_numbers_17 : decode cX2_numbers 17 = .ok (.laload, 1) := by decide +kernel
theorem dX2_numbers_18 : decode cX2_numbers 18 = .ok (.invokestatic 41, 3) := by decide +kernel
theorem dX2_numbers_21 : decode cX2_numbers 21 = .ok (.ifCond .eq 6, 3) := by decide +kernel
theorem dX2_numbers_24 : decode cX2_numbers 24 = .ok (.iinc 1 1, 3) := by decide +kernel
theorem dX2_numbers_27 : decode cX2_numbers 27 = .ok (.iinc 2 1, 3) := by decide +kernel
theorem dX2_numbers_30 : decode cX2_numbers 30 = .ok (.goto (-26), 3) := by decide +kernel
theorem dX2_numbers_33 : decode cX2_numbers 33 = .ok (.iload_n 1, 1) := by decide +kernel
theorem dX2_numbers_34 : decode cX2_numbers 34 = .ok (.ireturn, 1) := by decide +kernel
theorem dX2_isSame_0 : decode cX2_isSame 0 = .ok (.aload_n 0, 1) := by decide +kernel
theorem dX2_isSame_1 : decode cX2_isSame 1 = .ok (.getfield 22, 3) := by decide +kernel
theorem dX2_isSame_4 : decode cX2_isSame 4 = .ok (.aload_n 1, 1) := by decide +kernel
theorem dX2_isSame_5 : decode cX2_isSame 5 = .ok (.getfield 22, 3) := by decide +kernel
theorem dX2_isSame_8 : decode cX2_isSame 8 = .ok (.if_icmp .ne 14, 3) := by decide +kernel
theorem dX2_isSame_11 : decode cX2_isSame 11 = .ok (.aload_n 0, 1) := by decide +kernel
theorem dX2_isSame_12 : decode cX2_isSame 12 = .ok (.getfield 18, 3) := by decide +kernel
theorem dX2_isSame_15 : decode cX2_isSame 15 = .ok (.aload_n 1, 1) := by decide +kernel
theorem dX2_isSame_16 : decode cX2_isSame 16 = .ok (.getfield 18, 3) := by decide +kernel
theorem dX2_isSame_19 : decode cX2_isSame 19 = .ok (.if_icmp .eq 5, 3) := by decide +kernel
theorem dX2_isSame_22 : decode cX2_isSame 22 = .ok (.iconst 0, 1) := by decide +kernel
theorem dX2_isSame_23 : decode cX2_isSame 23 = .ok (.ireturn, 1) := by decide +kernel
theorem dX2_isSame_24 : decode cX2_isSame 24 = .ok (.iconst 0, 1) := by decide +kernel
theorem dX2_isSame_25 : decode cX2_isSame 25 = .ok (.istore_n 2, 1) := by decide +kernel
theorem dX2_isSame_26 : decode cX2_isSame 26 = .ok (.iload_n 2, 1) := by decide +kernel
theorem dX2_isSame_27 : decode cX2_isSame 27 = .ok (.aload_n 0, 1) := by decide +kernel
theorem dX2_isSame_28 : decode cX2_isSame 28 = .ok (.getfield 18, 3) := by decide +kernel
theorem dX2_isSame_31 : decode cX2_isSame 31 = .ok (.if_icmp .ge 35, 3) := by decide +kernel
theorem dX2_isSame_34 : decode cX2_isSame 34 = .ok (.iload_n 2, 1) := by decide +kernel
theorem dX2_isSame_35 : decode cX2_isSame 35 = .ok (.aload_n 1, 1) := by decide +kernel
theorem dX2_isSame_36 : decode cX2_isSame 36 = .ok (.getfield 18, 3) := by decide +kernel
theorem dX2_isSame_39 : decode cX2_isSame 39 = .ok (.if_icmp .ge 27, 3) := by decide +kernel
theorem dX2_isSame_42 : decode cX2_isSame 42 = .ok (.aload_n 0, 1) := by decide +kernel
theorem dX2_isSame_43 : decode cX2_isSame 43 = .ok (.getfield 9, 3) := by decide +kernel
theorem dX2_isSame_46 : decode cX2_isSame 46 = .ok (.iload_n 2, 1) := by decide +kernel
theorem dX2_isSame_47 : decode cX2_isSame 47 = .ok (.laload, 1) := by decide +kernel
theorem dX2_isSame_48 : decode cX2_isSame 48 = .ok (.aload_n 1, 1) := by decide +kernel
theorem dX2_isSame_49 : decode cX2_isSame 49 = .ok (.getfield 9, 3) := by decide +kernel
theorem dX2_isSame_52 : decode cX2_isSame 52 = .ok (.iload_n 2, 1) := by decide +kernel
theorem dX2_isSame_53 : decode cX2_isSame 53 = .ok (.laload, 1) := by decide +kernel
theorem dX2_isSame_54 : decode cX2_isSame 54 = .ok (.lcmp, 1) := by decide +kernel
theorem dX2_isSame_55 : decode cX2_isSame 55 = .ok (.ifCond .eq 5, 3) := by decide +kernel
theorem dX2_isSame_58 : decode cX2_isSame 58 = .ok (.iconst 0, 1) := by decide +kernel
theorem dX2_isSame_59 : decode cX2_isSame 59 = .ok (.ireturn, 1) := by decide +kernel
theorem dX2_isSame_60 : decode cX2_isSame 60 = .ok (.iinc 2 1, 3) := by decide +kernel
theorem dX2_isSame_63 : decode cX2_isSame 63 = .ok (.goto (-37), 3) := by decide +kernel
theorem dX2_isSame_66 : decode cX2_isSame 66 = .ok (.iconst 1, 1) := by decide +kernel
theorem dX2_isSame_67 : decode cX2_isSame 67 = .ok (.ireturn, 1) := by decide +kernel
theorem dX2_behind_0 : decode cX2_behind 0 = .ok (.iconst 1, 1) := by decide +kernel
theorem dX2_behind_1 : decode cX2_behind 1 = .ok (.istore_n 2, 1) := by decide +kernel
theorem dX2_behind_2 : decode cX2_behind 2 = .ok (.iconst 0, 1) := by decide +kernel
theorem dX2_behind_3 : decode cX2_behind 3 = .ok (.iload_n 1, 1) := by decide +kernel
theorem dX2_behind_4 : decode cX2_behind 4 = .ok (.invokestatic 45, 3) := by decide +kernel
theorem dX2_behind_7 : decode cX2_behind 7 = .ok (.istore_n 3, 1) := by decide +kernel
theorem dX2_behind_8 : decode cX2_behind 8 = .ok (.iload_n 3, 1) := by decide +kernel
theorem dX2_behind_9 : decode cX2_behind 9 = .ok (.aload_n 0, 1) := by decide +kernel
theorem dX2_behind_10 : decode cX2_behind 10 = .ok (.getfield 18, 3) := by decide +kernel
theorem dX2_behind_13 : decode cX2_behind 13 = .ok (.if_icmp .ge 34, 3) := by decide +kernel
theorem dX2_behind_16 : decode cX2_behind 16 = .ok (.iload_n 2, 1) := by decide +kernel
theorem dX2_behind_17 : decode cX2_behind 17 = .ok (.ifCond .le 30, 3) := by decide +kernel
theorem dX2_behind_20 : decode cX2_behind 20 = .ok (.iload_n 2, 1) := by decide +kernel
theorem dX2_behind_21 : decode cX2_behind 21 = .ok (.aload_n 0, 1) := by decide +kernel
theorem dX2_behind_22 : decode cX2_behind 22 = .ok (.getfield 9, 3) := by decide +kernel
theorem dX2_behind_25 : decode cX2_behind 25 = .ok (.iload_n 3, 1) := by decide +kernel
theorem dX2_behind_26 : decode cX2_behind 26 = .ok (.laload, 1) := by decide +kernel
theorem dX2_behind_27 : decode cX2_behind 27 = .ok (.invokestatic 37, 3) := by decide +kernel
theorem dX2_behind_30 : decode cX2_behind 30 = .ok (.iconst 2, 1) := by decide +kernel
theorem dX2_behind_31 : decode cX2_behind 31 = .ok (.if_icmp .ne 7, 3) := by decide +kernel
theorem dX2_behind_34 : decode cX2_behind 34 = .ok (.iconst 1, 1) := by decide +kernel
theorem dX2_behind_35 : decode cX2_behind 35 = .ok (.goto 4, 3) := by decide +kernel
theorem dX2_behind_38 : decode cX2_behind 38 = .ok (.iconst (-1), 1) := by decide +kernel
theorem dX2_behind_39 : decode cX2_behind 39 = .ok (.iadd, 1) := by decide +kernel
theorem dX2_behind_40 : decode cX2_behind 40 = .ok (.istore_n 2, 1) := by decide +kernel
theorem dX2_behind_41 : decode cX2_behind 41 = .ok (.iinc 3 1, 3) := by decide +kernel
theorem dX2_behind_44 : decode cX2_behind 44 = .ok (.goto (-36), 3) := by decide +kernel
theorem dX2_behind_47 : decode cX2_behind 47 = .ok (.iload_n 3, 1) := by decide +kernel
theorem dX2_behind_48 : decode cX2_behind 48 = .ok (.ireturn, 1) := by decide +kernel
theorem dX2_growBeside_0 : decode cX2_growBeside 0 = .ok (.aload_n 2, 1) := by decide +kernel
theorem dX2_growBeside_1 : decode cX2_growBeside 1 = .ok (.aload_n 0, 1) := by decide +kernel
theorem dX2_growBeside_2 : decode cX2_growBeside 2 = .ok (.getfield 22, 3) := by decide +kernel
theorem dX2_growBeside_5 : decode cX2_growBeside 5 = .ok (.invokevirtual 25, 3) := by decide +kernel
theorem dX2_growBeside_8 : decode cX2_growBeside 8 = .ok (.iconst 0, 1) := by decide +kernel
theorem dX2_growBeside_9 : decode cX2_growBeside 9 = .ok (.istore_n 3, 1) := by decide +kernel
theorem dX2_growBeside_10 : decode cX2_growBeside 10 = .ok (.iconst 0, 1) := by decide +kernel
theorem dX2_growBeside_11 : decode cX2_growBeside 11 = .ok (.istore 4, 2) := by decide +kernel
theorem dX2_growBeside_13 : decode cX2_growBeside 13 = .ok (.iconst 0, 1) := by decide +kernel
theorem dX2_growBeside_14 : decode cX2_growBeside 14 = .ok (.istore 5, 2) := by decide +kernel
theorem dX2_growBeside_16 : decode cX2_growBeside 16 = .ok (.iconst 0, 1) := by decide +kernel
theorem dX2_growBeside_17 : decode cX2_growBeside 17 = .ok (.istore 6, 2) := by decide +kernel
theorem dX2_growBeside_19 : decode cX2_growBeside 19 = .ok (.iload 6, 2) := by decide +kernel
theorem dX2_growBeside_21 : decode cX2_growBeside 21 = .ok (.aload_n 0, 1) := by decide +kernel
theorem dX2_growBeside_22 : decode cX2_growBeside 22 = .ok (.getfield 9, 3) := by decide +kernel
theorem dX2_growBeside_25 : decode cX2_growBeside 25 = .ok (.arraylength, 1) := by decide +kernel
theorem dX2_growBeside_26 : decode cX2_growBeside 26 = .ok (.if_icmp .ge 151, 3) := by decide +kernel
theorem dX2_growBeside_29 : decode cX2_growBeside 29 = .ok (.iload 4, 2) := by decide +kernel
theorem dX2_growBeside_31 : decode cX2_growBeside 31 = .ok (.aload_n 0, 1) := by decide +kernel
theorem dX2_growBeside_32 : decode cX2_growBeside 32 = .ok (.getfield 18, 3) := by decide +kernel
theorem dX2_growBeside_35 : decode cX2_growBeside 35 = .ok (.if_icmp .ge 142, 3) := by decide +kernel
theorem dX2_growBeside_38 : decode cX2_growBeside 38 = .ok (.iload 5, 2) := by decide +kernel
theorem dX2_growBeside_40 : decode cX2_growBeside 40 = .ok (.aload_n 1, 1) := by decide +kernel
theorem dX2_growBeside_41 : decode cX2_growBeside 41 = .ok (.getfield 18, 3) := by decide +kernel
theorem dX2_growBeside_44 : decode cX2_growBeside 44 = .ok (.if_icmp .ge 133, 3) := by decide +kernel
theorem dX2_growBeside_47 : decode cX2_growBeside 47 = .ok (.aload_n 0, 1) := by decide +kernel
theorem dX2_growBeside_48 : decode cX2_growBeside 48 = .ok (.iload 4, 2) := by decide +kernel
theorem dX2_growBeside_50 : decode cX2_growBeside 50 = .ok (.invokevirtual 51, 3) := by decide +kernel
theorem dX2_growBeside_53 : decode cX2_growBeside 53 = .ok (.istore 7, 2) := by decide +kernel
theorem dX2_growBeside_55 : decode cX2_growBeside 55 = .ok (.aload_n 0, 1) := by decide +kernel
theorem dX2_growBeside_56 : decode cX2_growBeside 56 = .ok (.getfield 9, 3) := by decide +kernel
theorem dX2_growBeside_59 : decode cX2_growBeside 59 = .ok (.iload 4, 2) := by decide +kernel
theorem dX2_growBeside_61 : decode cX2_growBeside 61 = .ok (.laload, 1) := by decide +kernel
theorem dX2_growBeside_62 : decode cX2_growBeside 62 = .ok (.ldc2_w 55, 3) := by decide +kernel
theorem dX2_growBeside_65 : decode cX2_growBeside 65 = .ok (.lcmp, 1) := by decide +kernel
theorem dX2_growBeside_66 : decode cX2_growBeside 66 = .ok (.ifCond .ne 44, 3) := by decide +kernel
theorem dX2_growBeside_69 : decode cX2_growBeside 69 = .ok (.aload_n 1, 1) := by decide +kernel
theorem dX2_growBeside_70 : decode cX2_growBeside 70 = .ok (.getfield 9, 3) := by decide +kernel
theorem dX2_growBeside_73 : decode cX2_growBeside 73 = .ok (.iload 5, 2) := by decide +kernel
theorem dX2_growBeside_75 : decode cX2_growBeside 75 = .ok (.laload, 1) := by decide +kernel
theorem dX2_growBeside_76 : decode cX2_growBeside 76 = .ok (.ldc2_w 55, 3) := by decide +kernel
theorem dX2_growBeside_79 : decode cX2_growBeside 79 = .ok (.lcmp, 1) := by decide +kernel
theorem dX2_growBeside_80 : decode cX2_growBeside 80 = .ok (.ifCond .ne 30, 3) := by decide +kernel
theorem dX2_growBeside_83 : decode cX2_growBeside 83 = .ok (.aload_n 2, 1) := by decide +kernel
theorem dX2_growBeside_84 : decode cX2_growBeside 84 = .ok (.aload_n 0, 1) := by decide +kernel
theorem dX2_growBeside_85 : decode cX2_growBeside 85 = .ok (.getfield 9, 3) := by decide +kernel
theorem dX2_growBeside_88 : decode cX2_growBeside 88 = .ok (.iload 4, 2) := by decide +kernel
theorem dX2_growBeside_90 : decode cX2_growBeside 90 = .ok (.laload, 1) := by decide +kernel
theorem dX2_growBeside_91 : decode cX2_growBeside 91 = .ok (.aload_n 0, 1) := by decide +kernel
theorem dX2_growBeside_92 : decode cX2_growBeside 92 = .ok (.getfield 15, 3) := by decide +kernel
theorem dX2_growBeside_95 : decode cX2_growBeside 95 = .ok (.iload 4, 2) := by decide +kernel
theorem dX2_growBeside_97 : decode cX2_growBeside 97 = .ok (.laload, 1) := by decide +kernel
theorem dX2_growBeside_98 : decode cX2_growBeside 98 = .ok (.invokevirtual 33, 3) := by decide +kernel
theorem dX2_growBeside_101 : decode cX2_growBeside 101 = .ok (.iinc 4 1, 3) := by decide +kernel
theorem dX2_growBeside_104 : decode cX2_growBeside 104 = .ok (.iinc 5 1, 3) := by decide +kernel
theorem dX2_growBeside_107 : decode cX2_growBeside 107 = .ok (.goto 64, 3) := by decide +kernel
theorem dX2_growBeside_110 : decode cX2_growBeside 110 = .ok (.aload_n 0, 1) := by decide +kernel
theorem dX2_growBeside_111 : decode cX2_growBeside 111 = .ok (.getfield 9, 3) := by decide +kernel
theorem dX2_growBeside_114 : decode cX2_growBeside 114 = .ok (.iload 4, 2) := by decide +kernel
theorem dX2_growBeside_116 : decode cX2_growBeside 116 = .ok (.laload, 1) := by decide +kernel
theorem dX2_growBeside_117 : decode cX2_growBeside 117 = .ok (.aload_n 1, 1) := by decide +kernel
theorem dX2_growBeside_118 : decode cX2_growBeside 118 = .ok (.getfield 9, 3) := by decide +kernel
theorem dX2_growBeside_121 : decode cX2_growBeside 121 = .ok (.iload 5, 2) := by decide +kernel
theorem dX2_growBeside_123 : decode cX2_growBeside 123 = .ok (.laload, 1) := by decide +kernel
theorem dX2_growBeside_124 : decode cX2_growBeside 124 = .ok (.invokestatic 57, 3) := by decide +kernel
theorem dX2_growBeside_127 : decode cX2_growBeside 127 = .ok (.ifCond .eq 23, 3) := by decide +kernel
theorem dX2_growBeside_130 : decode cX2_growBeside 130 = .ok (.aload_n 2, 1) := by decide +kernel
theorem dX2_growBeside_131 : decode cX2_growBeside 131 = .ok (.ldc2_w 61, 3) := by decide +kernel
theorem dX2_growBeside_134 : decode cX2_growBeside 134 = .ok (.aload_n 0, 1) := by decide +kernel
theorem dX2_growBeside_135 : decode cX2_growBeside 135 = .ok (.getfield 15, 3) := by decide +kernel
theorem dX2_growBeside_138 : decode cX2_growBeside 138 = .ok (.iload 4, 2) := by decide +kernel
theorem dX2_growBeside_140 : decode cX2_growBeside 140 = .ok (.laload, 1) := by decide +kernel
theorem dX2_growBeside_141 : decode cX2_growBeside 141 = .ok (.invokevirtual 33, 3) := by decide +kernel
theorem dX2_growBeside_144 : decode cX2_growBeside 144 = .ok (.iinc 3 1, 3) := by decide +kernel
theorem dX2_growBeside_147 : decode cX2_growBeside 147 = .ok (.goto 12, 3) := by decide +kernel
theorem dX2_growBeside_150 : decode cX2_growBeside 150 = .ok (.aload_n 2, 1) := by decide +kernel
theorem dX2_growBeside_151 : decode cX2_growBeside 151 = .ok (.aload_n 0, 1) := by decide +kernel
theorem dX2_growBeside_152 : decode cX2_growBeside 152 = .ok (.iload 4, 2) := by decide +kernel
theorem dX2_growBeside_154 : decode cX2_growBeside 154 = .ok (.iload 7, 2) := by decide +kernel
theorem dX2_growBeside_156 : decode cX2_growBeside 156 = .ok (.invokevirtual 29, 3) := by decide +kernel
theorem dX2_growBeside_159 : decode cX2_growBeside 159 = .ok (.iload 7, 2) := by decide +kernel
theorem dX2_growBeside_161 : decode cX2_growBeside 161 = .ok (.istore 4, 2) := by decide +kernel
theorem dX2_growBeside_163 : decode cX2_growBeside 163 = .ok (.aload_n 1, 1) := by decide +kernel
theorem dX2_growBeside_164 : decode cX2_growBeside 164 = .ok (.iload 5, 2) := by decide +kernel
theorem dX2_growBeside_166 : decode cX2_growBeside 166 = .ok (.invokevirtual 51, 3) := by decide +kernel
theorem dX2_growBeside_169 : decode cX2_growBeside 169 = .ok (.istore 5, 2) := by decide +kernel
theorem dX2_growBeside_171 : decode cX2_growBeside 171 = .ok (.iinc 6 1, 3) := by decide +kernel
theorem dX2_growBeside_174 : decode cX2_growBeside 174 = .ok (.goto (-155), 3) := by decide +kernel
theorem dX2_growBeside_177 : decode cX2_growBeside 177 = .ok (.iload_n 3, 1) := by decide +kernel
theorem dX2_growBeside_178 : decode cX2_growBeside 178 = .ok (.ireturn, 1) := by decide +kernel
theorem dX2_isGrown_0 : decode cX2_isGrown 0 = .ok (.lload_n 2, 1) := by decide +kernel
theorem dX2_isGrown_1 : decode cX2_isGrown 1 = .ok (.invokestatic 41, 3) := by decide +kernel
theorem dX2_isGrown_4 : decode cX2_isGrown 4 = .ok (.ifCond .ne 5, 3) := by decide +kernel
theorem dX2_isGrown_7 : decode cX2_isGrown 7 = .ok (.iconst 0, 1) := by decide +kernel
theorem dX2_isGrown_8 : decode cX2_isGrown 8 = .ok (.ireturn, 1) := by decide +kernel
theorem dX2_isGrown_9 : decode cX2_isGrown 9 = .ok (.lload_n 0, 1) := by decide +kernel
theorem dX2_isGrown_10 : decode cX2_isGrown 10 = .ok (.ldc2_w 55, 3) := by decide +kernel
theorem dX2_isGrown_13 : decode cX2_isGrown 13 = .ok (.lcmp, 1) := by decide +kernel
theorem dX2_isGrown_14 : decode cX2_isGrown 14 = .ok (.ifCond .ne 5, 3) := by decide +kernel
theorem dX2_isGrown_17 : decode cX2_isGrown 17 = .ok (.iconst 1, 1) := by decide +kernel
theorem dX2_isGrown_18 : decode cX2_isGrown 18 = .ok (.ireturn, 1) := by decide +kernel
theorem dX2_isGrown_19 : decode cX2_isGrown 19 = .ok (.lload_n 0, 1) := by decide +kernel
theorem dX2_isGrown_20 : decode cX2_isGrown 20 = .ok (.invokestatic 41, 3) := by decide +kernel
theorem dX2_isGrown_23 : decode cX2_isGrown 23 = .ok (.ifCond .eq 9, 3) := by decide +kernel
theorem dX2_isGrown_26 : decode cX2_isGrown 26 = .ok (.lload_n 0, 1) := by decide +kernel
theorem dX2_isGrown_27 : decode cX2_isGrown 27 = .ok (.lload_n 2, 1) := by decide +kernel
theorem dX2_isGrown_28 : decode cX2_isGrown 28 = .ok (.lcmp, 1) := by decide +kernel
theorem dX2_isGrown_29 : decode cX2_isGrown 29 = .ok (.ifCond .ne 5, 3) := by decide +kernel
theorem dX2_isGrown_32 : decode cX2_isGrown 32 = .ok (.iconst 0, 1) := by decide +kernel
theorem dX2_isGrown_33 : decode cX2_isGrown 33 = .ok (.ireturn, 1) := by decide +kernel
theorem dX2_isGrown_34 : decode cX2_isGrown 34 = .ok (.lload_n 0, 1) := by decide +kernel
theorem dX2_isGrown_35 : decode cX2_isGrown 35 = .ok (.invokestatic 63, 3) := by decide +kernel
theorem dX2_isGrown_38 : decode cX2_isGrown 38 = .ok (.ldc 66, 2) := by decide +kernel
theorem dX2_isGrown_40 : decode cX2_isGrown 40 = .ok (.iand, 1) := by decide +kernel
theorem dX2_isGrown_41 : decode cX2_isGrown 41 = .ok (.istore 4, 2) := by decide +kernel
theorem dX2_isGrown_43 : decode cX2_isGrown 43 = .ok (.iload 4, 2) := by decide +kernel
theorem dX2_isGrown_45 : decode cX2_isGrown 45 = .ok (.lload_n 2, 1) := by decide +kernel
theorem dX2_isGrown_46 : decode cX2_isGrown 46 = .ok (.invokestatic 63, 3) := by decide +kernel
theorem dX2_isGrown_49 : decode cX2_isGrown 49 = .ok (.ldc 66, 2) := by decide +kernel
theorem dX2_isGrown_51 : decode cX2_isGrown 51 = .ok (.iand, 1) := by decide +kernel
theorem dX2_isGrown_52 : decode cX2_isGrown 52 = .ok (.invokestatic 67, 3) := by decide +kernel
theorem dX2_isGrown_55 : decode cX2_isGrown 55 = .ok (.ifCond .ne 7, 3) := by decide +kernel
theorem dX2_isGrown_58 : decode cX2_isGrown 58 = .ok (.iconst 1, 1) := by decide +kernel
theorem dX2_isGrown_59 : decode cX2_isGrown 59 = .ok (.goto 4, 3) := by decide +kernel
theorem dX2_isGrown_62 : decode cX2_isGrown 62 = .ok (.iconst 0, 1) := by decide +kernel
theorem dX2_isGrown_63 : decode cX2_isGrown 63 = .ok (.ireturn, 1) := by decide +kernel
theorem dX2_letAllGo_0 : decode cX2_letAllGo 0 = .ok (.aload_n 1, 1) := by decide +kernel
theorem dX2_letAllGo_1 : decode cX2_letAllGo 1 = .ok (.aload_n 0, 1) := by decide +kernel
theorem dX2_letAllGo_2 : decode cX2_letAllGo 2 = .ok (.getfield 22, 3) := by decide +kernel
theorem dX2_letAllGo_5 : decode cX2_letAllGo 5 = .ok (.invokevirtual 25, 3) := by decide +kernel
theorem dX2_letAllGo_8 : decode cX2_letAllGo 8 = .ok (.iconst 0, 1) := by decide +kernel
theorem dX2_letAllGo_9 : decode cX2_letAllGo 9 = .ok (.istore_n 2, 1) := by decide +kernel
theorem dX2_letAllGo_10 : decode cX2_letAllGo 10 = .ok (.iload_n 2, 1) := by decide +kernel
theorem dX2_letAllGo_11 : decode cX2_letAllGo 11 = .ok (.aload_n 0, 1) := by decide +kernel
theorem dX2_letAllGo_12 : decode cX2_letAllGo 12 = .ok (.getfield 18, 3) := by decide +kernel
theorem dX2_letAllGo_15 : decode cX2_letAllGo 15 = .ok (.if_icmp .ge 31, 3) := by decide +kernel
theorem dX2_letAllGo_18 : decode cX2_letAllGo 18 = .ok (.aload_n 1, 1) := by decide +kernel
theorem dX2_letAllGo_19 : decode cX2_letAllGo 19 = .ok (.ldc2_w 61, 3) := by decide +kernel
theorem dX2_letAllGo_22 : decode cX2_letAllGo 22 = .ok (.aload_n 0, 1) := by decide +kernel
theorem dX2_letAllGo_23 : decode cX2_letAllGo 23 = .ok (.getfield 15, 3) := by decide +kernel
theorem dX2_letAllGo_26 : decode cX2_letAllGo 26 = .ok (.iload_n 2, 1) := by decide +kernel
theorem dX2_letAllGo_27 : decode cX2_letAllGo 27 = .ok (.laload, 1) := by decide +kernel
theorem dX2_letAllGo_28 : decode cX2_letAllGo 28 = .ok (.invokevirtual 33, 3) := by decide +kernel
theorem dX2_letAllGo_31 : decode cX2_letAllGo 31 = .ok (.aload_n 0, 1) := by decide +kernel
theorem dX2_letAllGo_32 : decode cX2_letAllGo 32 = .ok (.iload_n 2, 1) := by decide +kernel
theorem dX2_letAllGo_33 : decode cX2_letAllGo 33 = .ok (.invokevirtual 51, 3) := by decide +kernel
theorem dX2_letAllGo_36 : decode cX2_letAllGo 36 = .ok (.iload_n 2, 1) := by decide +kernel
theorem dX2_letAllGo_37 : decode cX2_letAllGo 37 = .ok (.iconst 1, 1) := by decide +kernel
theorem dX2_letAllGo_38 : decode cX2_letAllGo 38 = .ok (.iadd, 1) := by decide +kernel
theorem dX2_letAllGo_39 : decode cX2_letAllGo 39 = .ok (.invokestatic 45, 3) := by decide +kernel
theorem dX2_letAllGo_42 : decode cX2_letAllGo 42 = .ok (.istore_n 2, 1) := by decide +kernel
theorem dX2_letAllGo_43 : decode cX2_letAllGo 43 = .ok (.goto (-33), 3) := by decide +kernel
theorem dX2_letAllGo_46 : decode cX2_letAllGo 46 = .ok (.return_, 1) := by decide +kernel
theorem dX3_init_0 : decode cX3_init 0 = .ok (.aload_n 0, 1) := by decide +kernel
theorem dX3_init_1 : decode cX3_init 1 = .ok (.invokespecial 5, 3) := by decide +kernel
theorem dX3_init_4 : decode cX3_init 4 = .ok (.aload_n 0, 1) := by decide +kernel
theorem dX3_init_5 : decode cX3_init 5 = .ok (.sipush 432, 3) := by decide +kernel
theorem dX3_init_8 : decode cX3_init 8 = .ok (.newarray .int, 2) := by decide +kernel
theorem dX3_init_10 : decode cX3_init 10 = .ok (.putfield 11, 3) := by decide +kernel
theorem dX3_init_13 : decode cX3_init 13 = .ok (.aload_n 0, 1) := by decide +kernel
theorem dX3_init_14 : decode cX3_init 14 = .ok (.bipush 72, 2) := by decide +kernel
theorem dX3_init_16 : decode cX3_init 16 = .ok (.newarray .int, 2) := by decide +kernel
theorem dX3_init_18 : decode cX3_init 18 = .ok (.putfield 15, 3) := by decide +kernel
theorem dX3_init_21 : decode cX3_init 21 = .ok (.aload_n 0, 1) := by decide +kernel
theorem dX3_init_22 : decode cX3_init 22 = .ok (.bipush 72, 2) := by decide +kernel
theorem dX3_init_24 : decode cX3_init 24 = .ok (.newarray .int, 2) := by decide +kernel
theorem dX3_init_26 : decode cX3_init 26 = .ok (.putfield 18, 3) := by decide +kernel
theorem dX3_init_29 : decode cX3_init 29 = .ok (.aload_n 0, 1) := by decide +kernel
theorem dX3_init_30 : decode cX3_init 30 = .ok (.sipush 2472, 3) := by decide +kernel
theorem dX3_init_33 : decode cX3_init 33 = .ok (.newarray .int, 2) := by decide +kernel
theorem dX3_init_35 : decode cX3_init 35 = .ok (.putfield 21, 3) := by decide +kernel
theorem dX3_init_38 : decode cX3_init 38 = .ok (.aload_n 0, 1) := by decide +kernel
theorem dX3_init_39 : decode cX3_init 39 = .ok (.sipush 2472, 3) := by decide +kernel
theorem dX3_init_42 : decode cX3_init 42 = .ok (.newarray .int, 2) := by decide +kernel
theorem dX3_init_44 : decode cX3_init 44 = .ok (.putfield 24, 3) := by decide +kernel
theorem dX3_init_47 : decode cX3_init 47 = .ok (.aload_n 0, 1) := by decide +kernel
theorem dX3_init_48 : decode cX3_init 48 = .ok (.sipush 2472, 3) := by decide +kernel
theorem dX3_init_51 : decode cX3_init 51 = .ok (.newarray .int, 2) := by decide +kernel
theorem dX3_init_53 : decode cX3_init 53 = .ok (.putfield 27, 3) := by decide +kernel
theorem dX3_init_56 : decode cX3_init 56 = .ok (.aload_n 0, 1) := by decide +kernel
theorem dX3_init_57 : decode cX3_init 57 = .ok (.iconst 0, 1) := by decide +kernel
theorem dX3_init_58 : decode cX3_init 58 = .ok (.putfield 30, 3) := by decide +kernel
theorem dX3_init_61 : decode cX3_init 61 = .ok (.aload_n 0, 1) := by decide +kernel
theorem dX3_init_62 : decode cX3_init 62 = .ok (.iconst 0, 1) := by decide +kernel
theorem dX3_init_63 : decode cX3_init 63 = .ok (.putfield 34, 3) := by decide +kernel
theorem dX3_init_66 : decode cX3_init 66 = .ok (.aload_n 0, 1) := by decide +kernel
theorem dX3_init_67 : decode cX3_init 67 = .ok (.iconst 0, 1) := by decide +kernel
theorem dX3_init_68 : decode cX3_init 68 = .ok (.putfield 37, 3) := by decide +kernel
theorem dX3_init_71 : decode cX3_init 71 = .ok (.iconst 0, 1) := by decide +kernel
theorem dX3_init_72 : decode cX3_init 72 = .ok (.istore_n 1, 1) := by decide +kernel
theorem dX3_init_73 : decode cX3_init 73 = .ok (.iload_n 1, 1) := by decide +kernel
theorem dX3_init_74 : decode cX3_init 74 = .ok (.bipush 72, 2) := by decide +kernel
theorem dX3_init_76 : decode cX3_init 76 = .ok (.if_icmp .ge 16, 3) := by decide +kernel
theorem dX3_init_79 : decode cX3_init 79 = .ok (.aload_n 0, 1) := by decide +kernel
theorem dX3_init_80 : decode cX3_init 80 = .ok (.getfield 18, 3) := by decide +kernel
theorem dX3_init_83 : decode cX3_init 83 = .ok (.iload_n 1, 1) := by decide +kernel
theorem dX3_init_84 : decode cX3_init 84 = .ok (.iconst (-1), 1) := by decide +kernel
theorem dX3_init_85 : decode cX3_init 85 = .ok (.iastore, 1) := by decide +kernel
theorem dX3_init_86 : decode cX3_init 86 = .ok (.iinc 1 1, 3) := by decide +kernel
theorem dX3_init_89 : decode cX3_init 89 = .ok (.goto (-16), 3) := by decide +kernel
theorem dX3_init_92 : decode cX3_init 92 = .ok (.return_, 1) := by decide +kernel
theorem dX3_clear_0 : decode cX3_clear 0 = .ok (.aload_n 0, 1) := by decide +kernel
theorem dX3_clear_1 : decode cX3_clear 1 = .ok (.iconst 0, 1) := by decide +kernel
theorem dX3_clear_2 : decode cX3_clear 2 = .ok (.putfield 30, 3) := by decide +kernel
theorem dX3_clear_5 : decode cX3_clear 5 = .ok (.aload_n 0, 1) := by decide +kernel
theorem dX3_clear_6 : decode cX3_clear 6 = .ok (.iconst 0, 1) := by decide +kernel
theorem dX3_clear_7 : decode cX3_clear 7 = .ok (.putfield 34, 3) := by decide +kernel
theorem dX3_clear_10 : decode cX3_clear 10 = .ok (.aload_n 0, 1) := by decide +kernel
theorem dX3_clear_11 : decode cX3_clear 11 = .ok (.iconst 0, 1) := by decide +kernel
theorem dX3_clear_12 : decode cX3_clear 12 = .ok (.putfield 37, 3) := by decide +kernel
theorem dX3_clear_15 : decode cX3_clear 15 = .ok (.iconst 0, 1) := by decide +kernel
theorem dX3_clear_16 : decode cX3_clear 16 = .ok (.istore_n 1, 1) := by decide +kernel
theorem dX3_clear_17 : decode cX3_clear 17 = .ok (.iload_n 1, 1) := by decide +kernel
theorem dX3_clear_18 : decode cX3_clear 18 = .ok (.bipush 72, 2) := by decide +kernel
theorem dX3_clear_20 : decode cX3_clear 20 = .ok (.if_icmp .ge 16, 3) := by decide +kernel
theorem dX3_clear_23 : decode cX3_clear 23 = .ok (.aload_n 0, 1) := by decide +kernel
theorem dX3_clear_24 : decode cX3_clear 24 = .ok (.getfield 18, 3) := by decide +kernel
theorem dX3_clear_27 : decode cX3_clear 27 = .ok (.iload_n 1, 1) := by decide +kernel
theorem dX3_clear_28 : decode cX3_clear 28 = .ok (.iconst (-1), 1) := by decide +kernel
theorem dX3_clear_29 : decode cX3_clear 29 = .ok (.iastore, 1) := by decide +kernel
theorem dX3_clear_30 : decode cX3_clear 30 = .ok (.iinc 1 1, 3) := by decide +kernel
theorem dX3_clear_33 : decode cX3_clear 33 = .ok (.goto (-16), 3) := by decide +kernel
theorem dX3_clear_36 : decode cX3_clear 36 = .ok (.return_, 1) := by decide +kernel
theorem dX3_begin_0 : decode cX3_begin 0 = .ok (.iload_n 1, 1) := by decide +kernel
theorem dX3_begin_1 : decode cX3_begin 1 = .ok (.ifCond .lt 18, 3) := by decide +kernel
theorem dX3_begin_4 : decode cX3_begin 4 = .ok (.iload_n 1, 1) := by decide +kernel
theorem dX3_begin_5 : decode cX3_begin 5 = .ok (.bipush 72, 2) := by decide +kernel
theorem dX3_begin_7 : decode cX3_begin 7 = .ok (.if_icmp .ge 12, 3) := by decide +kernel
theorem dX3_begin_10 : decode cX3_begin 10 = .ok (.aload_n 0, 1) := by decide +kernel
theorem dX3_begin_11 : decode cX3_begin 11 = .ok (.getfield 30, 3) := by decide +kernel
theorem dX3_begin_14 : decode cX3_begin 14 = .ok (.bipush 72, 2) := by decide +kernel
theorem dX3_begin_16 : decode cX3_begin 16 = .ok (.if_icmp .lt 4, 3) := by decide +kernel
theorem dX3_begin_19 : decode cX3_begin 19 = .ok (.return_, 1) := by decide +kernel
theorem dX3_begin_20 : decode cX3_begin 20 = .ok (.iconst 0, 1) := by decide +kernel
theorem dX3_begin_21 : decode cX3_begin 21 = .ok (.istore_n 2, 1) := by decide +kernel
theorem dX3_begin_22 : decode cX3_begin 22 = .ok (.iload_n 2, 1) := by decide +kernel
theorem dX3_begin_23 : decode cX3_begin 23 = .ok (.bipush 6, 2) := by decide +kernel
theorem dX3_begin_25 : decode cX3_begin 25 = .ok (.if_icmp .ge 24, 3) := by decide +kernel
theorem dX3_begin_28 : decode cX3_begin 28 = .ok (.aload_n 0, 1) := by decide +kernel
theorem dX3_begin_29 : decode cX3_begin 29 = .ok (.getfield 11, 3) := by decide +kernel
theorem dX3_begin_32 : decode cX3_begin 32 = .ok (.aload_n 0, 1) := by decide +kernel
theorem dX3_begin_33 : decode cX3_begin 33 = .ok (.getfield 30, 3) := by decide +kernel
theorem dX3_begin_36 : decode cX3_begin 36 = .ok (.bipush 6, 2) := by decide +kernel
theorem dX3_begin_38 : decode cX3_begin 38 = .ok (.imul, 1) := by decide +kernel
theorem dX3_begin_39 : decode cX3_begin 39 = .ok (.iload_n 2, 1) := by decide +kernel
theorem dX3_begin_40 : decode cX3_begin 40 = .ok (.iadd, 1) := by decide +kernel
theorem dX3_begin_41 : decode cX3_begin 41 = .ok (.iconst 0, 1) := by decide +kernel
theorem dX3_begin_42 : decode cX3_begin 42 = .ok (.iastore, 1) := by decide +kernel
theorem dX3_begin_43 : decode cX3_begin 43 = .ok (.iinc 2 1, 3) := by decide +kernel
theorem dX3_begin_46 : decode cX3_begin 46 = .ok (.goto (-24), 3) := by decide +kernel
theorem dX3_begin_49 : decode cX3_begin 49 = .ok (.aload_n 0, 1) := by decide +kernel
theorem dX3_begin_50 : decode cX3_begin 50 = .ok (.getfield 11, 3) := by decide +kernel
theorem dX3_begin_53 : decode cX3_begin 53 = .ok (.aload_n 0, 1) := by decide +kernel
theorem dX3_begin_54 : decode cX3_begin 54 = .ok (.getfield 30, 3) := by decide +kernel
theorem dX3_begin_57 : decode cX3_begin 57 = .ok (.bipush 6, 2) := by decide +kernel
theorem dX3_begin_59 : decode cX3_begin 59 = .ok (.imul, 1) := by decide +kernel
theorem dX3_begin_60 : decode cX3_begin 60 = .ok (.iload_n 1, 1) := by decide +kernel
theorem dX3_begin_61 : decode cX3_begin 61 = .ok (.bipush 6, 2) := by decide +kernel
theorem dX3_begin_63 : decode cX3_begin 63 = .ok (.idiv, 1) := by decide +kernel
theorem dX3_begin_64 : decode cX3_begin 64 = .ok (.iconst 1, 1) := by decide +kernel
theorem dX3_begin_65 : decode cX3_begin 65 = .ok (.iadd, 1) := by decide +kernel
theorem dX3_begin_66 : decode cX3_begin 66 = .ok (.iastore, 1) := by decide +kernel
theorem dX3_begin_67 : decode cX3_begin 67 = .ok (.aload_n 0, 1) := by decide +kernel
theorem dX3_begin_68 : decode cX3_begin 68 = .ok (.getfield 11, 3) := by decide +kernel
theorem dX3_begin_71 : decode cX3_begin 71 = .ok (.aload_n 0, 1) := by decide +kernel
theorem dX3_begin_72 : decode cX3_begin 72 = .ok (.getfield 30, 3) := by decide +kernel
theorem dX3_begin_75 : decode cX3_begin 75 = .ok (.bipush 6, 2) := by decide +kernel
theorem dX3_begin_77 : decode cX3_begin 77 = .ok (.imul, 1) := by decide +kernel
theorem dX3_begin_78 : decode cX3_begin 78 = .ok (.iconst 1, 1) := by decide +kernel
theorem dX3_begin_79 : decode cX3_begin 79 = .ok (.iadd, 1) := by decide +kernel
theorem dX3_begin_80 : decode cX3_begin 80 = .ok (.iload_n 1, 1) := by decide +kernel
theorem dX3_begin_81 : decode cX3_begin 81 = .ok (.bipush 6, 2) := by decide +kernel
theorem dX3_begin_83 : decode cX3_begin 83 = .ok (.irem, 1) := by decide +kernel
theorem dX3_begin_84 : decode cX3_begin 84 = .ok (.iastore, 1) := by decide +kernel
theorem dX3_begin_85 : decode cX3_begin 85 = .ok (.aload_n 0, 1) := by decide +kernel
theorem dX3_begin_86 : decode cX3_begin 86 = .ok (.getfield 15, 3) := by decide +kernel
theorem dX3_begin_89 : decode cX3_begin 89 = .ok (.aload_n 0, 1) := by decide +kernel
theorem dX3_begin_90 : decode cX3_begin 90 = .ok (.getfield 30, 3) := by decide +kernel
theorem dX3_begin_93 : decode cX3_begin 93 = .ok (.aload_n 0, 1) := by decide +kernel
theorem dX3_begin_94 : decode cX3_begin 94 = .ok (.getfield 37, 3) := by decide +kernel
theorem dX3_begin_97 : decode cX3_begin 97 = .ok (.iastore, 1) := by decide +kernel
theorem dX3_begin_98 : decode cX3_begin 98 = .ok (.aload_n 0, 1) := by decide +kernel
theorem dX3_begin_99 : decode cX3_begin 99 = .ok (.getfield 18, 3) := by decide +kernel
theorem dX3_begin_102 : decode cX3_begin 102 = .ok (.iload_n 1, 1) := by decide +kernel
theorem dX3_begin_103 : decode cX3_begin 103 = .ok (.aload_n 0, 1) := by decide +kernel
theorem dX3_begin_104 : decode cX3_begin 104 = .ok (.getfield 30, 3) := by decide +kernel
theorem dX3_begin_107 : decode cX3_begin 107 = .ok (.iastore, 1) := by decide +kernel
theorem dX3_begin_108 : decode cX3_begin 108 = .ok (.aload_n 0, 1) := by decide +kernel
theorem dX3_begin_109 : decode cX3_begin 109 = .ok (.dup, 1) := by decide +kernel
theorem dX3_begin_110 : decode cX3_begin 110 = .ok (.getfield 30, 3) := by decide +kernel
theorem dX3_begin_113 : decode cX3_begin 113 = .ok (.iconst 1, 1) := by decide +kernel
theorem dX3_begin_114 : decode cX3_begin 114 = .ok (.iadd, 1) := by decide +kernel
theorem dX3_begin_115 : decode cX3_begin 115 = .ok (.putfield 30, 3) := by decide +kernel
theorem dX3_begin_118 : decode cX3_begin 118 = .ok (.return_, 1) := by decide +kernel
theorem dX3_count_0 : decode cX3_count 0 = .ok (.aload_n 0, 1) := by decide +kernel
theorem dX3_count_1 : decode cX3_count 1 = .ok (.getfield 30, 3) := by decide +kernel
theorem dX3_count_4 : decode cX3_count 4 = .ok (.iconst 1, 1) := by decide +kernel
theorem dX3_count_5 : decode cX3_count 5 = .ok (.if_icmp .lt 13, 3) := by decide +kernel
theorem dX3_count_8 : decode cX3_count 8 = .ok (.iload_n 1, 1) := by decide +kernel
theorem dX3_count_9 : decode cX3_count 9 = .ok (.ifCond .lt 9, 3) := by decide +kernel
theorem dX3_count_12 : decode cX3_count 12 = .ok (.iload_n 1, 1) := by decide +kernel
theorem dX3_count_13 : decode cX3_count 13 = .ok (.bipush 6, 2) := by decide +kernel
theorem dX3_count_15 : decode cX3_count 15 = .ok (.if_icmp .lt 5, 3) := by decide +kernel
theorem dX3_count_18 : decode cX3_count 18 = .ok (.iconst 0, 1) := by decide +kernel
theorem dX3_count_19 : decode cX3_count 19 = .ok (.ireturn, 1) := by decide +kernel
theorem dX3_count_20 : decode cX3_count 20 = .ok (.iload_n 1, 1) := by decide +kernel
theorem dX3_count_21 : decode cX3_count 21 = .ok (.iconst 2, 1) := by decide +kernel
theorem dX3_count_22 : decode cX3_count 22 = .ok (.if_icmp .ne 13, 3) := by decide +kernel
theorem dX3_count_25 : decode cX3_count 25 = .ok (.aload_n 0, 1) := by decide +kernel
theorem dX3_count_26 : decode cX3_count 26 = .ok (.dup, 1) := by decide +kernel
