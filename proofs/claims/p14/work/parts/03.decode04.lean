theorem dX8_secondOf_17 : decode cX8_secondOf 17 = .ok (.goto 4, 3) := by decide +kernel
theorem dX8_secondOf_20 : decode cX8_secondOf 20 = .ok (.lconst 0, 1) := by decide +kernel
theorem dX8_secondOf_21 : decode cX8_secondOf 21 = .ok (.lreturn, 1) := by decide +kernel
theorem dX8_num_0 : decode cX8_num 0 = .ok (.lload_n 1, 1) := by decide +kernel
theorem dX8_num_1 : decode cX8_num 1 = .ok (.lstore_n 3, 1) := by decide +kernel
theorem dX8_num_2 : decode cX8_num 2 = .ok (.iconst 0, 1) := by decide +kernel
theorem dX8_num_3 : decode cX8_num 3 = .ok (.istore 5, 2) := by decide +kernel
theorem dX8_num_5 : decode cX8_num 5 = .ok (.iload 5, 2) := by decide +kernel
theorem dX8_num_7 : decode cX8_num 7 = .ok (.bipush 64, 2) := by decide +kernel
theorem dX8_num_9 : decode cX8_num 9 = .ok (.if_icmp .ge 23, 3) := by decide +kernel
theorem dX8_num_12 : decode cX8_num 12 = .ok (.aload_n 0, 1) := by decide +kernel
theorem dX8_num_13 : decode cX8_num 13 = .ok (.lload_n 3, 1) := by decide +kernel
theorem dX8_num_14 : decode cX8_num 14 = .ok (.invokevirtual 88, 3) := by decide +kernel
theorem dX8_num_17 : decode cX8_num 17 = .ok (.ifCond .eq 15, 3) := by decide +kernel
theorem dX8_num_20 : decode cX8_num 20 = .ok (.aload_n 0, 1) := by decide +kernel
theorem dX8_num_21 : decode cX8_num 21 = .ok (.lload_n 3, 1) := by decide +kernel
theorem dX8_num_22 : decode cX8_num 22 = .ok (.invokevirtual 95, 3) := by decide +kernel
theorem dX8_num_25 : decode cX8_num 25 = .ok (.lstore_n 3, 1) := by decide +kernel
theorem dX8_num_26 : decode cX8_num 26 = .ok (.iinc 5 1, 3) := by decide +kernel
theorem dX8_num_29 : decode cX8_num 29 = .ok (.goto (-24), 3) := by decide +kernel
theorem dX8_num_32 : decode cX8_num 32 = .ok (.lload_n 3, 1) := by decide +kernel
theorem dX8_num_33 : decode cX8_num 33 = .ok (.lreturn, 1) := by decide +kernel
theorem dX8_build_0 : decode cX8_build 0 = .ok (.iconst 0, 1) := by decide +kernel
theorem dX8_build_1 : decode cX8_build 1 = .ok (.istore 4, 2) := by decide +kernel
theorem dX8_build_3 : decode cX8_build 3 = .ok (.aload_n 1, 1) := by decide +kernel
theorem dX8_build_4 : decode cX8_build 4 = .ok (.invokevirtual 98, 3) := by decide +kernel
theorem dX8_build_7 : decode cX8_build 7 = .ok (.istore 5, 2) := by decide +kernel
theorem dX8_build_9 : decode cX8_build 9 = .ok (.aload_n 1, 1) := by decide +kernel
theorem dX8_build_10 : decode cX8_build 10 = .ok (.getfield 102, 3) := by decide +kernel
theorem dX8_build_13 : decode cX8_build 13 = .ok (.iconst 1, 1) := by decide +kernel
theorem dX8_build_14 : decode cX8_build 14 = .ok (.isub, 1) := by decide +kernel
theorem dX8_build_15 : decode cX8_build 15 = .ok (.istore 6, 2) := by decide +kernel
theorem dX8_build_17 : decode cX8_build 17 = .ok (.iload 6, 2) := by decide +kernel
theorem dX8_build_19 : decode cX8_build 19 = .ok (.ifCond .lt 117, 3) := by decide +kernel
theorem dX8_build_22 : decode cX8_build 22 = .ok (.aload_n 1, 1) := by decide +kernel
theorem dX8_build_23 : decode cX8_build 23 = .ok (.getfield 103, 3) := by decide +kernel
theorem dX8_build_26 : decode cX8_build 26 = .ok (.iload 6, 2) := by decide +kernel
theorem dX8_build_28 : decode cX8_build 28 = .ok (.laload, 1) := by decide +kernel
theorem dX8_build_29 : decode cX8_build 29 = .ok (.lstore 7, 2) := by decide +kernel
theorem dX8_build_31 : decode cX8_build 31 = .ok (.lload 7, 2) := by decide +kernel
theorem dX8_build_33 : decode cX8_build 33 = .ok (.invokestatic 106, 3) := by decide +kernel
theorem dX8_build_36 : decode cX8_build 36 = .ok (.iconst 4, 1) := by decide +kernel
theorem dX8_build_37 : decode cX8_build 37 = .ok (.if_icmp .ne 31, 3) := by decide +kernel
theorem dX8_build_40 : decode cX8_build 40 = .ok (.iinc 5 (-1), 3) := by decide +kernel
theorem dX8_build_43 : decode cX8_build 43 = .ok (.iload 5, 2) := by decide +kernel
theorem dX8_build_45 : decode cX8_build 45 = .ok (.ifCond .lt 17, 3) := by decide +kernel
theorem dX8_build_48 : decode cX8_build 48 = .ok (.iload 5, 2) := by decide +kernel
theorem dX8_build_50 : decode cX8_build 50 = .ok (.aload_n 2, 1) := by decide +kernel
theorem dX8_build_51 : decode cX8_build 51 = .ok (.arraylength, 1) := by decide +kernel
theorem dX8_build_52 : decode cX8_build 52 = .ok (.if_icmp .ge 10, 3) := by decide +kernel
theorem dX8_build_55 : decode cX8_build 55 = .ok (.aload_n 2, 1) := by decide +kernel
theorem dX8_build_56 : decode cX8_build 56 = .ok (.iload 5, 2) := by decide +kernel
theorem dX8_build_58 : decode cX8_build 58 = .ok (.laload, 1) := by decide +kernel
theorem dX8_build_59 : decode cX8_build 59 = .ok (.goto 4, 3) := by decide +kernel
theorem dX8_build_62 : decode cX8_build 62 = .ok (.lconst 0, 1) := by decide +kernel
theorem dX8_build_63 : decode cX8_build 63 = .ok (.lstore 7, 2) := by decide +kernel
theorem dX8_build_65 : decode cX8_build 65 = .ok (.goto 43, 3) := by decide +kernel
theorem dX8_build_68 : decode cX8_build 68 = .ok (.lload 7, 2) := by decide +kernel
theorem dX8_build_70 : decode cX8_build 70 = .ok (.invokestatic 106, 3) := by decide +kernel
theorem dX8_build_73 : decode cX8_build 73 = .ok (.iconst 2, 1) := by decide +kernel
theorem dX8_build_74 : decode cX8_build 74 = .ok (.if_icmp .ne 34, 3) := by decide +kernel
theorem dX8_build_77 : decode cX8_build 77 = .ok (.iload 4, 2) := by decide +kernel
theorem dX8_build_79 : decode cX8_build 79 = .ok (.iconst 2, 1) := by decide +kernel
theorem dX8_build_80 : decode cX8_build 80 = .ok (.if_icmp .lt 28, 3) := by decide +kernel
theorem dX8_build_83 : decode cX8_build 83 = .ok (.iinc 4 (-2), 3) := by decide +kernel
theorem dX8_build_86 : decode cX8_build 86 = .ok (.aload_n 0, 1) := by decide +kernel
theorem dX8_build_87 : decode cX8_build 87 = .ok (.aload_n 0, 1) := by decide +kernel
theorem dX8_build_88 : decode cX8_build 88 = .ok (.getfield 29, 3) := by decide +kernel
theorem dX8_build_91 : decode cX8_build 91 = .ok (.iload 4, 2) := by decide +kernel
theorem dX8_build_93 : decode cX8_build 93 = .ok (.iconst 1, 1) := by decide +kernel
theorem dX8_build_94 : decode cX8_build 94 = .ok (.iadd, 1) := by decide +kernel
theorem dX8_build_95 : decode cX8_build 95 = .ok (.laload, 1) := by decide +kernel
theorem dX8_build_96 : decode cX8_build 96 = .ok (.aload_n 0, 1) := by decide +kernel
theorem dX8_build_97 : decode cX8_build 97 = .ok (.getfield 29, 3) := by decide +kernel
theorem dX8_build_100 : decode cX8_build 100 = .ok (.iload 4, 2) := by decide +kernel
theorem dX8_build_102 : decode cX8_build 102 = .ok (.laload, 1) := by decide +kernel
theorem dX8_build_103 : decode cX8_build 103 = .ok (.invokevirtual 109, 3) := by decide +kernel
theorem dX8_build_106 : decode cX8_build 106 = .ok (.lstore 7, 2) := by decide +kernel
theorem dX8_build_108 : decode cX8_build 108 = .ok (.iload 4, 2) := by decide +kernel
theorem dX8_build_110 : decode cX8_build 110 = .ok (.aload_n 0, 1) := by decide +kernel
theorem dX8_build_111 : decode cX8_build 111 = .ok (.getfield 29, 3) := by decide +kernel
theorem dX8_build_114 : decode cX8_build 114 = .ok (.arraylength, 1) := by decide +kernel
theorem dX8_build_115 : decode cX8_build 115 = .ok (.if_icmp .ge 15, 3) := by decide +kernel
theorem dX8_build_118 : decode cX8_build 118 = .ok (.aload_n 0, 1) := by decide +kernel
theorem dX8_build_119 : decode cX8_build 119 = .ok (.getfield 29, 3) := by decide +kernel
theorem dX8_build_122 : decode cX8_build 122 = .ok (.iload 4, 2) := by decide +kernel
theorem dX8_build_124 : decode cX8_build 124 = .ok (.lload 7, 2) := by decide +kernel
theorem dX8_build_126 : decode cX8_build 126 = .ok (.lastore, 1) := by decide +kernel
theorem dX8_build_127 : decode cX8_build 127 = .ok (.iinc 4 1, 3) := by decide +kernel
theorem dX8_build_130 : decode cX8_build 130 = .ok (.iinc 6 (-1), 3) := by decide +kernel
theorem dX8_build_133 : decode cX8_build 133 = .ok (.goto (-116), 3) := by decide +kernel
theorem dX8_build_136 : decode cX8_build 136 = .ok (.iload 4, 2) := by decide +kernel
theorem dX8_build_138 : decode cX8_build 138 = .ok (.aload_n 3, 1) := by decide +kernel
theorem dX8_build_139 : decode cX8_build 139 = .ok (.arraylength, 1) := by decide +kernel
theorem dX8_build_140 : decode cX8_build 140 = .ok (.invokestatic 113, 3) := by decide +kernel
theorem dX8_build_143 : decode cX8_build 143 = .ok (.istore 6, 2) := by decide +kernel
theorem dX8_build_145 : decode cX8_build 145 = .ok (.iconst 0, 1) := by decide +kernel
theorem dX8_build_146 : decode cX8_build 146 = .ok (.istore 7, 2) := by decide +kernel
theorem dX8_build_148 : decode cX8_build 148 = .ok (.iload 7, 2) := by decide +kernel
theorem dX8_build_150 : decode cX8_build 150 = .ok (.iload 6, 2) := by decide +kernel
theorem dX8_build_152 : decode cX8_build 152 = .ok (.if_icmp .ge 25, 3) := by decide +kernel
theorem dX8_build_155 : decode cX8_build 155 = .ok (.aload_n 3, 1) := by decide +kernel
theorem dX8_build_156 : decode cX8_build 156 = .ok (.iload 7, 2) := by decide +kernel
theorem dX8_build_158 : decode cX8_build 158 = .ok (.aload_n 0, 1) := by decide +kernel
theorem dX8_build_159 : decode cX8_build 159 = .ok (.getfield 29, 3) := by decide +kernel
theorem dX8_build_162 : decode cX8_build 162 = .ok (.iload 4, 2) := by decide +kernel
theorem dX8_build_164 : decode cX8_build 164 = .ok (.iconst 1, 1) := by decide +kernel
theorem dX8_build_165 : decode cX8_build 165 = .ok (.isub, 1) := by decide +kernel
theorem dX8_build_166 : decode cX8_build 166 = .ok (.iload 7, 2) := by decide +kernel
theorem dX8_build_168 : decode cX8_build 168 = .ok (.isub, 1) := by decide +kernel
theorem dX8_build_169 : decode cX8_build 169 = .ok (.laload, 1) := by decide +kernel
theorem dX8_build_170 : decode cX8_build 170 = .ok (.lastore, 1) := by decide +kernel
theorem dX8_build_171 : decode cX8_build 171 = .ok (.iinc 7 1, 3) := by decide +kernel
theorem dX8_build_174 : decode cX8_build 174 = .ok (.goto (-26), 3) := by decide +kernel
theorem dX8_build_177 : decode cX8_build 177 = .ok (.iload 6, 2) := by decide +kernel
theorem dX8_build_179 : decode cX8_build 179 = .ok (.ireturn, 1) := by decide +kernel
theorem dX8_flatten_0 : decode cX8_flatten 0 = .ok (.aload_n 0, 1) := by decide +kernel
theorem dX8_flatten_1 : decode cX8_flatten 1 = .ok (.getfield 29, 3) := by decide +kernel
theorem dX8_flatten_4 : decode cX8_flatten 4 = .ok (.iconst 0, 1) := by decide +kernel
theorem dX8_flatten_5 : decode cX8_flatten 5 = .ok (.lload_n 1, 1) := by decide +kernel
theorem dX8_flatten_6 : decode cX8_flatten 6 = .ok (.lastore, 1) := by decide +kernel
theorem dX8_flatten_7 : decode cX8_flatten 7 = .ok (.iconst 1, 1) := by decide +kernel
theorem dX8_flatten_8 : decode cX8_flatten 8 = .ok (.istore 4, 2) := by decide +kernel
theorem dX8_flatten_10 : decode cX8_flatten 10 = .ok (.iconst 0, 1) := by decide +kernel
theorem dX8_flatten_11 : decode cX8_flatten 11 = .ok (.istore 5, 2) := by decide +kernel
theorem dX8_flatten_13 : decode cX8_flatten 13 = .ok (.iload 5, 2) := by decide +kernel
theorem dX8_flatten_15 : decode cX8_flatten 15 = .ok (.sipush 30200, 3) := by decide +kernel
theorem dX8_flatten_18 : decode cX8_flatten 18 = .ok (.if_icmp .ge 133, 3) := by decide +kernel
theorem dX8_flatten_21 : decode cX8_flatten 21 = .ok (.iload 4, 2) := by decide +kernel
theorem dX8_flatten_23 : decode cX8_flatten 23 = .ok (.ifCond .le 128, 3) := by decide +kernel
theorem dX8_flatten_26 : decode cX8_flatten 26 = .ok (.iinc 4 (-1), 3) := by decide +kernel
theorem dX8_flatten_29 : decode cX8_flatten 29 = .ok (.aload_n 0, 1) := by decide +kernel
theorem dX8_flatten_30 : decode cX8_flatten 30 = .ok (.getfield 29, 3) := by decide +kernel
theorem dX8_flatten_33 : decode cX8_flatten 33 = .ok (.iload 4, 2) := by decide +kernel
theorem dX8_flatten_35 : decode cX8_flatten 35 = .ok (.laload, 1) := by decide +kernel
theorem dX8_flatten_36 : decode cX8_flatten 36 = .ok (.lstore 6, 2) := by decide +kernel
theorem dX8_flatten_38 : decode cX8_flatten 38 = .ok (.aload_n 0, 1) := by decide +kernel
theorem dX8_flatten_39 : decode cX8_flatten 39 = .ok (.lload 6, 2) := by decide +kernel
theorem dX8_flatten_41 : decode cX8_flatten 41 = .ok (.invokevirtual 88, 3) := by decide +kernel
theorem dX8_flatten_44 : decode cX8_flatten 44 = .ok (.ifCond .eq 66, 3) := by decide +kernel
theorem dX8_flatten_47 : decode cX8_flatten 47 = .ok (.iload 4, 2) := by decide +kernel
theorem dX8_flatten_49 : decode cX8_flatten 49 = .ok (.iconst 2, 1) := by decide +kernel
theorem dX8_flatten_50 : decode cX8_flatten 50 = .ok (.iadd, 1) := by decide +kernel
theorem dX8_flatten_51 : decode cX8_flatten 51 = .ok (.aload_n 0, 1) := by decide +kernel
theorem dX8_flatten_52 : decode cX8_flatten 52 = .ok (.getfield 29, 3) := by decide +kernel
theorem dX8_flatten_55 : decode cX8_flatten 55 = .ok (.arraylength, 1) := by decide +kernel
theorem dX8_flatten_56 : decode cX8_flatten 56 = .ok (.if_icmp .gt 54, 3) := by decide +kernel
theorem dX8_flatten_59 : decode cX8_flatten 59 = .ok (.aload_n 3, 1) := by decide +kernel
theorem dX8_flatten_60 : decode cX8_flatten 60 = .ok (.ldc2_w 116, 3) := by decide +kernel
theorem dX8_flatten_63 : decode cX8_flatten 63 = .ok (.lload 6, 2) := by decide +kernel
theorem dX8_flatten_65 : decode cX8_flatten 65 = .ok (.invokevirtual 118, 3) := by decide +kernel
theorem dX8_flatten_68 : decode cX8_flatten 68 = .ok (.aload_n 0, 1) := by decide +kernel
theorem dX8_flatten_69 : decode cX8_flatten 69 = .ok (.getfield 29, 3) := by decide +kernel
theorem dX8_flatten_72 : decode cX8_flatten 72 = .ok (.iload 4, 2) := by decide +kernel
theorem dX8_flatten_74 : decode cX8_flatten 74 = .ok (.aload_n 0, 1) := by decide +kernel
theorem dX8_flatten_75 : decode cX8_flatten 75 = .ok (.getfield 17, 3) := by decide +kernel
theorem dX8_flatten_78 : decode cX8_flatten 78 = .ok (.lload 6, 2) := by decide +kernel
theorem dX8_flatten_80 : decode cX8_flatten 80 = .ok (.invokestatic 92, 3) := by decide +kernel
theorem dX8_flatten_83 : decode cX8_flatten 83 = .ok (.laload, 1) := by decide +kernel
theorem dX8_flatten_84 : decode cX8_flatten 84 = .ok (.lastore, 1) := by decide +kernel
theorem dX8_flatten_85 : decode cX8_flatten 85 = .ok (.aload_n 0, 1) := by decide +kernel
theorem dX8_flatten_86 : decode cX8_flatten 86 = .ok (.getfield 29, 3) := by decide +kernel
theorem dX8_flatten_89 : decode cX8_flatten 89 = .ok (.iload 4, 2) := by decide +kernel
theorem dX8_flatten_91 : decode cX8_flatten 91 = .ok (.iconst 1, 1) := by decide +kernel
theorem dX8_flatten_92 : decode cX8_flatten 92 = .ok (.iadd, 1) := by decide +kernel
theorem dX8_flatten_93 : decode cX8_flatten 93 = .ok (.aload_n 0, 1) := by decide +kernel
theorem dX8_flatten_94 : decode cX8_flatten 94 = .ok (.getfield 13, 3) := by decide +kernel
theorem dX8_flatten_97 : decode cX8_flatten 97 = .ok (.lload 6, 2) := by decide +kernel
theorem dX8_flatten_99 : decode cX8_flatten 99 = .ok (.invokestatic 92, 3) := by decide +kernel
theorem dX8_flatten_102 : decode cX8_flatten 102 = .ok (.laload, 1) := by decide +kernel
theorem dX8_flatten_103 : decode cX8_flatten 103 = .ok (.lastore, 1) := by decide +kernel
theorem dX8_flatten_104 : decode cX8_flatten 104 = .ok (.iinc 4 2, 3) := by decide +kernel
theorem dX8_flatten_107 : decode cX8_flatten 107 = .ok (.goto 38, 3) := by decide +kernel
theorem dX8_flatten_110 : decode cX8_flatten 110 = .ok (.lload 6, 2) := by decide +kernel
theorem dX8_flatten_112 : decode cX8_flatten 112 = .ok (.invokestatic 106, 3) := by decide +kernel
theorem dX8_flatten_115 : decode cX8_flatten 115 = .ok (.iconst 3, 1) := by decide +kernel
theorem dX8_flatten_116 : decode cX8_flatten 116 = .ok (.if_icmp .ne 7, 3) := by decide +kernel
theorem dX8_flatten_119 : decode cX8_flatten 119 = .ok (.iconst 1, 1) := by decide +kernel
theorem dX8_flatten_120 : decode cX8_flatten 120 = .ok (.goto 4, 3) := by decide +kernel
theorem dX8_flatten_123 : decode cX8_flatten 123 = .ok (.iconst 0, 1) := by decide +kernel
theorem dX8_flatten_124 : decode cX8_flatten 124 = .ok (.istore 8, 2) := by decide +kernel
theorem dX8_flatten_126 : decode cX8_flatten 126 = .ok (.aload_n 3, 1) := by decide +kernel
theorem dX8_flatten_127 : decode cX8_flatten 127 = .ok (.iload 8, 2) := by decide +kernel
theorem dX8_flatten_129 : decode cX8_flatten 129 = .ok (.ifCond .eq 9, 3) := by decide +kernel
theorem dX8_flatten_132 : decode cX8_flatten 132 = .ok (.ldc2_w 122, 3) := by decide +kernel
theorem dX8_flatten_135 : decode cX8_flatten 135 = .ok (.goto 5, 3) := by decide +kernel
theorem dX8_flatten_138 : decode cX8_flatten 138 = .ok (.lload 6, 2) := by decide +kernel
theorem dX8_flatten_140 : decode cX8_flatten 140 = .ok (.lload 6, 2) := by decide +kernel
theorem dX8_flatten_142 : decode cX8_flatten 142 = .ok (.invokevirtual 118, 3) := by decide +kernel
theorem dX8_flatten_145 : decode cX8_flatten 145 = .ok (.iinc 5 1, 3) := by decide +kernel
theorem dX8_flatten_148 : decode cX8_flatten 148 = .ok (.goto (-135), 3) := by decide +kernel
theorem dX8_flatten_151 : decode cX8_flatten 151 = .ok (.return_, 1) := by decide +kernel
theorem dX9_init_0 : decode cX9_init 0 = .ok (.aload_n 0, 1) := by decide +kernel
theorem dX9_init_1 : decode cX9_init 1 = .ok (.invokespecial 3, 3) := by decide +kernel
theorem dX9_init_4 : decode cX9_init 4 = .ok (.aload_n 0, 1) := by decide +kernel
theorem dX9_init_5 : decode cX9_init 5 = .ok (.ldc 11, 2) := by decide +kernel
theorem dX9_init_7 : decode cX9_init 7 = .ok (.newarray .byte, 2) := by decide +kernel
theorem dX9_init_9 : decode cX9_init 9 = .ok (.putfield 12, 3) := by decide +kernel
theorem dX9_init_12 : decode cX9_init 12 = .ok (.aload_n 0, 1) := by decide +kernel
theorem dX9_init_13 : decode cX9_init 13 = .ok (.iconst 0, 1) := by decide +kernel
theorem dX9_init_14 : decode cX9_init 14 = .ok (.putfield 16, 3) := by decide +kernel
theorem dX9_init_17 : decode cX9_init 17 = .ok (.return_, 1) := by decide +kernel
theorem dX9_byteAt_0 : decode cX9_byteAt 0 = .ok (.iload_n 1, 1) := by decide +kernel
theorem dX9_byteAt_1 : decode cX9_byteAt 1 = .ok (.ifCond .lt 20, 3) := by decide +kernel
theorem dX9_byteAt_4 : decode cX9_byteAt 4 = .ok (.iload_n 1, 1) := by decide +kernel
theorem dX9_byteAt_5 : decode cX9_byteAt 5 = .ok (.aload_n 0, 1) := by decide +kernel
theorem dX9_byteAt_6 : decode cX9_byteAt 6 = .ok (.getfield 16, 3) := by decide +kernel
theorem dX9_byteAt_9 : decode cX9_byteAt 9 = .ok (.if_icmp .ge 12, 3) := by decide +kernel
theorem dX9_byteAt_12 : decode cX9_byteAt 12 = .ok (.aload_n 0, 1) := by decide +kernel
theorem dX9_byteAt_13 : decode cX9_byteAt 13 = .ok (.getfield 12, 3) := by decide +kernel
theorem dX9_byteAt_16 : decode cX9_byteAt 16 = .ok (.iload_n 1, 1) := by decide +kernel
theorem dX9_byteAt_17 : decode cX9_byteAt 17 = .ok (.baload, 1) := by decide +kernel
theorem dX9_byteAt_18 : decode cX9_byteAt 18 = .ok (.goto 4, 3) := by decide +kernel
theorem dX9_byteAt_21 : decode cX9_byteAt 21 = .ok (.iconst (-1), 1) := by decide +kernel
theorem dX9_byteAt_22 : decode cX9_byteAt 22 = .ok (.ireturn, 1) := by decide +kernel
theorem dX9_writeValue_0 : decode cX9_writeValue 0 = .ok (.aload_n 0, 1) := by decide +kernel
theorem dX9_writeValue_1 : decode cX9_writeValue 1 = .ok (.iconst 0, 1) := by decide +kernel
theorem dX9_writeValue_2 : decode cX9_writeValue 2 = .ok (.putfield 16, 3) := by decide +kernel
theorem dX9_writeValue_5 : decode cX9_writeValue 5 = .ok (.aload_n 0, 1) := by decide +kernel
theorem dX9_writeValue_6 : decode cX9_writeValue 6 = .ok (.aload_n 1, 1) := by decide +kernel
theorem dX9_writeValue_7 : decode cX9_writeValue 7 = .ok (.iconst 0, 1) := by decide +kernel
theorem dX9_writeValue_8 : decode cX9_writeValue 8 = .ok (.iconst 0, 1) := by decide +kernel
theorem dX9_writeValue_9 : decode cX9_writeValue 9 = .ok (.invokevirtual 20, 3) := by decide +kernel
theorem dX9_writeValue_12 : decode cX9_writeValue 12 = .ok (.pop, 1) := by decide +kernel
theorem dX9_writeValue_13 : decode cX9_writeValue 13 = .ok (.aload_n 0, 1) := by decide +kernel
theorem dX9_writeValue_14 : decode cX9_writeValue 14 = .ok (.getfield 16, 3) := by decide +kernel
theorem dX9_writeValue_17 : decode cX9_writeValue 17 = .ok (.ireturn, 1) := by decide +kernel
theorem dX9_writeVariant_0 : decode cX9_writeVariant 0 = .ok (.aload_n 0, 1) := by decide +kernel
theorem dX9_writeVariant_1 : decode cX9_writeVariant 1 = .ok (.iconst 0, 1) := by decide +kernel
theorem dX9_writeVariant_2 : decode cX9_writeVariant 2 = .ok (.putfield 16, 3) := by decide +kernel
theorem dX9_writeVariant_5 : decode cX9_writeVariant 5 = .ok (.aload_n 0, 1) := by decide +kernel
theorem dX9_writeVariant_6 : decode cX9_writeVariant 6 = .ok (.aload_n 1, 1) := by decide +kernel
theorem dX9_writeVariant_7 : decode cX9_writeVariant 7 = .ok (.iload_n 2, 1) := by decide +kernel
theorem dX9_writeVariant_8 : decode cX9_writeVariant 8 = .ok (.invokevirtual 24, 3) := by decide +kernel
theorem dX9_writeVariant_11 : decode cX9_writeVariant 11 = .ok (.invokevirtual 30, 3) := by decide +kernel
theorem dX9_writeVariant_14 : decode cX9_writeVariant 14 = .ok (.aload_n 0, 1) := by decide +kernel
theorem dX9_writeVariant_15 : decode cX9_writeVariant 15 = .ok (.bipush 61, 2) := by decide +kernel
theorem dX9_writeVariant_17 : decode cX9_writeVariant 17 = .ok (.invokevirtual 34, 3) := by decide +kernel
theorem dX9_writeVariant_20 : decode cX9_writeVariant 20 = .ok (.aload_n 0, 1) := by decide +kernel
theorem dX9_writeVariant_21 : decode cX9_writeVariant 21 = .ok (.aload_n 1, 1) := by decide +kernel
theorem dX9_writeVariant_22 : decode cX9_writeVariant 22 = .ok (.aload_n 1, 1) := by decide +kernel
theorem dX9_writeVariant_23 : decode cX9_writeVariant 23 = .ok (.iload_n 2, 1) := by decide +kernel
theorem dX9_writeVariant_24 : decode cX9_writeVariant 24 = .ok (.iconst 3, 1) := by decide +kernel
theorem dX9_writeVariant_25 : decode cX9_writeVariant 25 = .ok (.invokevirtual 38, 3) := by decide +kernel
theorem dX9_writeVariant_28 : decode cX9_writeVariant 28 = .ok (.iconst 0, 1) := by decide +kernel
theorem dX9_writeVariant_29 : decode cX9_writeVariant 29 = .ok (.invokevirtual 42, 3) := by decide +kernel
theorem dX9_writeVariant_32 : decode cX9_writeVariant 32 = .ok (.aload_n 0, 1) := by decide +kernel
theorem dX9_writeVariant_33 : decode cX9_writeVariant 33 = .ok (.bipush 59, 2) := by decide +kernel
theorem dX9_writeVariant_35 : decode cX9_writeVariant 35 = .ok (.invokevirtual 34, 3) := by decide +kernel
theorem dX9_writeVariant_38 : decode cX9_writeVariant 38 = .ok (.aload_n 0, 1) := by decide +kernel
theorem dX9_writeVariant_39 : decode cX9_writeVariant 39 = .ok (.getfield 16, 3) := by decide +kernel
theorem dX9_writeVariant_42 : decode cX9_writeVariant 42 = .ok (.ireturn, 1) := by decide +kernel
theorem dX9_add_0 : decode cX9_add 0 = .ok (.aload_n 0, 1) := by decide +kernel
theorem dX9_add_1 : decode cX9_add 1 = .ok (.getfield 16, 3) := by decide +kernel
theorem dX9_add_4 : decode cX9_add 4 = .ok (.ldc 11, 2) := by decide +kernel
theorem dX9_add_6 : decode cX9_add 6 = .ok (.if_icmp .ge 24, 3) := by decide +kernel
theorem dX9_add_9 : decode cX9_add 9 = .ok (.aload_n 0, 1) := by decide +kernel
theorem dX9_add_10 : decode cX9_add 10 = .ok (.getfield 12, 3) := by decide +kernel
theorem dX9_add_13 : decode cX9_add 13 = .ok (.aload_n 0, 1) := by decide +kernel
theorem dX9_add_14 : decode cX9_add 14 = .ok (.getfield 16, 3) := by decide +kernel
theorem dX9_add_17 : decode cX9_add 17 = .ok (.iload_n 1, 1) := by decide +kernel
theorem dX9_add_18 : decode cX9_add 18 = .ok (.i2b, 1) := by decide +kernel
theorem dX9_add_19 : decode cX9_add 19 = .ok (.bastore, 1) := by decide +kernel
theorem dX9_add_20 : decode cX9_add 20 = .ok (.aload_n 0, 1) := by decide +kernel
theorem dX9_add_21 : decode cX9_add 21 = .ok (.dup, 1) := by decide +kernel
theorem dX9_add_22 : decode cX9_add 22 = .ok (.getfield 16, 3) := by decide +kernel
theorem dX9_add_25 : decode cX9_add 25 = .ok (.iconst 1, 1) := by decide +kernel
theorem dX9_add_26 : decode cX9_add 26 = .ok (.iadd, 1) := by decide +kernel
theorem dX9_add_27 : decode cX9_add 27 = .ok (.putfield 16, 3) := by decide +kernel
theorem dX9_add_30 : decode cX9_add 30 = .ok (.return_, 1) := by decide +kernel
theorem dX9_addInt_0 : decode cX9_addInt 0 = .ok (.iload_n 1, 1) := by decide +kernel
theorem dX9_addInt_1 : decode cX9_addInt 1 = .ok (.i2l, 1) := by decide +kernel
theorem dX9_addInt_2 : decode cX9_addInt 2 = .ok (.lstore_n 2, 1) := by decide +kernel
theorem dX9_addInt_3 : decode cX9_addInt 3 = .ok (.lload_n 2, 1) := by decide +kernel
theorem dX9_addInt_4 : decode cX9_addInt 4 = .ok (.lconst 0, 1) := by decide +kernel
theorem dX9_addInt_5 : decode cX9_addInt 5 = .ok (.lcmp, 1) := by decide +kernel
theorem dX9_addInt_6 : decode cX9_addInt 6 = .ok (.ifCond .ge 12, 3) := by decide +kernel
theorem dX9_addInt_9 : decode cX9_addInt 9 = .ok (.aload_n 0, 1) := by decide +kernel
theorem dX9_addInt_10 : decode cX9_addInt 10 = .ok (.bipush 45, 2) := by decide +kernel
theorem dX9_addInt_12 : decode cX9_addInt 12 = .ok (.invokevirtual 34, 3) := by decide +kernel
theorem dX9_addInt_15 : decode cX9_addInt 15 = .ok (.lload_n 2, 1) := by decide +kernel
theorem dX9_addInt_16 : decode cX9_addInt 16 = .ok (.lneg, 1) := by decide +kernel
theorem dX9_addInt_17 : decode cX9_addInt 17 = .ok (.lstore_n 2, 1) := by decide +kernel
theorem dX9_addInt_18 : decode cX9_addInt 18 = .ok (.lconst 1, 1) := by decide +kernel
theorem dX9_addInt_19 : decode cX9_addInt 19 = .ok (.lstore 4, 2) := by decide +kernel
theorem dX9_addInt_21 : decode cX9_addInt 21 = .ok (.iconst 0, 1) := by decide +kernel
theorem dX9_addInt_22 : decode cX9_addInt 22 = .ok (.istore 6, 2) := by decide +kernel
theorem dX9_addInt_24 : decode cX9_addInt 24 = .ok (.iload 6, 2) := by decide +kernel
theorem dX9_addInt_26 : decode cX9_addInt 26 = .ok (.bipush 10, 2) := by decide +kernel
theorem dX9_addInt_28 : decode cX9_addInt 28 = .ok (.if_icmp .ge 28, 3) := by decide +kernel
theorem dX9_addInt_31 : decode cX9_addInt 31 = .ok (.lload 4, 2) := by decide +kernel
theorem dX9_addInt_33 : decode cX9_addInt 33 = .ok (.ldc2_w 46, 3) := by decide +kernel
theorem dX9_addInt_36 : decode cX9_addInt 36 = .ok (.lmul, 1) := by decide +kernel
theorem dX9_addInt_37 : decode cX9_addInt 37 = .ok (.lload_n 2, 1) := by decide +kernel
theorem dX9_addInt_38 : decode cX9_addInt 38 = .ok (.lcmp, 1) := by decide +kernel
theorem dX9_addInt_39 : decode cX9_addInt 39 = .ok (.ifCond .gt 17, 3) := by decide +kernel
theorem dX9_addInt_42 : decode cX9_addInt 42 = .ok (.lload 4, 2) := by decide +kernel
theorem dX9_addInt_44 : decode cX9_addInt 44 = .ok (.ldc2_w 46, 3) := by decide +kernel
theorem dX9_addInt_47 : decode cX9_addInt 47 = .ok (.lmul, 1) := by decide +kernel
theorem dX9_addInt_48 : decode cX9_addInt 48 = .ok (.lstore 4, 2) := by decide +kernel
theorem dX9_addInt_50 : decode cX9_addInt 50 = .ok (.iinc 6 1, 3) := by decide +kernel
theorem dX9_addInt_53 : decode cX9_addInt 53 = .ok (.goto (-29), 3) := by decide +kernel
theorem dX9_addInt_56 : decode cX9_addInt 56 = .ok (.iconst 0, 1) := by decide +kernel
theorem dX9_addInt_57 : decode cX9_addInt 57 = .ok (.istore 6, 2) := by decide +kernel
theorem dX9_addInt_59 : decode cX9_addInt 59 = .ok (.iload 6, 2) := by decide +kernel
theorem dX9_addInt_61 : decode cX9_addInt 61 = .ok (.bipush 10, 2) := by decide +kernel
theorem dX9_addInt_63 : decode cX9_addInt 63 = .ok (.if_icmp .gt 40, 3) := by decide +kernel
theorem dX9_addInt_66 : decode cX9_addInt 66 = .ok (.lload 4, 2) := by decide +kernel
theorem dX9_addInt_68 : decode cX9_addInt 68 = .ok (.lconst 0, 1) := by decide +kernel
theorem dX9_addInt_69 : decode cX9_addInt 69 = .ok (.lcmp, 1) := by decide +kernel
theorem dX9_addInt_70 : decode cX9_addInt 70 = .ok (.ifCond .le 33, 3) := by decide +kernel
theorem dX9_addInt_73 : decode cX9_addInt 73 = .ok (.aload_n 0, 1) := by decide +kernel
theorem dX9_addInt_74 : decode cX9_addInt 74 = .ok (.bipush 48, 2) := by decide +kernel
theorem dX9_addInt_76 : decode cX9_addInt 76 = .ok (.lload_n 2, 1) := by decide +kernel
theorem dX9_addInt_77 : decode cX9_addInt 77 = .ok (.lload 4, 2) := by decide +kernel
theorem dX9_addInt_79 : decode cX9_addInt 79 = .ok (.ldiv, 1) := by decide +kernel
theorem dX9_addInt_80 : decode cX9_addInt 80 = .ok (.ldc2_w 46, 3) := by decide +kernel
theorem dX9_addInt_83 : decode cX9_addInt 83 = .ok (.lrem, 1) := by decide +kernel
theorem dX9_addInt_84 : decode cX9_addInt 84 = .ok (.l2i, 1) := by decide +kernel
theorem dX9_addInt_85 : decode cX9_addInt 85 = .ok (.iadd, 1) := by decide +kernel
theorem dX9_addInt_86 : decode cX9_addInt 86 = .ok (.invokevirtual 34, 3) := by decide +kernel
theorem dX9_addInt_89 : decode cX9_addInt 89 = .ok (.lload 4, 2) := by decide +kernel
theorem dX9_addInt_91 : decode cX9_addInt 91 = .ok (.ldc2_w 46, 3) := by decide +kernel
theorem dX9_addInt_94 : decode cX9_addInt 94 = .ok (.ldiv, 1) := by decide +kernel
theorem dX9_addInt_95 : decode cX9_addInt 95 = .ok (.lstore 4, 2) := by decide +kernel
theorem dX9_addInt_97 : decode cX9_addInt 97 = .ok (.iinc 6 1, 3) := by decide +kernel
theorem dX9_addInt_100 : decode cX9_addInt 100 = .ok (.goto (-41), 3) := by decide +kernel
theorem dX9_addInt_103 : decode cX9_addInt 103 = .ok (.return_, 1) := by decide +kernel
theorem dX9_addSymbol_0 : decode cX9_addSymbol 0 = .ok (.lload_n 1, 1) := by decide +kernel
theorem dX9_addSymbol_1 : decode cX9_addSymbol 1 = .ok (.invokestatic 48, 3) := by decide +kernel
theorem dX9_addSymbol_4 : decode cX9_addSymbol 4 = .ok (.istore_n 3, 1) := by decide +kernel
theorem dX9_addSymbol_5 : decode cX9_addSymbol 5 = .ok (.iload_n 3, 1) := by decide +kernel
theorem dX9_addSymbol_6 : decode cX9_addSymbol 6 = .ok (.iconst 4, 1) := by decide +kernel
theorem dX9_addSymbol_7 : decode cX9_addSymbol 7 = .ok (.if_icmp .ne 10, 3) := by decide +kernel
theorem dX9_addSymbol_10 : decode cX9_addSymbol 10 = .ok (.aload_n 0, 1) := by decide +kernel
theorem dX9_addSymbol_11 : decode cX9_addSymbol 11 = .ok (.bipush 42, 2) := by decide +kernel
theorem dX9_addSymbol_13 : decode cX9_addSymbol 13 = .ok (.invokevirtual 34, 3) := by decide +kernel
theorem dX9_addSymbol_16 : decode cX9_addSymbol 16 = .ok (.return_, 1) := by decide +kernel
theorem dX9_addSymbol_17 : decode cX9_addSymbol 17 = .ok (.iload_n 3, 1) := by decide +kernel
theorem dX9_addSymbol_18 : decode cX9_addSymbol 18 = .ok (.iconst 1, 1) := by decide +kernel
theorem dX9_addSymbol_19 : decode cX9_addSymbol 19 = .ok (.if_icmp .ne 12, 3) := by decide +kernel
theorem dX9_addSymbol_22 : decode cX9_addSymbol 22 = .ok (.aload_n 0, 1) := by decide +kernel
theorem dX9_addSymbol_23 : decode cX9_addSymbol 23 = .ok (.bipush 102, 2) := by decide +kernel
theorem dX9_addSymbol_25 : decode cX9_addSymbol 25 = .ok (.invokevirtual 34, 3) := by decide +kernel
theorem dX9_addSymbol_28 : decode cX9_addSymbol 28 = .ok (.goto 14, 3) := by decide +kernel
theorem dX9_addSymbol_31 : decode cX9_addSymbol 31 = .ok (.iload_n 3, 1) := by decide +kernel
theorem dX9_addSymbol_32 : decode cX9_addSymbol 32 = .ok (.iconst 3, 1) := by decide +kernel
theorem dX9_addSymbol_33 : decode cX9_addSymbol 33 = .ok (.if_icmp .ne 9, 3) := by decide +kernel
theorem dX9_addSymbol_36 : decode cX9_addSymbol 36 = .ok (.aload_n 0, 1) := by decide +kernel
theorem dX9_addSymbol_37 : decode cX9_addSymbol 37 = .ok (.bipush 114, 2) := by decide +kernel
theorem dX9_addSymbol_39 : decode cX9_addSymbol 39 = .ok (.invokevirtual 34, 3) := by decide +kernel
theorem dX9_addSymbol_42 : decode cX9_addSymbol 42 = .ok (.aload_n 0, 1) := by decide +kernel
theorem dX9_addSymbol_43 : decode cX9_addSymbol 43 = .ok (.lload_n 1, 1) := by decide +kernel
theorem dX9_addSymbol_44 : decode cX9_addSymbol 44 = .ok (.invokestatic 54, 3) := by decide +kernel
theorem dX9_addSymbol_47 : decode cX9_addSymbol 47 = .ok (.invokevirtual 57, 3) := by decide +kernel
theorem dX9_addSymbol_50 : decode cX9_addSymbol 50 = .ok (.return_, 1) := by decide +kernel
theorem dX9_addPatterns_0 : decode cX9_addPatterns 0 = .ok (.aload_n 0, 1) := by decide +kernel
theorem dX9_addPatterns_1 : decode cX9_addPatterns 1 = .ok (.bipush 97, 2) := by decide +kernel
theorem dX9_addPatterns_3 : decode cX9_addPatterns 3 = .ok (.aload_n 1, 1) := by decide +kernel
theorem dX9_addPatterns_4 : decode cX9_addPatterns 4 = .ok (.getfield 60, 3) := by decide +kernel
theorem dX9_addPatterns_7 : decode cX9_addPatterns 7 = .ok (.bipush 6, 2) := by decide +kernel
theorem dX9_addPatterns_9 : decode cX9_addPatterns 9 = .ok (.idiv, 1) := by decide +kernel
theorem dX9_addPatterns_10 : decode cX9_addPatterns 10 = .ok (.iadd, 1) := by decide +kernel
theorem dX9_addPatterns_11 : decode cX9_addPatterns 11 = .ok (.invokevirtual 34, 3) := by decide +kernel
theorem dX9_addPatterns_14 : decode cX9_addPatterns 14 = .ok (.aload_n 0, 1) := by decide +kernel
theorem dX9_addPatterns_15 : decode cX9_addPatterns 15 = .ok (.bipush 40, 2) := by decide +kernel
theorem dX9_addPatterns_17 : decode cX9_addPatterns 17 = .ok (.invokevirtual 34, 3) := by decide +kernel
theorem dX9_addPatterns_20 : decode cX9_addPatterns 20 = .ok (.iconst 0, 1) := by decide +kernel
theorem dX9_addPatterns_21 : decode cX9_addPatterns 21 = .ok (.istore_n 2, 1) := by decide +kernel
theorem dX9_addPatterns_22 : decode cX9_addPatterns 22 = .ok (.iload_n 2, 1) := by decide +kernel
theorem dX9_addPatterns_23 : decode cX9_addPatterns 23 = .ok (.aload_n 1, 1) := by decide +kernel
theorem dX9_addPatterns_24 : decode cX9_addPatterns 24 = .ok (.getfield 65, 3) := by decide +kernel
theorem dX9_addPatterns_27 : decode cX9_addPatterns 27 = .ok (.if_icmp .ge 30, 3) := by decide +kernel
theorem dX9_addPatterns_30 : decode cX9_addPatterns 30 = .ok (.iload_n 2, 1) := by decide +kernel
theorem dX9_addPatterns_31 : decode cX9_addPatterns 31 = .ok (.ifCond .le 9, 3) := by decide +kernel
theorem dX9_addPatterns_34 : decode cX9_addPatterns 34 = .ok (.aload_n 0, 1) := by decide +kernel
theorem dX9_addPatterns_35 : decode cX9_addPatterns 35 = .ok (.bipush 44, 2) := by decide +kernel
theorem dX9_addPatterns_37 : decode cX9_addPatterns 37 = .ok (.invokevirtual 34, 3) := by decide +kernel
theorem dX9_addPatterns_40 : decode cX9_addPatterns 40 = .ok (.aload_n 0, 1) := by decide +kernel
theorem dX9_addPatterns_41 : decode cX9_addPatterns 41 = .ok (.aload_n 1, 1) := by decide +kernel
theorem dX9_addPatterns_42 : decode cX9_addPatterns 42 = .ok (.iload_n 2, 1) := by decide +kernel
theorem dX9_addPatterns_43 : decode cX9_addPatterns 43 = .ok (.iconst 0, 1) := by decide +kernel
theorem dX9_addPatterns_44 : decode cX9_addPatterns 44 = .ok (.invokevirtual 20, 3) := by decide +kernel
theorem dX9_addPatterns_47 : decode cX9_addPatterns 47 = .ok (.iload_n 2, 1) := by decide +kernel
theorem dX9_addPatterns_48 : decode cX9_addPatterns 48 = .ok (.iconst 1, 1) := by decide +kernel
theorem dX9_addPatterns_49 : decode cX9_addPatterns 49 = .ok (.iadd, 1) := by decide +kernel
theorem dX9_addPatterns_50 : decode cX9_addPatterns 50 = .ok (.invokestatic 66, 3) := by decide +kernel
theorem dX9_addPatterns_53 : decode cX9_addPatterns 53 = .ok (.istore_n 2, 1) := by decide +kernel
theorem dX9_addPatterns_54 : decode cX9_addPatterns 54 = .ok (.goto (-32), 3) := by decide +kernel
theorem dX9_addPatterns_57 : decode cX9_addPatterns 57 = .ok (.aload_n 0, 1) := by decide +kernel
theorem dX9_addPatterns_58 : decode cX9_addPatterns 58 = .ok (.bipush 41, 2) := by decide +kernel
theorem dX9_addPatterns_60 : decode cX9_addPatterns 60 = .ok (.invokevirtual 34, 3) := by decide +kernel
theorem dX9_addPatterns_63 : decode cX9_addPatterns 63 = .ok (.return_, 1) := by decide +kernel
theorem dX9_addPart_0 : decode cX9_addPart 0 = .ok (.iload_n 2, 1) := by decide +kernel
theorem dX9_addPart_1 : decode cX9_addPart 1 = .ok (.ifCond .lt 17, 3) := by decide +kernel
theorem dX9_addPart_4 : decode cX9_addPart 4 = .ok (.iload_n 2, 1) := by decide +kernel
theorem dX9_addPart_5 : decode cX9_addPart 5 = .ok (.aload_n 1, 1) := by decide +kernel
theorem dX9_addPart_6 : decode cX9_addPart 6 = .ok (.getfield 65, 3) := by decide +kernel
theorem dX9_addPart_9 : decode cX9_addPart 9 = .ok (.if_icmp .ge 9, 3) := by decide +kernel
theorem dX9_addPart_12 : decode cX9_addPart 12 = .ok (.iload_n 3, 1) := by decide +kernel
theorem dX9_addPart_13 : decode cX9_addPart 13 = .ok (.bipush 45, 2) := by decide +kernel
theorem dX9_addPart_15 : decode cX9_addPart 15 = .ok (.if_icmp .le 5, 3) := by decide +kernel
theorem dX9_addPart_18 : decode cX9_addPart 18 = .ok (.iload_n 2, 1) := by decide +kernel
theorem dX9_addPart_19 : decode cX9_addPart 19 = .ok (.ireturn, 1) := by decide +kernel
theorem dX9_addPart_20 : decode cX9_addPart 20 = .ok (.aload_n 1, 1) := by decide +kernel
theorem dX9_addPart_21 : decode cX9_addPart 21 = .ok (.getfield 71, 3) := by decide +kernel
theorem dX9_addPart_24 : decode cX9_addPart 24 = .ok (.iload_n 2, 1) := by decide +kernel
theorem dX9_addPart_25 : decode cX9_addPart 25 = .ok (.laload, 1) := by decide +kernel
theorem dX9_addPart_26 : decode cX9_addPart 26 = .ok (.ldc2_w 75, 3) := by decide +kernel
theorem dX9_addPart_29 : decode cX9_addPart 29 = .ok (.lcmp, 1) := by decide +kernel
theorem dX9_addPart_30 : decode cX9_addPart 30 = .ok (.ifCond .eq 17, 3) := by decide +kernel
theorem dX9_addPart_33 : decode cX9_addPart 33 = .ok (.aload_n 0, 1) := by decide +kernel
theorem dX9_addPart_34 : decode cX9_addPart 34 = .ok (.aload_n 1, 1) := by decide +kernel
theorem dX9_addPart_35 : decode cX9_addPart 35 = .ok (.getfield 71, 3) := by decide +kernel
theorem dX9_addPart_38 : decode cX9_addPart 38 = .ok (.iload_n 2, 1) := by decide +kernel
theorem dX9_addPart_39 : decode cX9_addPart 39 = .ok (.laload, 1) := by decide +kernel
theorem dX9_addPart_40 : decode cX9_addPart 40 = .ok (.invokevirtual 77, 3) := by decide +kernel
theorem dX9_addPart_43 : decode cX9_addPart 43 = .ok (.iload_n 2, 1) := by decide +kernel
theorem dX9_addPart_44 : decode cX9_addPart 44 = .ok (.iconst 1, 1) := by decide +kernel
theorem dX9_addPart_45 : decode cX9_addPart 45 = .ok (.iadd, 1) := by decide +kernel
theorem dX9_addPart_46 : decode cX9_addPart 46 = .ok (.ireturn, 1) := by decide +kernel
theorem dX9_addPart_47 : decode cX9_addPart 47 = .ok (.aload_n 0, 1) := by decide +kernel
theorem dX9_addPart_48 : decode cX9_addPart 48 = .ok (.bipush 91, 2) := by decide +kernel
theorem dX9_addPart_50 : decode cX9_addPart 50 = .ok (.invokevirtual 34, 3) := by decide +kernel
theorem dX9_addPart_53 : decode cX9_addPart 53 = .ok (.aload_n 0, 1) := by decide +kernel
theorem dX9_addPart_54 : decode cX9_addPart 54 = .ok (.aload_n 1, 1) := by decide +kernel
theorem dX9_addPart_55 : decode cX9_addPart 55 = .ok (.iload_n 2, 1) := by decide +kernel
theorem dX9_addPart_56 : decode cX9_addPart 56 = .ok (.iconst 1, 1) := by decide +kernel
theorem dX9_addPart_57 : decode cX9_addPart 57 = .ok (.iadd, 1) := by decide +kernel
theorem dX9_addPart_58 : decode cX9_addPart 58 = .ok (.iload_n 3, 1) := by decide +kernel
theorem dX9_addPart_59 : decode cX9_addPart 59 = .ok (.iconst 1, 1) := by decide +kernel
theorem dX9_addPart_60 : decode cX9_addPart 60 = .ok (.iadd, 1) := by decide +kernel
theorem dX9_addPart_61 : decode cX9_addPart 61 = .ok (.invokevirtual 20, 3) := by decide +kernel
theorem dX9_addPart_64 : decode cX9_addPart 64 = .ok (.istore 4, 2) := by decide +kernel
theorem dX9_addPart_66 : decode cX9_addPart 66 = .ok (.aload_n 0, 1) := by decide +kernel
theorem dX9_addPart_67 : decode cX9_addPart 67 = .ok (.bipush 44, 2) := by decide +kernel
theorem dX9_addPart_69 : decode cX9_addPart 69 = .ok (.invokevirtual 34, 3) := by decide +kernel
theorem dX9_addPart_72 : decode cX9_addPart 72 = .ok (.aload_n 0, 1) := by decide +kernel
theorem dX9_addPart_73 : decode cX9_addPart 73 = .ok (.aload_n 1, 1) := by decide +kernel
theorem dX9_addPart_74 : decode cX9_addPart 74 = .ok (.iload 4, 2) := by decide +kernel
theorem dX9_addPart_76 : decode cX9_addPart 76 = .ok (.iload_n 3, 1) := by decide +kernel
theorem dX9_addPart_77 : decode cX9_addPart 77 = .ok (.iconst 1, 1) := by decide +kernel
theorem dX9_addPart_78 : decode cX9_addPart 78 = .ok (.iadd, 1) := by decide +kernel
theorem dX9_addPart_79 : decode cX9_addPart 79 = .ok (.invokevirtual 20, 3) := by decide +kernel
theorem dX9_addPart_82 : decode cX9_addPart 82 = .ok (.istore 5, 2) := by decide +kernel
theorem dX9_addPart_84 : decode cX9_addPart 84 = .ok (.aload_n 0, 1) := by decide +kernel
theorem dX9_addPart_85 : decode cX9_addPart 85 = .ok (.bipush 93, 2) := by decide +kernel
theorem dX9_addPart_87 : decode cX9_addPart 87 = .ok (.invokevirtual 34, 3) := by decide +kernel
theorem dX9_addPart_90 : decode cX9_addPart 90 = .ok (.iload 5, 2) := by decide +kernel
theorem dX9_addPart_92 : decode cX9_addPart 92 = .ok (.ireturn, 1) := by decide +kernel
theorem dX9_addBlock_0 : decode cX9_addBlock 0 = .ok (.aload_n 1, 1) := by decide +kernel
theorem dX9_addBlock_1 : decode cX9_addBlock 1 = .ok (.iload_n 2, 1) := by decide +kernel
theorem dX9_addBlock_2 : decode cX9_addBlock 2 = .ok (.invokevirtual 81, 3) := by decide +kernel
theorem dX9_addBlock_5 : decode cX9_addBlock 5 = .ok (.istore 4, 2) := by decide +kernel
theorem dX9_addBlock_7 : decode cX9_addBlock 7 = .ok (.iconst 0, 1) := by decide +kernel
theorem dX9_addBlock_8 : decode cX9_addBlock 8 = .ok (.istore 5, 2) := by decide +kernel
theorem dX9_addBlock_10 : decode cX9_addBlock 10 = .ok (.iload 5, 2) := by decide +kernel
theorem dX9_addBlock_12 : decode cX9_addBlock 12 = .ok (.sipush 300, 3) := by decide +kernel
theorem dX9_addBlock_15 : decode cX9_addBlock 15 = .ok (.if_icmp .ge 44, 3) := by decide +kernel
theorem dX9_addBlock_18 : decode cX9_addBlock 18 = .ok (.iload 4, 2) := by decide +kernel
theorem dX9_addBlock_20 : decode cX9_addBlock 20 = .ok (.iconst (-1), 1) := by decide +kernel
theorem dX9_addBlock_21 : decode cX9_addBlock 21 = .ok (.if_icmp .eq 38, 3) := by decide +kernel
theorem dX9_addBlock_24 : decode cX9_addBlock 24 = .ok (.iload_n 3, 1) := by decide +kernel
theorem dX9_addBlock_25 : decode cX9_addBlock 25 = .ok (.bipush 45, 2) := by decide +kernel
theorem dX9_addBlock_27 : decode cX9_addBlock 27 = .ok (.if_icmp .ge 32, 3) := by decide +kernel
theorem dX9_addBlock_30 : decode cX9_addBlock 30 = .ok (.aload_n 0, 1) := by decide +kernel
theorem dX9_addBlock_31 : decode cX9_addBlock 31 = .ok (.aload_n 1, 1) := by decide +kernel
theorem dX9_addBlock_32 : decode cX9_addBlock 32 = .ok (.iload 4, 2) := by decide +kernel
theorem dX9_addBlock_34 : decode cX9_addBlock 34 = .ok (.iload_n 3, 1) := by decide +kernel
theorem dX9_addBlock_35 : decode cX9_addBlock 35 = .ok (.invokevirtual 85, 3) := by decide +kernel
theorem dX9_addBlock_38 : decode cX9_addBlock 38 = .ok (.aload_n 0, 1) := by decide +kernel
theorem dX9_addBlock_39 : decode cX9_addBlock 39 = .ok (.bipush 59, 2) := by decide +kernel
theorem dX9_addBlock_41 : decode cX9_addBlock 41 = .ok (.invokevirtual 34, 3) := by decide +kernel
theorem dX9_addBlock_44 : decode cX9_addBlock 44 = .ok (.aload_n 1, 1) := by decide +kernel
theorem dX9_addBlock_45 : decode cX9_addBlock 45 = .ok (.iload 4, 2) := by decide +kernel
theorem dX9_addBlock_47 : decode cX9_addBlock 47 = .ok (.iconst 5, 1) := by decide +kernel
theorem dX9_addBlock_48 : decode cX9_addBlock 48 = .ok (.invokevirtual 88, 3) := by decide +kernel
theorem dX9_addBlock_51 : decode cX9_addBlock 51 = .ok (.istore 4, 2) := by decide +kernel
theorem dX9_addBlock_53 : decode cX9_addBlock 53 = .ok (.iinc 5 1, 3) := by decide +kernel
theorem dX9_addBlock_56 : decode cX9_addBlock 56 = .ok (.goto (-46), 3) := by decide +kernel
theorem dX9_addBlock_59 : decode cX9_addBlock 59 = .ok (.aload_n 0, 1) := by decide +kernel
theorem dX9_addBlock_60 : decode cX9_addBlock 60 = .ok (.aload_n 1, 1) := by decide +kernel
theorem dX9_addBlock_61 : decode cX9_addBlock 61 = .ok (.iload_n 2, 1) := by decide +kernel
theorem dX9_addBlock_62 : decode cX9_addBlock 62 = .ok (.invokevirtual 91, 3) := by decide +kernel
theorem dX9_addBlock_65 : decode cX9_addBlock 65 = .ok (.invokevirtual 77, 3) := by decide +kernel
theorem dX9_addBlock_68 : decode cX9_addBlock 68 = .ok (.return_, 1) := by decide +kernel
theorem dX9_addInstruction_0 : decode cX9_addInstruction 0 = .ok (.aload_n 1, 1) := by decide +kernel
theorem dX9_addInstruction_1 : decode cX9_addInstruction 1 = .ok (.iload_n 2, 1) := by decide +kernel
theorem dX9_addInstruction_2 : decode cX9_addInstruction 2 = .ok (.iconst 0, 1) := by decide +kernel
theorem dX9_addInstruction_3 : decode cX9_addInstruction 3 = .ok (.invokevirtual 88, 3) := by decide +kernel
theorem dX9_addInstruction_6 : decode cX9_addInstruction 6 = .ok (.istore 4, 2) := by decide +kernel
theorem dX9_addInstruction_8 : decode cX9_addInstruction 8 = .ok (.iload 4, 2) := by decide +kernel
theorem dX9_addInstruction_10 : decode cX9_addInstruction 10 = .ok (.bipush 7, 2) := by decide +kernel
theorem dX9_addInstruction_12 : decode cX9_addInstruction 12 = .ok (.if_icmp .eq 23, 3) := by decide +kernel
theorem dX9_addInstruction_15 : decode cX9_addInstruction 15 = .ok (.aload_n 0, 1) := by decide +kernel
theorem dX9_addInstruction_16 : decode cX9_addInstruction 16 = .ok (.iconst 3, 1) := by decide +kernel
theorem dX9_addInstruction_17 : decode cX9_addInstruction 17 = .ok (.aload_n 1, 1) := by decide +kernel
theorem dX9_addInstruction_18 : decode cX9_addInstruction 18 = .ok (.iload_n 2, 1) := by decide +kernel
theorem dX9_addInstruction_19 : decode cX9_addInstruction 19 = .ok (.iconst 1, 1) := by decide +kernel
theorem dX9_addInstruction_20 : decode cX9_addInstruction 20 = .ok (.invokevirtual 88, 3) := by decide +kernel
theorem dX9_addInstruction_23 : decode cX9_addInstruction 23 = .ok (.invokestatic 95, 3) := by decide +kernel
theorem dX9_addInstruction_26 : decode cX9_addInstruction 26 = .ok (.invokevirtual 77, 3) := by decide +kernel
theorem dX9_addInstruction_29 : decode cX9_addInstruction 29 = .ok (.aload_n 0, 1) := by decide +kernel
theorem dX9_addInstruction_30 : decode cX9_addInstruction 30 = .ok (.bipush 61, 2) := by decide +kernel
theorem dX9_addInstruction_32 : decode cX9_addInstruction 32 = .ok (.invokevirtual 34, 3) := by decide +kernel
theorem dX9_addInstruction_35 : decode cX9_addInstruction 35 = .ok (.iload 4, 2) := by decide +kernel
theorem dX9_addInstruction_37 : decode cX9_addInstruction 37 = .ok (.tableswitch 177 0 12 #[67, 177, 177, 177, 177, 177, 86, 177, 96, 125, 144, 159, 168], 67) := by decide +kernel
theorem dX9_addInstruction_104 : decode cX9_addInstruction 104 = .ok (.aload_n 0, 1) := by decide +kernel
theorem dX9_addInstruction_105 : decode cX9_addInstruction 105 = .ok (.aload_n 1, 1) := by decide +kernel
theorem dX9_addInstruction_106 : decode cX9_addInstruction 106 = .ok (.iload_n 2, 1) := by decide +kernel
theorem dX9_addInstruction_107 : decode cX9_addInstruction 107 = .ok (.bipush 40, 2) := by decide +kernel
theorem dX9_addInstruction_109 : decode cX9_addInstruction 109 = .ok (.aload_n 1, 1) := by decide +kernel
theorem dX9_addInstruction_110 : decode cX9_addInstruction 110 = .ok (.iload_n 2, 1) := by decide +kernel
theorem dX9_addInstruction_111 : decode cX9_addInstruction 111 = .ok (.iconst 2, 1) := by decide +kernel
theorem dX9_addInstruction_112 : decode cX9_addInstruction 112 = .ok (.invokevirtual 88, 3) := by decide +kernel
theorem dX9_addInstruction_115 : decode cX9_addInstruction 115 = .ok (.bipush 41, 2) := by decide +kernel
theorem dX9_addInstruction_117 : decode cX9_addInstruction 117 = .ok (.invokevirtual 99, 3) := by decide +kernel
theorem dX9_addInstruction_120 : decode cX9_addInstruction 120 = .ok (.goto 135, 3) := by decide +kernel
theorem dX9_addInstruction_123 : decode cX9_addInstruction 123 = .ok (.aload_n 0, 1) := by decide +kernel
theorem dX9_addInstruction_124 : decode cX9_addInstruction 124 = .ok (.aload_n 1, 1) := by decide +kernel
theorem dX9_addInstruction_125 : decode cX9_addInstruction 125 = .ok (.iload_n 2, 1) := by decide +kernel
theorem dX9_addInstruction_126 : decode cX9_addInstruction 126 = .ok (.iload_n 3, 1) := by decide +kernel
theorem dX9_addInstruction_127 : decode cX9_addInstruction 127 = .ok (.invokevirtual 103, 3) := by decide +kernel
theorem dX9_addInstruction_130 : decode cX9_addInstruction 130 = .ok (.goto 125, 3) := by decide +kernel
theorem dX9_addInstruction_133 : decode cX9_addInstruction 133 = .ok (.aload_n 0, 1) := by decide +kernel
theorem dX9_addInstruction_134 : decode cX9_addInstruction 134 = .ok (.bipush 38, 2) := by decide +kernel
theorem dX9_addInstruction_136 : decode cX9_addInstruction 136 = .ok (.invokevirtual 34, 3) := by decide +kernel
theorem dX9_addInstruction_139 : decode cX9_addInstruction 139 = .ok (.aload_n 0, 1) := by decide +kernel
theorem dX9_addInstruction_140 : decode cX9_addInstruction 140 = .ok (.aload_n 1, 1) := by decide +kernel
theorem dX9_addInstruction_141 : decode cX9_addInstruction 141 = .ok (.iload_n 2, 1) := by decide +kernel
theorem dX9_addInstruction_142 : decode cX9_addInstruction 142 = .ok (.iconst 2, 1) := by decide +kernel
theorem dX9_addInstruction_143 : decode cX9_addInstruction 143 = .ok (.invokevirtual 88, 3) := by decide +kernel
theorem dX9_addInstruction_146 : decode cX9_addInstruction 146 = .ok (.invokevirtual 57, 3) := by decide +kernel
theorem dX9_addInstruction_149 : decode cX9_addInstruction 149 = .ok (.aload_n 0, 1) := by decide +kernel
theorem dX9_addInstruction_150 : decode cX9_addInstruction 150 = .ok (.aload_n 1, 1) := by decide +kernel
theorem dX9_addInstruction_151 : decode cX9_addInstruction 151 = .ok (.iload_n 2, 1) := by decide +kernel
theorem dX9_addInstruction_152 : decode cX9_addInstruction 152 = .ok (.iconst 0, 1) := by decide +kernel
theorem dX9_addInstruction_153 : decode cX9_addInstruction 153 = .ok (.invokevirtual 106, 3) := by decide +kernel
theorem dX9_addInstruction_156 : decode cX9_addInstruction 156 = .ok (.invokevirtual 77, 3) := by decide +kernel
theorem dX9_addInstruction_159 : decode cX9_addInstruction 159 = .ok (.goto 96, 3) := by decide +kernel
theorem dX9_addInstruction_162 : decode cX9_addInstruction 162 = .ok (.aload_n 0, 1) := by decide +kernel
theorem dX9_addInstruction_163 : decode cX9_addInstruction 163 = .ok (.bipush 95, 2) := by decide +kernel
theorem dX9_addInstruction_165 : decode cX9_addInstruction 165 = .ok (.invokevirtual 34, 3) := by decide +kernel
theorem dX9_addInstruction_168 : decode cX9_addInstruction 168 = .ok (.aload_n 0, 1) := by decide +kernel
theorem dX9_addInstruction_169 : decode cX9_addInstruction 169 = .ok (.aload_n 1, 1) := by decide +kernel
theorem dX9_addInstruction_170 : decode cX9_addInstruction 170 = .ok (.iload_n 2, 1) := by decide +kernel
theorem dX9_addInstruction_171 : decode cX9_addInstruction 171 = .ok (.iconst 2, 1) := by decide +kernel
theorem dX9_addInstruction_172 : decode cX9_addInstruction 172 = .ok (.invokevirtual 88, 3) := by decide +kernel
theorem dX9_addInstruction_175 : decode cX9_addInstruction 175 = .ok (.invokevirtual 57, 3) := by decide +kernel
theorem dX9_addInstruction_178 : decode cX9_addInstruction 178 = .ok (.goto 77, 3) := by decide +kernel
theorem dX9_addInstruction_181 : decode cX9_addInstruction 181 = .ok (.aload_n 0, 1) := by decide +kernel
theorem dX9_addInstruction_182 : decode cX9_addInstruction 182 = .ok (.aload_n 1, 1) := by decide +kernel
theorem dX9_addInstruction_183 : decode cX9_addInstruction 183 = .ok (.iload_n 2, 1) := by decide +kernel
theorem dX9_addInstruction_184 : decode cX9_addInstruction 184 = .ok (.bipush 91, 2) := by decide +kernel
theorem dX9_addInstruction_186 : decode cX9_addInstruction 186 = .ok (.bipush 44, 2) := by decide +kernel
theorem dX9_addInstruction_188 : decode cX9_addInstruction 188 = .ok (.bipush 93, 2) := by decide +kernel
theorem dX9_addInstruction_190 : decode cX9_addInstruction 190 = .ok (.invokevirtual 99, 3) := by decide +kernel
theorem dX9_addInstruction_193 : decode cX9_addInstruction 193 = .ok (.goto 62, 3) := by decide +kernel
theorem dX9_addInstruction_196 : decode cX9_addInstruction 196 = .ok (.aload_n 0, 1) := by decide +kernel
theorem dX9_addInstruction_197 : decode cX9_addInstruction 197 = .ok (.aload_n 1, 1) := by decide +kernel
theorem dX9_addInstruction_198 : decode cX9_addInstruction 198 = .ok (.iload_n 2, 1) := by decide +kernel
theorem dX9_addInstruction_199 : decode cX9_addInstruction 199 = .ok (.invokevirtual 109, 3) := by decide +kernel
theorem dX9_addInstruction_202 : decode cX9_addInstruction 202 = .ok (.goto 53, 3) := by decide +kernel
theorem dX9_addInstruction_205 : decode cX9_addInstruction 205 = .ok (.aload_n 0, 1) := by decide +kernel
theorem dX9_addInstruction_206 : decode cX9_addInstruction 206 = .ok (.bipush 45, 2) := by decide +kernel
theorem dX9_addInstruction_208 : decode cX9_addInstruction 208 = .ok (.invokevirtual 34, 3) := by decide +kernel
theorem dX9_addInstruction_211 : decode cX9_addInstruction 211 = .ok (.goto 44, 3) := by decide +kernel
theorem dX9_addInstruction_214 : decode cX9_addInstruction 214 = .ok (.aload_n 0, 1) := by decide +kernel
theorem dX9_addInstruction_215 : decode cX9_addInstruction 215 = .ok (.iload 4, 2) := by decide +kernel
theorem dX9_addInstruction_217 : decode cX9_addInstruction 217 = .ok (.ifCond .lt 23, 3) := by decide +kernel
theorem dX9_addInstruction_220 : decode cX9_addInstruction 220 = .ok (.iload 4, 2) := by decide +kernel
theorem dX9_addInstruction_222 : decode cX9_addInstruction 222 = .ok (.ldc 113, 2) := by decide +kernel
theorem dX9_addInstruction_224 : decode cX9_addInstruction 224 = .ok (.invokevirtual 115, 3) := by decide +kernel
theorem dX9_addInstruction_227 : decode cX9_addInstruction 227 = .ok (.if_icmp .ge 13, 3) := by decide +kernel
theorem dX9_addInstruction_230 : decode cX9_addInstruction 230 = .ok (.ldc 113, 2) := by decide +kernel
theorem dX9_addInstruction_232 : decode cX9_addInstruction 232 = .ok (.iload 4, 2) := by decide +kernel
theorem dX9_addInstruction_234 : decode cX9_addInstruction 234 = .ok (.invokevirtual 121, 3) := by decide +kernel
theorem dX9_addInstruction_237 : decode cX9_addInstruction 237 = .ok (.goto 5, 3) := by decide +kernel
theorem dX9_addInstruction_240 : decode cX9_addInstruction 240 = .ok (.bipush 32, 2) := by decide +kernel
theorem dX9_addInstruction_242 : decode cX9_addInstruction 242 = .ok (.invokevirtual 34, 3) := by decide +kernel
theorem dX9_addInstruction_245 : decode cX9_addInstruction 245 = .ok (.aload_n 0, 1) := by decide +kernel
theorem dX9_addInstruction_246 : decode cX9_addInstruction 246 = .ok (.aload_n 1, 1) := by decide +kernel
theorem dX9_addInstruction_247 : decode cX9_addInstruction 247 = .ok (.iload_n 2, 1) := by decide +kernel
theorem dX9_addInstruction_248 : decode cX9_addInstruction 248 = .ok (.iconst 0, 1) := by decide +kernel
theorem dX9_addInstruction_249 : decode cX9_addInstruction 249 = .ok (.invokevirtual 106, 3) := by decide +kernel
theorem dX9_addInstruction_252 : decode cX9_addInstruction 252 = .ok (.invokevirtual 77, 3) := by decide +kernel
theorem dX9_addInstruction_255 : decode cX9_addInstruction 255 = .ok (.return_, 1) := by decide +kernel
theorem dX9_addTwo_0 : decode cX9_addTwo 0 = .ok (.aload_n 0, 1) := by decide +kernel
theorem dX9_addTwo_1 : decode cX9_addTwo 1 = .ok (.iload_n 3, 1) := by decide +kernel
theorem dX9_addTwo_2 : decode cX9_addTwo 2 = .ok (.invokevirtual 34, 3) := by decide +kernel
theorem dX9_addTwo_5 : decode cX9_addTwo 5 = .ok (.aload_n 0, 1) := by decide +kernel
theorem dX9_addTwo_6 : decode cX9_addTwo 6 = .ok (.aload_n 1, 1) := by decide +kernel
theorem dX9_addTwo_7 : decode cX9_addTwo 7 = .ok (.iload_n 2, 1) := by decide +kernel
theorem dX9_addTwo_8 : decode cX9_addTwo 8 = .ok (.iconst 0, 1) := by decide +kernel
theorem dX9_addTwo_9 : decode cX9_addTwo 9 = .ok (.invokevirtual 106, 3) := by decide +kernel
theorem dX9_addTwo_12 : decode cX9_addTwo 12 = .ok (.invokevirtual 77, 3) := by decide +kernel
theorem dX9_addTwo_15 : decode cX9_addTwo 15 = .ok (.aload_n 0, 1) := by decide +kernel
theorem dX9_addTwo_16 : decode cX9_addTwo 16 = .ok (.iload 4, 2) := by decide +kernel
theorem dX9_addTwo_18 : decode cX9_addTwo 18 = .ok (.invokevirtual 34, 3) := by decide +kernel
theorem dX9_addTwo_21 : decode cX9_addTwo 21 = .ok (.aload_n 0, 1) := by decide +kernel
theorem dX9_addTwo_22 : decode cX9_addTwo 22 = .ok (.aload_n 1, 1) := by decide +kernel
theorem dX9_addTwo_23 : decode cX9_addTwo 23 = .ok (.iload_n 2, 1) := by decide +kernel
theorem dX9_addTwo_24 : decode cX9_addTwo 24 = .ok (.iconst 1, 1) := by decide +kernel
theorem dX9_addTwo_25 : decode cX9_addTwo 25 = .ok (.invokevirtual 106, 3) := by decide +kernel
theorem dX9_addTwo_28 : decode cX9_addTwo 28 = .ok (.invokevirtual 77, 3) := by decide +kernel
theorem dX9_addTwo_31 : decode cX9_addTwo 31 = .ok (.aload_n 0, 1) := by decide +kernel
theorem dX9_addTwo_32 : decode cX9_addTwo 32 = .ok (.iload 5, 2) := by decide +kernel
theorem dX9_addTwo_34 : decode cX9_addTwo 34 = .ok (.invokevirtual 34, 3) := by decide +kernel
theorem dX9_addTwo_37 : decode cX9_addTwo 37 = .ok (.return_, 1) := by decide +kernel
theorem dX9_addChoice_0 : decode cX9_addChoice 0 = .ok (.aload_n 0, 1) := by decide +kernel
theorem dX9_addChoice_1 : decode cX9_addChoice 1 = .ok (.bipush 63, 2) := by decide +kernel
theorem dX9_addChoice_3 : decode cX9_addChoice 3 = .ok (.invokevirtual 34, 3) := by decide +kernel
theorem dX9_addChoice_6 : decode cX9_addChoice 6 = .ok (.aload_n 0, 1) := by decide +kernel
theorem dX9_addChoice_7 : decode cX9_addChoice 7 = .ok (.aload_n 1, 1) := by decide +kernel
theorem dX9_addChoice_8 : decode cX9_addChoice 8 = .ok (.iload_n 2, 1) := by decide +kernel
theorem dX9_addChoice_9 : decode cX9_addChoice 9 = .ok (.iconst 0, 1) := by decide +kernel
theorem dX9_addChoice_10 : decode cX9_addChoice 10 = .ok (.invokevirtual 106, 3) := by decide +kernel
theorem dX9_addChoice_13 : decode cX9_addChoice 13 = .ok (.invokevirtual 77, 3) := by decide +kernel
theorem dX9_addChoice_16 : decode cX9_addChoice 16 = .ok (.aload_n 0, 1) := by decide +kernel
theorem dX9_addChoice_17 : decode cX9_addChoice 17 = .ok (.bipush 123, 2) := by decide +kernel
theorem dX9_addChoice_19 : decode cX9_addChoice 19 = .ok (.invokevirtual 34, 3) := by decide +kernel
theorem dX9_addChoice_22 : decode cX9_addChoice 22 = .ok (.aload_n 0, 1) := by decide +kernel
theorem dX9_addChoice_23 : decode cX9_addChoice 23 = .ok (.aload_n 1, 1) := by decide +kernel
theorem dX9_addChoice_24 : decode cX9_addChoice 24 = .ok (.aload_n 1, 1) := by decide +kernel
theorem dX9_addChoice_25 : decode cX9_addChoice 25 = .ok (.iload_n 2, 1) := by decide +kernel
theorem dX9_addChoice_26 : decode cX9_addChoice 26 = .ok (.iconst 3, 1) := by decide +kernel
theorem dX9_addChoice_27 : decode cX9_addChoice 27 = .ok (.invokevirtual 88, 3) := by decide +kernel
theorem dX9_addChoice_30 : decode cX9_addChoice 30 = .ok (.iload_n 3, 1) := by decide +kernel
theorem dX9_addChoice_31 : decode cX9_addChoice 31 = .ok (.iconst 1, 1) := by decide +kernel
theorem dX9_addChoice_32 : decode cX9_addChoice 32 = .ok (.iadd, 1) := by decide +kernel
theorem dX9_addChoice_33 : decode cX9_addChoice 33 = .ok (.invokevirtual 42, 3) := by decide +kernel
theorem dX9_addChoice_36 : decode cX9_addChoice 36 = .ok (.aload_n 0, 1) := by decide +kernel
theorem dX9_addChoice_37 : decode cX9_addChoice 37 = .ok (.bipush 125, 2) := by decide +kernel
theorem dX9_addChoice_39 : decode cX9_addChoice 39 = .ok (.invokevirtual 34, 3) := by decide +kernel
theorem dX9_addChoice_42 : decode cX9_addChoice 42 = .ok (.aload_n 0, 1) := by decide +kernel
theorem dX9_addChoice_43 : decode cX9_addChoice 43 = .ok (.bipush 123, 2) := by decide +kernel
theorem dX9_addChoice_45 : decode cX9_addChoice 45 = .ok (.invokevirtual 34, 3) := by decide +kernel
theorem dX9_addChoice_48 : decode cX9_addChoice 48 = .ok (.aload_n 0, 1) := by decide +kernel
theorem dX9_addChoice_49 : decode cX9_addChoice 49 = .ok (.aload_n 1, 1) := by decide +kernel
theorem dX9_addChoice_50 : decode cX9_addChoice 50 = .ok (.aload_n 1, 1) := by decide +kernel
theorem dX9_addChoice_51 : decode cX9_addChoice 51 = .ok (.iload_n 2, 1) := by decide +kernel
theorem dX9_addChoice_52 : decode cX9_addChoice 52 = .ok (.iconst 4, 1) := by decide +kernel
theorem dX9_addChoice_53 : decode cX9_addChoice 53 = .ok (.invokevirtual 88, 3) := by decide +kernel
theorem dX9_addChoice_56 : decode cX9_addChoice 56 = .ok (.iload_n 3, 1) := by decide +kernel
theorem dX9_addChoice_57 : decode cX9_addChoice 57 = .ok (.iconst 1, 1) := by decide +kernel
theorem dX9_addChoice_58 : decode cX9_addChoice 58 = .ok (.iadd, 1) := by decide +kernel
theorem dX9_addChoice_59 : decode cX9_addChoice 59 = .ok (.invokevirtual 42, 3) := by decide +kernel
theorem dX9_addChoice_62 : decode cX9_addChoice 62 = .ok (.aload_n 0, 1) := by decide +kernel
theorem dX9_addChoice_63 : decode cX9_addChoice 63 = .ok (.bipush 125, 2) := by decide +kernel
theorem dX9_addChoice_65 : decode cX9_addChoice 65 = .ok (.invokevirtual 34, 3) := by decide +kernel
theorem dX9_addChoice_68 : decode cX9_addChoice 68 = .ok (.return_, 1) := by decide +kernel
theorem dX9_addCall_0 : decode cX9_addCall 0 = .ok (.aload_n 0, 1) := by decide +kernel
theorem dX9_addCall_1 : decode cX9_addCall 1 = .ok (.bipush 99, 2) := by decide +kernel
theorem dX9_addCall_3 : decode cX9_addCall 3 = .ok (.invokevirtual 34, 3) := by decide +kernel
theorem dX9_addCall_6 : decode cX9_addCall 6 = .ok (.aload_n 0, 1) := by decide +kernel
theorem dX9_addCall_7 : decode cX9_addCall 7 = .ok (.aload_n 1, 1) := by decide +kernel
theorem dX9_addCall_8 : decode cX9_addCall 8 = .ok (.iload_n 2, 1) := by decide +kernel
theorem dX9_addCall_9 : decode cX9_addCall 9 = .ok (.iconst 2, 1) := by decide +kernel
theorem dX9_addCall_10 : decode cX9_addCall 10 = .ok (.invokevirtual 88, 3) := by decide +kernel
theorem dX9_addCall_13 : decode cX9_addCall 13 = .ok (.invokevirtual 57, 3) := by decide +kernel
theorem dX9_addCall_16 : decode cX9_addCall 16 = .ok (.aload_n 0, 1) := by decide +kernel
theorem dX9_addCall_17 : decode cX9_addCall 17 = .ok (.bipush 40, 2) := by decide +kernel
theorem dX9_addCall_19 : decode cX9_addCall 19 = .ok (.invokevirtual 34, 3) := by decide +kernel
theorem dX9_addCall_22 : decode cX9_addCall 22 = .ok (.aload_n 1, 1) := by decide +kernel
theorem dX9_addCall_23 : decode cX9_addCall 23 = .ok (.iload_n 2, 1) := by decide +kernel
theorem dX9_addCall_24 : decode cX9_addCall 24 = .ok (.bipush 7, 2) := by decide +kernel
theorem dX9_addCall_26 : decode cX9_addCall 26 = .ok (.invokevirtual 88, 3) := by decide +kernel
theorem dX9_addCall_29 : decode cX9_addCall 29 = .ok (.istore_n 3, 1) := by decide +kernel
theorem dX9_addCall_30 : decode cX9_addCall 30 = .ok (.iconst 0, 1) := by decide +kernel
theorem dX9_addCall_31 : decode cX9_addCall 31 = .ok (.istore 4, 2) := by decide +kernel
theorem dX9_addCall_33 : decode cX9_addCall 33 = .ok (.iload 4, 2) := by decide +kernel
theorem dX9_addCall_35 : decode cX9_addCall 35 = .ok (.iload_n 3, 1) := by decide +kernel
theorem dX9_addCall_36 : decode cX9_addCall 36 = .ok (.if_icmp .ge 33, 3) := by decide +kernel
theorem dX9_addCall_39 : decode cX9_addCall 39 = .ok (.iload 4, 2) := by decide +kernel
theorem dX9_addCall_41 : decode cX9_addCall 41 = .ok (.ifCond .le 9, 3) := by decide +kernel
theorem dX9_addCall_44 : decode cX9_addCall 44 = .ok (.aload_n 0, 1) := by decide +kernel
theorem dX9_addCall_45 : decode cX9_addCall 45 = .ok (.bipush 44, 2) := by decide +kernel
theorem dX9_addCall_47 : decode cX9_addCall 47 = .ok (.invokevirtual 34, 3) := by decide +kernel
theorem dX9_addCall_50 : decode cX9_addCall 50 = .ok (.aload_n 0, 1) := by decide +kernel
theorem dX9_addCall_51 : decode cX9_addCall 51 = .ok (.aload_n 1, 1) := by decide +kernel
theorem dX9_addCall_52 : decode cX9_addCall 52 = .ok (.iload_n 2, 1) := by decide +kernel
theorem dX9_addCall_53 : decode cX9_addCall 53 = .ok (.iconst 2, 1) := by decide +kernel
theorem dX9_addCall_54 : decode cX9_addCall 54 = .ok (.iload 4, 2) := by decide +kernel
theorem dX9_addCall_56 : decode cX9_addCall 56 = .ok (.iadd, 1) := by decide +kernel
theorem dX9_addCall_57 : decode cX9_addCall 57 = .ok (.invokevirtual 106, 3) := by decide +kernel
theorem dX9_addCall_60 : decode cX9_addCall 60 = .ok (.invokevirtual 77, 3) := by decide +kernel
theorem dX9_addCall_63 : decode cX9_addCall 63 = .ok (.iinc 4 1, 3) := by decide +kernel
theorem dX9_addCall_66 : decode cX9_addCall 66 = .ok (.goto (-33), 3) := by decide +kernel
theorem dX9_addCall_69 : decode cX9_addCall 69 = .ok (.aload_n 0, 1) := by decide +kernel
theorem dX9_addCall_70 : decode cX9_addCall 70 = .ok (.bipush 41, 2) := by decide +kernel
theorem dX9_addCall_72 : decode cX9_addCall 72 = .ok (.invokevirtual 34, 3) := by decide +kernel
theorem dX9_addCall_75 : decode cX9_addCall 75 = .ok (.return_, 1) := by decide +kernel
theorem dX10_init_0 : decode cX10_init 0 = .ok (.aload_n 0, 1) := by decide +kernel
theorem dX10_init_1 : decode cX10_init 1 = .ok (.invokespecial 5, 3) := by decide +kernel
theorem dX10_init_4 : decode cX10_init 4 = .ok (.aload_n 0, 1) := by decide +kernel
theorem dX10_init_5 : decode cX10_init 5 = .ok (.bipush 6, 2) := by decide +kernel
theorem dX10_init_7 : decode cX10_init 7 = .ok (.putfield 11, 3) := by decide +kernel
theorem dX10_init_10 : decode cX10_init 10 = .ok (.aload_n 0, 1) := by decide +kernel
theorem dX10_init_11 : decode cX10_init 11 = .ok (.iconst 3, 1) := by decide +kernel
theorem dX10_init_12 : decode cX10_init 12 = .ok (.putfield 15, 3) := by decide +kernel
theorem dX10_init_15 : decode cX10_init 15 = .ok (.aload_n 0, 1) := by decide +kernel
theorem dX10_init_16 : decode cX10_init 16 = .ok (.bipush 120, 2) := by decide +kernel
theorem dX10_init_18 : decode cX10_init 18 = .ok (.putfield 18, 3) := by decide +kernel
theorem dX10_init_21 : decode cX10_init 21 = .ok (.aload_n 0, 1) := by decide +kernel
theorem dX10_init_22 : decode cX10_init 22 = .ok (.aload_n 1, 1) := by decide +kernel
theorem dX10_init_23 : decode cX10_init 23 = .ok (.putfield 21, 3) := by decide +kernel
theorem dX10_init_26 : decode cX10_init 26 = .ok (.aload_n 0, 1) := by decide +kernel
theorem dX10_init_27 : decode cX10_init 27 = .ok (.aload_n 2, 1) := by decide +kernel
theorem dX10_init_28 : decode cX10_init 28 = .ok (.putfield 25, 3) := by decide +kernel
theorem dX10_init_31 : decode cX10_init 31 = .ok (.aload_n 0, 1) := by decide +kernel
theorem dX10_init_32 : decode cX10_init 32 = .ok (.aload_n 3, 1) := by decide +kernel
theorem dX10_init_33 : decode cX10_init 33 = .ok (.putfield 29, 3) := by decide +kernel
theorem dX10_init_36 : decode cX10_init 36 = .ok (.aload_n 0, 1) := by decide +kernel
theorem dX10_init_37 : decode cX10_init 37 = .ok (.sipush 780, 3) := by decide +kernel
theorem dX10_init_40 : decode cX10_init 40 = .ok (.newarray .int, 2) := by decide +kernel
theorem dX10_init_42 : decode cX10_init 42 = .ok (.putfield 33, 3) := by decide +kernel
theorem dX10_init_45 : decode cX10_init 45 = .ok (.aload_n 0, 1) := by decide +kernel
theorem dX10_init_46 : decode cX10_init 46 = .ok (.sipush 260, 3) := by decide +kernel
theorem dX10_init_49 : decode cX10_init 49 = .ok (.newarray .long, 2) := by decide +kernel
theorem dX10_init_51 : decode cX10_init 51 = .ok (.putfield 37, 3) := by decide +kernel
theorem dX10_init_54 : decode cX10_init 54 = .ok (.aload_n 0, 1) := by decide +kernel
theorem dX10_init_55 : decode cX10_init 55 = .ok (.new 41, 3) := by decide +kernel
theorem dX10_init_58 : decode cX10_init 58 = .ok (.dup, 1) := by decide +kernel
theorem dX10_init_59 : decode cX10_init 59 = .ok (.sipush 200, 3) := by decide +kernel
theorem dX10_init_62 : decode cX10_init 62 = .ok (.invokespecial 43, 3) := by decide +kernel
theorem dX10_init_65 : decode cX10_init 65 = .ok (.putfield 46, 3) := by decide +kernel
theorem dX10_init_68 : decode cX10_init 68 = .ok (.aload_n 0, 1) := by decide +kernel
theorem dX10_init_69 : decode cX10_init 69 = .ok (.new 41, 3) := by decide +kernel
theorem dX10_init_72 : decode cX10_init 72 = .ok (.dup, 1) := by decide +kernel
theorem dX10_init_73 : decode cX10_init 73 = .ok (.sipush 200, 3) := by decide +kernel
theorem dX10_init_76 : decode cX10_init 76 = .ok (.invokespecial 43, 3) := by decide +kernel
theorem dX10_init_79 : decode cX10_init 79 = .ok (.putfield 50, 3) := by decide +kernel
theorem dX10_init_82 : decode cX10_init 82 = .ok (.aload_n 0, 1) := by decide +kernel
theorem dX10_init_83 : decode cX10_init 83 = .ok (.bipush 8, 2) := by decide +kernel
theorem dX10_init_85 : decode cX10_init 85 = .ok (.newarray .long, 2) := by decide +kernel
theorem dX10_init_87 : decode cX10_init 87 = .ok (.putfield 55, 3) := by decide +kernel
theorem dX10_init_90 : decode cX10_init 90 = .ok (.aload_n 0, 1) := by decide +kernel
theorem dX10_init_91 : decode cX10_init 91 = .ok (.bipush 8, 2) := by decide +kernel
theorem dX10_init_93 : decode cX10_init 93 = .ok (.newarray .long, 2) := by decide +kernel
theorem dX10_init_95 : decode cX10_init 95 = .ok (.putfield 58, 3) := by decide +kernel
theorem dX10_init_98 : decode cX10_init 98 = .ok (.iconst 0, 1) := by decide +kernel
theorem dX10_init_99 : decode cX10_init 99 = .ok (.istore 4, 2) := by decide +kernel
theorem dX10_init_101 : decode cX10_init 101 = .ok (.iload 4, 2) := by decide +kernel
theorem dX10_init_103 : decode cX10_init 103 = .ok (.bipush 8, 2) := by decide +kernel
theorem dX10_init_105 : decode cX10_init 105 = .ok (.if_icmp .ge 22, 3) := by decide +kernel
theorem dX10_init_108 : decode cX10_init 108 = .ok (.aload_n 0, 1) := by decide +kernel
theorem dX10_init_109 : decode cX10_init 109 = .ok (.getfield 55, 3) := by decide +kernel
theorem dX10_init_112 : decode cX10_init 112 = .ok (.iload 4, 2) := by decide +kernel
theorem dX10_init_114 : decode cX10_init 114 = .ok (.iconst 3, 1) := by decide +kernel
theorem dX10_init_115 : decode cX10_init 115 = .ok (.iload 4, 2) := by decide +kernel
theorem dX10_init_117 : decode cX10_init 117 = .ok (.invokestatic 63, 3) := by decide +kernel
theorem dX10_init_120 : decode cX10_init 120 = .ok (.lastore, 1) := by decide +kernel
theorem dX10_init_121 : decode cX10_init 121 = .ok (.iinc 4 1, 3) := by decide +kernel
theorem dX10_init_124 : decode cX10_init 124 = .ok (.goto (-23), 3) := by decide +kernel
theorem dX10_init_127 : decode cX10_init 127 = .ok (.return_, 1) := by decide +kernel
theorem dX10_setLimit_0 : decode cX10_setLimit 0 = .ok (.iload_n 1, 1) := by decide +kernel
theorem dX10_setLimit_1 : decode cX10_setLimit 1 = .ok (.ifCond .ne 21, 3) := by decide +kernel
theorem dX10_setLimit_4 : decode cX10_setLimit 4 = .ok (.iload_n 2, 1) := by decide +kernel
theorem dX10_setLimit_5 : decode cX10_setLimit 5 = .ok (.ifCond .lt 17, 3) := by decide +kernel
theorem dX10_setLimit_8 : decode cX10_setLimit 8 = .ok (.iload_n 2, 1) := by decide +kernel
theorem dX10_setLimit_9 : decode cX10_setLimit 9 = .ok (.bipush 12, 2) := by decide +kernel
theorem dX10_setLimit_11 : decode cX10_setLimit 11 = .ok (.if_icmp .gt 11, 3) := by decide +kernel
theorem dX10_setLimit_14 : decode cX10_setLimit 14 = .ok (.aload_n 0, 1) := by decide +kernel
theorem dX10_setLimit_15 : decode cX10_setLimit 15 = .ok (.iload_n 2, 1) := by decide +kernel
theorem dX10_setLimit_16 : decode cX10_setLimit 16 = .ok (.putfield 11, 3) := by decide +kernel
theorem dX10_setLimit_19 : decode cX10_setLimit 19 = .ok (.goto 55, 3) := by decide +kernel
theorem dX10_setLimit_22 : decode cX10_setLimit 22 = .ok (.iload_n 1, 1) := by decide +kernel
theorem dX10_setLimit_23 : decode cX10_setLimit 23 = .ok (.iconst 1, 1) := by decide +kernel
theorem dX10_setLimit_24 : decode cX10_setLimit 24 = .ok (.if_icmp .ne 22, 3) := by decide +kernel
theorem dX10_setLimit_27 : decode cX10_setLimit 27 = .ok (.iload_n 2, 1) := by decide +kernel
theorem dX10_setLimit_28 : decode cX10_setLimit 28 = .ok (.iconst 1, 1) := by decide +kernel
theorem dX10_setLimit_29 : decode cX10_setLimit 29 = .ok (.if_icmp .lt 17, 3) := by decide +kernel
theorem dX10_setLimit_32 : decode cX10_setLimit 32 = .ok (.iload_n 2, 1) := by decide +kernel
theorem dX10_setLimit_33 : decode cX10_setLimit 33 = .ok (.bipush 6, 2) := by decide +kernel
theorem dX10_setLimit_35 : decode cX10_setLimit 35 = .ok (.if_icmp .gt 11, 3) := by decide +kernel
theorem dX10_setLimit_38 : decode cX10_setLimit 38 = .ok (.aload_n 0, 1) := by decide +kernel
theorem dX10_setLimit_39 : decode cX10_setLimit 39 = .ok (.iload_n 2, 1) := by decide +kernel
theorem dX10_setLimit_40 : decode cX10_setLimit 40 = .ok (.putfield 15, 3) := by decide +kernel
theorem dX10_setLimit_43 : decode cX10_setLimit 43 = .ok (.goto 31, 3) := by decide +kernel
theorem dX10_setLimit_46 : decode cX10_setLimit 46 = .ok (.iload_n 1, 1) := by decide +kernel
theorem dX10_setLimit_47 : decode cX10_setLimit 47 = .ok (.iconst 2, 1) := by decide +kernel
theorem dX10_setLimit_48 : decode cX10_setLimit 48 = .ok (.if_icmp .ne 24, 3) := by decide +kernel
theorem dX10_setLimit_51 : decode cX10_setLimit 51 = .ok (.iload_n 2, 1) := by decide +kernel
theorem dX10_setLimit_52 : decode cX10_setLimit 52 = .ok (.bipush 10, 2) := by decide +kernel
theorem dX10_setLimit_54 : decode cX10_setLimit 54 = .ok (.if_icmp .lt 18, 3) := by decide +kernel
theorem dX10_setLimit_57 : decode cX10_setLimit 57 = .ok (.iload_n 2, 1) := by decide +kernel
theorem dX10_setLimit_58 : decode cX10_setLimit 58 = .ok (.sipush 300, 3) := by decide +kernel
theorem dX10_setLimit_61 : decode cX10_setLimit 61 = .ok (.if_icmp .gt 11, 3) := by decide +kernel
theorem dX10_setLimit_64 : decode cX10_setLimit 64 = .ok (.aload_n 0, 1) := by decide +kernel
theorem dX10_setLimit_65 : decode cX10_setLimit 65 = .ok (.iload_n 2, 1) := by decide +kernel
theorem dX10_setLimit_66 : decode cX10_setLimit 66 = .ok (.putfield 18, 3) := by decide +kernel
theorem dX10_setLimit_69 : decode cX10_setLimit 69 = .ok (.goto 5, 3) := by decide +kernel
theorem dX10_setLimit_72 : decode cX10_setLimit 72 = .ok (.iconst 0, 1) := by decide +kernel
theorem dX10_setLimit_73 : decode cX10_setLimit 73 = .ok (.ireturn, 1) := by decide +kernel
theorem dX10_setLimit_74 : decode cX10_setLimit 74 = .ok (.iconst 1, 1) := by decide +kernel
theorem dX10_setLimit_75 : decode cX10_setLimit 75 = .ok (.ireturn, 1) := by decide +kernel
theorem dX10_begin_0 : decode cX10_begin 0 = .ok (.aload_n 0, 1) := by decide +kernel
theorem dX10_begin_1 : decode cX10_begin 1 = .ok (.aload_n 1, 1) := by decide +kernel
theorem dX10_begin_2 : decode cX10_begin 2 = .ok (.putfield 29, 3) := by decide +kernel
theorem dX10_begin_5 : decode cX10_begin 5 = .ok (.aload_n 0, 1) := by decide +kernel
theorem dX10_begin_6 : decode cX10_begin 6 = .ok (.getfield 25, 3) := by decide +kernel
theorem dX10_begin_9 : decode cX10_begin 9 = .ok (.invokevirtual 67, 3) := by decide +kernel
theorem dX10_begin_12 : decode cX10_begin 12 = .ok (.aload_n 0, 1) := by decide +kernel
theorem dX10_begin_13 : decode cX10_begin 13 = .ok (.iconst 0, 1) := by decide +kernel
theorem dX10_begin_14 : decode cX10_begin 14 = .ok (.putfield 70, 3) := by decide +kernel
theorem dX10_begin_17 : decode cX10_begin 17 = .ok (.aload_n 0, 1) := by decide +kernel
theorem dX10_begin_18 : decode cX10_begin 18 = .ok (.iconst (-1), 1) := by decide +kernel
theorem dX10_begin_19 : decode cX10_begin 19 = .ok (.putfield 73, 3) := by decide +kernel
theorem dX10_begin_22 : decode cX10_begin 22 = .ok (.aload_n 0, 1) := by decide +kernel
theorem dX10_begin_23 : decode cX10_begin 23 = .ok (.getfield 29, 3) := by decide +kernel
theorem dX10_begin_26 : decode cX10_begin 26 = .ok (.aload_n 2, 1) := by decide +kernel
theorem dX10_begin_27 : decode cX10_begin 27 = .ok (.getfield 76, 3) := by decide +kernel
theorem dX10_begin_30 : decode cX10_begin 30 = .ok (.invokevirtual 79, 3) := by decide +kernel
theorem dX10_begin_33 : decode cX10_begin 33 = .ok (.iconst (-1), 1) := by decide +kernel
theorem dX10_begin_34 : decode cX10_begin 34 = .ok (.if_icmp .ne 10, 3) := by decide +kernel
theorem dX10_begin_37 : decode cX10_begin 37 = .ok (.aload_n 0, 1) := by decide +kernel
theorem dX10_begin_38 : decode cX10_begin 38 = .ok (.bipush (-6), 2) := by decide +kernel
theorem dX10_begin_40 : decode cX10_begin 40 = .ok (.putfield 70, 3) := by decide +kernel
theorem dX10_begin_43 : decode cX10_begin 43 = .ok (.return_, 1) := by decide +kernel
theorem dX10_begin_44 : decode cX10_begin 44 = .ok (.aload_n 0, 1) := by decide +kernel
theorem dX10_begin_45 : decode cX10_begin 45 = .ok (.getfield 25, 3) := by decide +kernel
theorem dX10_begin_48 : decode cX10_begin 48 = .ok (.aload_n 2, 1) := by decide +kernel
theorem dX10_begin_49 : decode cX10_begin 49 = .ok (.iconst (-1), 1) := by decide +kernel
theorem dX10_begin_50 : decode cX10_begin 50 = .ok (.invokevirtual 85, 3) := by decide +kernel
theorem dX10_begin_53 : decode cX10_begin 53 = .ok (.pop, 1) := by decide +kernel
theorem dX10_begin_54 : decode cX10_begin 54 = .ok (.aload_n 0, 1) := by decide +kernel
theorem dX10_begin_55 : decode cX10_begin 55 = .ok (.iconst 0, 1) := by decide +kernel
theorem dX10_begin_56 : decode cX10_begin 56 = .ok (.invokevirtual 89, 3) := by decide +kernel
theorem dX10_begin_59 : decode cX10_begin 59 = .ok (.return_, 1) := by decide +kernel
theorem dX10_isWorking_0 : decode cX10_isWorking 0 = .ok (.aload_n 0, 1) := by decide +kernel
theorem dX10_isWorking_1 : decode cX10_isWorking 1 = .ok (.getfield 70, 3) := by decide +kernel
theorem dX10_isWorking_4 : decode cX10_isWorking 4 = .ok (.ifCond .ne 21, 3) := by decide +kernel
theorem dX10_isWorking_7 : decode cX10_isWorking 7 = .ok (.aload_n 0, 1) := by decide +kernel
theorem dX10_isWorking_8 : decode cX10_isWorking 8 = .ok (.getfield 92, 3) := by decide +kernel
theorem dX10_isWorking_11 : decode cX10_isWorking 11 = .ok (.aload_n 0, 1) := by decide +kernel
theorem dX10_isWorking_12 : decode cX10_isWorking 12 = .ok (.getfield 25, 3) := by decide +kernel
theorem dX10_isWorking_15 : decode cX10_isWorking 15 = .ok (.getfield 95, 3) := by decide +kernel
theorem dX10_isWorking_18 : decode cX10_isWorking 18 = .ok (.if_icmp .ge 7, 3) := by decide +kernel
theorem dX10_isWorking_21 : decode cX10_isWorking 21 = .ok (.iconst 1, 1) := by decide +kernel
theorem dX10_isWorking_22 : decode cX10_isWorking 22 = .ok (.goto 4, 3) := by decide +kernel
theorem dX10_isWorking_25 : decode cX10_isWorking 25 = .ok (.iconst 0, 1) := by decide +kernel
theorem dX10_isWorking_26 : decode cX10_isWorking 26 = .ok (.ireturn, 1) := by decide +kernel
theorem dX10_answer_0 : decode cX10_answer 0 = .ok (.aload_n 0, 1) := by decide +kernel
theorem dX10_answer_1 : decode cX10_answer 1 = .ok (.getfield 70, 3) := by decide +kernel
theorem dX10_answer_4 : decode cX10_answer 4 = .ok (.ifCond .eq 15, 3) := by decide +kernel
theorem dX10_answer_7 : decode cX10_answer 7 = .ok (.aload_n 0, 1) := by decide +kernel
theorem dX10_answer_8 : decode cX10_answer 8 = .ok (.getfield 25, 3) := by decide +kernel
theorem dX10_answer_11 : decode cX10_answer 11 = .ok (.invokevirtual 67, 3) := by decide +kernel
theorem dX10_answer_14 : decode cX10_answer 14 = .ok (.aload_n 0, 1) := by decide +kernel
theorem dX10_answer_15 : decode cX10_answer 15 = .ok (.getfield 70, 3) := by decide +kernel
theorem dX10_answer_18 : decode cX10_answer 18 = .ok (.ireturn, 1) := by decide +kernel
theorem dX10_answer_19 : decode cX10_answer 19 = .ok (.aload_n 0, 1) := by decide +kernel
theorem dX10_answer_20 : decode cX10_answer 20 = .ok (.getfield 25, 3) := by decide +kernel
theorem dX10_answer_23 : decode cX10_answer 23 = .ok (.iconst 1, 1) := by decide +kernel
theorem dX10_answer_24 : decode cX10_answer 24 = .ok (.putfield 96, 3) := by decide +kernel
theorem dX10_answer_27 : decode cX10_answer 27 = .ok (.aload_n 0, 1) := by decide +kernel
theorem dX10_answer_28 : decode cX10_answer 28 = .ok (.getfield 25, 3) := by decide +kernel
theorem dX10_answer_31 : decode cX10_answer 31 = .ok (.getfield 95, 3) := by decide +kernel
theorem dX10_answer_34 : decode cX10_answer 34 = .ok (.ireturn, 1) := by decide +kernel
theorem dX10_breakOff_0 : decode cX10_breakOff 0 = .ok (.aload_n 0, 1) := by decide +kernel
theorem dX10_breakOff_1 : decode cX10_breakOff 1 = .ok (.getfield 70, 3) := by decide +kernel
theorem dX10_breakOff_4 : decode cX10_breakOff 4 = .ok (.ifCond .ne 8, 3) := by decide +kernel
theorem dX10_breakOff_7 : decode cX10_breakOff 7 = .ok (.aload_n 0, 1) := by decide +kernel
theorem dX10_breakOff_8 : decode cX10_breakOff 8 = .ok (.iload_n 1, 1) := by decide +kernel
theorem dX10_breakOff_9 : decode cX10_breakOff 9 = .ok (.putfield 70, 3) := by decide +kernel
theorem dX10_breakOff_12 : decode cX10_breakOff 12 = .ok (.return_, 1) := by decide +kernel
theorem dX10_beginVariant_0 : decode cX10_beginVariant 0 = .ok (.aload_n 0, 1) := by decide +kernel
theorem dX10_beginVariant_1 : decode cX10_beginVariant 1 = .ok (.iload_n 1, 1) := by decide +kernel
theorem dX10_beginVariant_2 : decode cX10_beginVariant 2 = .ok (.putfield 92, 3) := by decide +kernel
theorem dX10_beginVariant_5 : decode cX10_beginVariant 5 = .ok (.iload_n 1, 1) := by decide +kernel
theorem dX10_beginVariant_6 : decode cX10_beginVariant 6 = .ok (.aload_n 0, 1) := by decide +kernel
theorem dX10_beginVariant_7 : decode cX10_beginVariant 7 = .ok (.getfield 25, 3) := by decide +kernel
theorem dX10_beginVariant_10 : decode cX10_beginVariant 10 = .ok (.getfield 95, 3) := by decide +kernel
theorem dX10_beginVariant_13 : decode cX10_beginVariant 13 = .ok (.if_icmp .lt 4, 3) := by decide +kernel
theorem dX10_beginVariant_16 : decode cX10_beginVariant 16 = .ok (.return_, 1) := by decide +kernel
theorem dX10_beginVariant_17 : decode cX10_beginVariant 17 = .ok (.aload_n 0, 1) := by decide +kernel
theorem dX10_beginVariant_18 : decode cX10_beginVariant 18 = .ok (.getfield 25, 3) := by decide +kernel
theorem dX10_beginVariant_21 : decode cX10_beginVariant 21 = .ok (.iload_n 1, 1) := by decide +kernel
theorem dX10_beginVariant_22 : decode cX10_beginVariant 22 = .ok (.invokevirtual 100, 3) := by decide +kernel
theorem dX10_beginVariant_25 : decode cX10_beginVariant 25 = .ok (.astore_n 2, 1) := by decide +kernel
theorem dX10_beginVariant_26 : decode cX10_beginVariant 26 = .ok (.aload_n 0, 1) := by decide +kernel
theorem dX10_beginVariant_27 : decode cX10_beginVariant 27 = .ok (.aload_n 0, 1) := by decide +kernel
theorem dX10_beginVariant_28 : decode cX10_beginVariant 28 = .ok (.getfield 25, 3) := by decide +kernel
theorem dX10_beginVariant_31 : decode cX10_beginVariant 31 = .ok (.invokevirtual 104, 3) := by decide +kernel
theorem dX10_beginVariant_34 : decode cX10_beginVariant 34 = .ok (.putfield 108, 3) := by decide +kernel
theorem dX10_beginVariant_37 : decode cX10_beginVariant 37 = .ok (.aload_n 0, 1) := by decide +kernel
theorem dX10_beginVariant_38 : decode cX10_beginVariant 38 = .ok (.getfield 25, 3) := by decide +kernel
theorem dX10_beginVariant_41 : decode cX10_beginVariant 41 = .ok (.iload_n 1, 1) := by decide +kernel
theorem dX10_beginVariant_42 : decode cX10_beginVariant 42 = .ok (.iconst 3, 1) := by decide +kernel
theorem dX10_beginVariant_43 : decode cX10_beginVariant 43 = .ok (.aload_n 0, 1) := by decide +kernel
theorem dX10_beginVariant_44 : decode cX10_beginVariant 44 = .ok (.getfield 108, 3) := by decide +kernel
theorem dX10_beginVariant_47 : decode cX10_beginVariant 47 = .ok (.invokevirtual 111, 3) := by decide +kernel
theorem dX10_beginVariant_50 : decode cX10_beginVariant 50 = .ok (.aload_n 0, 1) := by decide +kernel
theorem dX10_beginVariant_51 : decode cX10_beginVariant 51 = .ok (.getfield 21, 3) := by decide +kernel
theorem dX10_beginVariant_54 : decode cX10_beginVariant 54 = .ok (.invokevirtual 115, 3) := by decide +kernel
theorem dX10_beginVariant_57 : decode cX10_beginVariant 57 = .ok (.aload_n 0, 1) := by decide +kernel
theorem dX10_beginVariant_58 : decode cX10_beginVariant 58 = .ok (.iconst 0, 1) := by decide +kernel
theorem dX10_beginVariant_59 : decode cX10_beginVariant 59 = .ok (.putfield 118, 3) := by decide +kernel
theorem dX10_beginVariant_62 : decode cX10_beginVariant 62 = .ok (.aload_n 0, 1) := by decide +kernel
theorem dX10_beginVariant_63 : decode cX10_beginVariant 63 = .ok (.iconst 0, 1) := by decide +kernel
theorem dX10_beginVariant_64 : decode cX10_beginVariant 64 = .ok (.putfield 121, 3) := by decide +kernel
theorem dX10_beginVariant_67 : decode cX10_beginVariant 67 = .ok (.aload_n 0, 1) := by decide +kernel
theorem dX10_beginVariant_68 : decode cX10_beginVariant 68 = .ok (.getfield 21, 3) := by decide +kernel
theorem dX10_beginVariant_71 : decode cX10_beginVariant 71 = .ok (.aload_n 2, 1) := by decide +kernel
theorem dX10_beginVariant_72 : decode cX10_beginVariant 72 = .ok (.aload_n 0, 1) := by decide +kernel
theorem dX10_beginVariant_73 : decode cX10_beginVariant 73 = .ok (.getfield 55, 3) := by decide +kernel
theorem dX10_beginVariant_76 : decode cX10_beginVariant 76 = .ok (.aload_n 0, 1) := by decide +kernel
theorem dX10_beginVariant_77 : decode cX10_beginVariant 77 = .ok (.getfield 58, 3) := by decide +kernel
theorem dX10_beginVariant_80 : decode cX10_beginVariant 80 = .ok (.invokevirtual 124, 3) := by decide +kernel
theorem dX10_beginVariant_83 : decode cX10_beginVariant 83 = .ok (.istore_n 3, 1) := by decide +kernel
theorem dX10_beginVariant_84 : decode cX10_beginVariant 84 = .ok (.iconst 0, 1) := by decide +kernel
theorem dX10_beginVariant_85 : decode cX10_beginVariant 85 = .ok (.istore 4, 2) := by decide +kernel
theorem dX10_beginVariant_87 : decode cX10_beginVariant 87 = .ok (.iload 4, 2) := by decide +kernel
theorem dX10_beginVariant_89 : decode cX10_beginVariant 89 = .ok (.iload_n 3, 1) := by decide +kernel
theorem dX10_beginVariant_90 : decode cX10_beginVariant 90 = .ok (.if_icmp .ge 25, 3) := by decide +kernel
theorem dX10_beginVariant_93 : decode cX10_beginVariant 93 = .ok (.aload_n 0, 1) := by decide +kernel
theorem dX10_beginVariant_94 : decode cX10_beginVariant 94 = .ok (.getfield 21, 3) := by decide +kernel
theorem dX10_beginVariant_97 : decode cX10_beginVariant 97 = .ok (.iload 4, 2) := by decide +kernel
theorem dX10_beginVariant_99 : decode cX10_beginVariant 99 = .ok (.aload_n 0, 1) := by decide +kernel
theorem dX10_beginVariant_100 : decode cX10_beginVariant 100 = .ok (.getfield 58, 3) := by decide +kernel
theorem dX10_beginVariant_103 : decode cX10_beginVariant 103 = .ok (.iload 4, 2) := by decide +kernel
theorem dX10_beginVariant_105 : decode cX10_beginVariant 105 = .ok (.laload, 1) := by decide +kernel
theorem dX10_beginVariant_106 : decode cX10_beginVariant 106 = .ok (.invokevirtual 128, 3) := by decide +kernel
theorem dX10_beginVariant_109 : decode cX10_beginVariant 109 = .ok (.iinc 4 1, 3) := by decide +kernel
theorem dX10_beginVariant_112 : decode cX10_beginVariant 112 = .ok (.goto (-25), 3) := by decide +kernel
theorem dX10_beginVariant_115 : decode cX10_beginVariant 115 = .ok (.aload_n 0, 1) := by decide +kernel
theorem dX10_beginVariant_116 : decode cX10_beginVariant 116 = .ok (.aload_n 0, 1) := by decide +kernel
theorem dX10_beginVariant_117 : decode cX10_beginVariant 117 = .ok (.getfield 29, 3) := by decide +kernel
theorem dX10_beginVariant_120 : decode cX10_beginVariant 120 = .ok (.aload_n 2, 1) := by decide +kernel
theorem dX10_beginVariant_121 : decode cX10_beginVariant 121 = .ok (.getfield 76, 3) := by decide +kernel
theorem dX10_beginVariant_124 : decode cX10_beginVariant 124 = .ok (.invokevirtual 79, 3) := by decide +kernel
theorem dX10_beginVariant_127 : decode cX10_beginVariant 127 = .ok (.putfield 73, 3) := by decide +kernel
theorem dX10_beginVariant_130 : decode cX10_beginVariant 130 = .ok (.return_, 1) := by decide +kernel
theorem dX10_goBack_0 : decode cX10_goBack 0 = .ok (.aload_n 0, 1) := by decide +kernel
theorem dX10_goBack_1 : decode cX10_goBack 1 = .ok (.aload_n 0, 1) := by decide +kernel
theorem dX10_goBack_2 : decode cX10_goBack 2 = .ok (.getfield 21, 3) := by decide +kernel
theorem dX10_goBack_5 : decode cX10_goBack 5 = .ok (.invokevirtual 132, 3) := by decide +kernel
theorem dX10_goBack_8 : decode cX10_goBack 8 = .ok (.putfield 73, 3) := by decide +kernel
theorem dX10_goBack_11 : decode cX10_goBack 11 = .ok (.aload_n 0, 1) := by decide +kernel
theorem dX10_goBack_12 : decode cX10_goBack 12 = .ok (.getfield 73, 3) := by decide +kernel
theorem dX10_goBack_15 : decode cX10_goBack 15 = .ok (.iconst (-1), 1) := by decide +kernel
theorem dX10_goBack_16 : decode cX10_goBack 16 = .ok (.if_icmp .ne 36, 3) := by decide +kernel
theorem dX10_goBack_19 : decode cX10_goBack 19 = .ok (.aload_n 0, 1) := by decide +kernel
theorem dX10_goBack_20 : decode cX10_goBack 20 = .ok (.getfield 25, 3) := by decide +kernel
theorem dX10_goBack_23 : decode cX10_goBack 23 = .ok (.aload_n 0, 1) := by decide +kernel
theorem dX10_goBack_24 : decode cX10_goBack 24 = .ok (.getfield 108, 3) := by decide +kernel
theorem dX10_goBack_27 : decode cX10_goBack 27 = .ok (.aload_n 0, 1) := by decide +kernel
theorem dX10_goBack_28 : decode cX10_goBack 28 = .ok (.aload_n 0, 1) := by decide +kernel
theorem dX10_goBack_29 : decode cX10_goBack 29 = .ok (.getfield 21, 3) := by decide +kernel
theorem dX10_goBack_32 : decode cX10_goBack 32 = .ok (.invokevirtual 135, 3) := by decide +kernel
theorem dX10_goBack_35 : decode cX10_goBack 35 = .ok (.iconst 0, 1) := by decide +kernel
theorem dX10_goBack_36 : decode cX10_goBack 36 = .ok (.invokevirtual 139, 3) := by decide +kernel
theorem dX10_goBack_39 : decode cX10_goBack 39 = .ok (.invokevirtual 143, 3) := by decide +kernel
theorem dX10_goBack_42 : decode cX10_goBack 42 = .ok (.aload_n 0, 1) := by decide +kernel
theorem dX10_goBack_43 : decode cX10_goBack 43 = .ok (.aload_n 0, 1) := by decide +kernel
theorem dX10_goBack_44 : decode cX10_goBack 44 = .ok (.getfield 92, 3) := by decide +kernel
theorem dX10_goBack_47 : decode cX10_goBack 47 = .ok (.iconst 1, 1) := by decide +kernel
theorem dX10_goBack_48 : decode cX10_goBack 48 = .ok (.iadd, 1) := by decide +kernel
theorem dX10_goBack_49 : decode cX10_goBack 49 = .ok (.invokevirtual 89, 3) := by decide +kernel
theorem dX10_goBack_52 : decode cX10_goBack 52 = .ok (.return_, 1) := by decide +kernel
theorem dX10_step_0 : decode cX10_step 0 = .ok (.aload_n 0, 1) := by decide +kernel
theorem dX10_step_1 : decode cX10_step 1 = .ok (.getfield 29, 3) := by decide +kernel
theorem dX10_step_4 : decode cX10_step 4 = .ok (.aload_n 0, 1) := by decide +kernel
theorem dX10_step_5 : decode cX10_step 5 = .ok (.getfield 73, 3) := by decide +kernel
theorem dX10_step_8 : decode cX10_step 8 = .ok (.invokevirtual 146, 3) := by decide +kernel
theorem dX10_step_11 : decode cX10_step 11 = .ok (.istore_n 1, 1) := by decide +kernel
theorem dX10_step_12 : decode cX10_step 12 = .ok (.aload_n 0, 1) := by decide +kernel
theorem dX10_step_13 : decode cX10_step 13 = .ok (.getfield 29, 3) := by decide +kernel
theorem dX10_step_16 : decode cX10_step 16 = .ok (.aload_n 0, 1) := by decide +kernel
theorem dX10_step_17 : decode cX10_step 17 = .ok (.getfield 73, 3) := by decide +kernel
theorem dX10_step_20 : decode cX10_step 20 = .ok (.invokevirtual 149, 3) := by decide +kernel
theorem dX10_step_23 : decode cX10_step 23 = .ok (.istore_n 2, 1) := by decide +kernel
theorem dX10_step_24 : decode cX10_step 24 = .ok (.aload_n 0, 1) := by decide +kernel
theorem dX10_step_25 : decode cX10_step 25 = .ok (.getfield 29, 3) := by decide +kernel
theorem dX10_step_28 : decode cX10_step 28 = .ok (.aload_n 0, 1) := by decide +kernel
theorem dX10_step_29 : decode cX10_step 29 = .ok (.getfield 73, 3) := by decide +kernel
theorem dX10_step_32 : decode cX10_step 32 = .ok (.invokevirtual 152, 3) := by decide +kernel
theorem dX10_step_35 : decode cX10_step 35 = .ok (.istore_n 3, 1) := by decide +kernel
theorem dX10_step_36 : decode cX10_step 36 = .ok (.aload_n 0, 1) := by decide +kernel
theorem dX10_step_37 : decode cX10_step 37 = .ok (.dup, 1) := by decide +kernel
theorem dX10_step_38 : decode cX10_step 38 = .ok (.getfield 73, 3) := by decide +kernel
theorem dX10_step_41 : decode cX10_step 41 = .ok (.iconst 1, 1) := by decide +kernel
theorem dX10_step_42 : decode cX10_step 42 = .ok (.iadd, 1) := by decide +kernel
theorem dX10_step_43 : decode cX10_step 43 = .ok (.putfield 73, 3) := by decide +kernel
theorem dX10_step_46 : decode cX10_step 46 = .ok (.iload_n 1, 1) := by decide +kernel
theorem dX10_step_47 : decode cX10_step 47 = .ok (.tableswitch 251 0 13 #[69, 84, 102, 110, 118, 126, 133, 141, 149, 156, 183, 191, 210, 228], 69) := by decide +kernel
theorem dX10_step_116 : decode cX10_step 116 = .ok (.aload_n 0, 1) := by decide +kernel
theorem dX10_step_117 : decode cX10_step 117 = .ok (.getfield 21, 3) := by decide +kernel
theorem dX10_step_120 : decode cX10_step 120 = .ok (.iload_n 2, 1) := by decide +kernel
theorem dX10_step_121 : decode cX10_step 121 = .ok (.iload_n 3, 1) := by decide +kernel
theorem dX10_step_122 : decode cX10_step 122 = .ok (.invokestatic 63, 3) := by decide +kernel
theorem dX10_step_125 : decode cX10_step 125 = .ok (.invokevirtual 155, 3) := by decide +kernel
theorem dX10_step_128 : decode cX10_step 128 = .ok (.goto 174, 3) := by decide +kernel
theorem dX10_step_131 : decode cX10_step 131 = .ok (.aload_n 0, 1) := by decide +kernel
theorem dX10_step_132 : decode cX10_step 132 = .ok (.getfield 21, 3) := by decide +kernel
theorem dX10_step_135 : decode cX10_step 135 = .ok (.aload_n 0, 1) := by decide +kernel
theorem dX10_step_136 : decode cX10_step 136 = .ok (.getfield 21, 3) := by decide +kernel
theorem dX10_step_139 : decode cX10_step 139 = .ok (.iload_n 2, 1) := by decide +kernel
theorem dX10_step_140 : decode cX10_step 140 = .ok (.invokevirtual 159, 3) := by decide +kernel
theorem dX10_step_143 : decode cX10_step 143 = .ok (.invokevirtual 155, 3) := by decide +kernel
theorem dX10_step_146 : decode cX10_step 146 = .ok (.goto 156, 3) := by decide +kernel
theorem dX10_step_149 : decode cX10_step 149 = .ok (.aload_n 0, 1) := by decide +kernel
theorem dX10_step_150 : decode cX10_step 150 = .ok (.iload_n 2, 1) := by decide +kernel
theorem dX10_step_151 : decode cX10_step 151 = .ok (.invokevirtual 163, 3) := by decide +kernel
theorem dX10_step_154 : decode cX10_step 154 = .ok (.goto 148, 3) := by decide +kernel
theorem dX10_step_157 : decode cX10_step 157 = .ok (.aload_n 0, 1) := by decide +kernel
theorem dX10_step_158 : decode cX10_step 158 = .ok (.iload_n 2, 1) := by decide +kernel
theorem dX10_step_159 : decode cX10_step 159 = .ok (.invokevirtual 166, 3) := by decide +kernel
theorem dX10_step_162 : decode cX10_step 162 = .ok (.goto 140, 3) := by decide +kernel
theorem dX10_step_165 : decode cX10_step 165 = .ok (.aload_n 0, 1) := by decide +kernel
theorem dX10_step_166 : decode cX10_step 166 = .ok (.iload_n 2, 1) := by decide +kernel
theorem dX10_step_167 : decode cX10_step 167 = .ok (.invokevirtual 169, 3) := by decide +kernel
theorem dX10_step_170 : decode cX10_step 170 = .ok (.goto 132, 3) := by decide +kernel
theorem dX10_step_173 : decode cX10_step 173 = .ok (.aload_n 0, 1) := by decide +kernel
theorem dX10_step_174 : decode cX10_step 174 = .ok (.invokevirtual 172, 3) := by decide +kernel
theorem dX10_step_177 : decode cX10_step 177 = .ok (.goto 125, 3) := by decide +kernel
theorem dX10_step_180 : decode cX10_step 180 = .ok (.aload_n 0, 1) := by decide +kernel
theorem dX10_step_181 : decode cX10_step 181 = .ok (.iload_n 2, 1) := by decide +kernel
theorem dX10_step_182 : decode cX10_step 182 = .ok (.invokevirtual 175, 3) := by decide +kernel
theorem dX10_step_185 : decode cX10_step 185 = .ok (.goto 117, 3) := by decide +kernel
theorem dX10_step_188 : decode cX10_step 188 = .ok (.aload_n 0, 1) := by decide +kernel
theorem dX10_step_189 : decode cX10_step 189 = .ok (.iload_n 2, 1) := by decide +kernel
theorem dX10_step_190 : decode cX10_step 190 = .ok (.invokevirtual 178, 3) := by decide +kernel
theorem dX10_step_193 : decode cX10_step 193 = .ok (.goto 109, 3) := by decide +kernel
theorem dX10_step_196 : decode cX10_step 196 = .ok (.aload_n 0, 1) := by decide +kernel
theorem dX10_step_197 : decode cX10_step 197 = .ok (.invokevirtual 181, 3) := by decide +kernel
theorem dX10_step_200 : decode cX10_step 200 = .ok (.goto 102, 3) := by decide +kernel
theorem dX10_step_203 : decode cX10_step 203 = .ok (.aload_n 0, 1) := by decide +kernel
theorem dX10_step_204 : decode cX10_step 204 = .ok (.bipush 7, 2) := by decide +kernel
theorem dX10_step_206 : decode cX10_step 206 = .ok (.iconst 0, 1) := by decide +kernel
theorem dX10_step_207 : decode cX10_step 207 = .ok (.aload_n 0, 1) := by decide +kernel
theorem dX10_step_208 : decode cX10_step 208 = .ok (.getfield 21, 3) := by decide +kernel
theorem dX10_step_211 : decode cX10_step 211 = .ok (.aload_n 0, 1) := by decide +kernel
theorem dX10_step_212 : decode cX10_step 212 = .ok (.getfield 21, 3) := by decide +kernel
theorem dX10_step_215 : decode cX10_step 215 = .ok (.iconst 0, 1) := by decide +kernel
theorem dX10_step_216 : decode cX10_step 216 = .ok (.invokevirtual 184, 3) := by decide +kernel
theorem dX10_step_219 : decode cX10_step 219 = .ok (.invokevirtual 187, 3) := by decide +kernel
theorem dX10_step_222 : decode cX10_step 222 = .ok (.lconst 0, 1) := by decide +kernel
theorem dX10_step_223 : decode cX10_step 223 = .ok (.invokevirtual 191, 3) := by decide +kernel
theorem dX10_step_226 : decode cX10_step 226 = .ok (.pop2, 1) := by decide +kernel
theorem dX10_step_227 : decode cX10_step 227 = .ok (.goto 75, 3) := by decide +kernel
theorem dX10_step_230 : decode cX10_step 230 = .ok (.aload_n 0, 1) := by decide +kernel
theorem dX10_step_231 : decode cX10_step 231 = .ok (.iload_n 2, 1) := by decide +kernel
theorem dX10_step_232 : decode cX10_step 232 = .ok (.invokevirtual 195, 3) := by decide +kernel
theorem dX10_step_235 : decode cX10_step 235 = .ok (.goto 67, 3) := by decide +kernel
theorem dX10_step_238 : decode cX10_step 238 = .ok (.aload_n 0, 1) := by decide +kernel
theorem dX10_step_239 : decode cX10_step 239 = .ok (.getfield 21, 3) := by decide +kernel
theorem dX10_step_242 : decode cX10_step 242 = .ok (.aload_n 0, 1) := by decide +kernel
theorem dX10_step_243 : decode cX10_step 243 = .ok (.bipush 9, 2) := by decide +kernel
theorem dX10_step_245 : decode cX10_step 245 = .ok (.iload_n 2, 1) := by decide +kernel
theorem dX10_step_246 : decode cX10_step 246 = .ok (.lconst 0, 1) := by decide +kernel
theorem dX10_step_247 : decode cX10_step 247 = .ok (.lconst 0, 1) := by decide +kernel
theorem dX10_step_248 : decode cX10_step 248 = .ok (.invokevirtual 191, 3) := by decide +kernel
theorem dX10_step_251 : decode cX10_step 251 = .ok (.invokevirtual 155, 3) := by decide +kernel
theorem dX10_step_254 : decode cX10_step 254 = .ok (.goto 48, 3) := by decide +kernel
theorem dX10_step_257 : decode cX10_step 257 = .ok (.aload_n 0, 1) := by decide +kernel
theorem dX10_step_258 : decode cX10_step 258 = .ok (.getfield 21, 3) := by decide +kernel
theorem dX10_step_261 : decode cX10_step 261 = .ok (.iload_n 2, 1) := by decide +kernel
theorem dX10_step_262 : decode cX10_step 262 = .ok (.aload_n 0, 1) := by decide +kernel
theorem dX10_step_263 : decode cX10_step 263 = .ok (.getfield 21, 3) := by decide +kernel
theorem dX10_step_266 : decode cX10_step 266 = .ok (.invokevirtual 135, 3) := by decide +kernel
theorem dX10_step_269 : decode cX10_step 269 = .ok (.invokevirtual 128, 3) := by decide +kernel
theorem dX10_step_272 : decode cX10_step 272 = .ok (.goto 30, 3) := by decide +kernel
theorem dX10_step_275 : decode cX10_step 275 = .ok (.aload_n 0, 1) := by decide +kernel
theorem dX10_step_276 : decode cX10_step 276 = .ok (.iload_n 2, 1) := by decide +kernel
theorem dX10_step_277 : decode cX10_step 277 = .ok (.iload_n 3, 1) := by decide +kernel
theorem dX10_step_278 : decode cX10_step 278 = .ok (.invokevirtual 198, 3) := by decide +kernel
theorem dX10_step_281 : decode cX10_step 281 = .ok (.ifCond .ne 21, 3) := by decide +kernel
theorem dX10_step_284 : decode cX10_step 284 = .ok (.aload_n 0, 1) := by decide +kernel
theorem dX10_step_285 : decode cX10_step 285 = .ok (.iload_n 2, 1) := by decide +kernel
theorem dX10_step_286 : decode cX10_step 286 = .ok (.iload_n 3, 1) := by decide +kernel
theorem dX10_step_287 : decode cX10_step 287 = .ok (.invokevirtual 202, 3) := by decide +kernel
theorem dX10_step_290 : decode cX10_step 290 = .ok (.aload_n 0, 1) := by decide +kernel
theorem dX10_step_291 : decode cX10_step 291 = .ok (.iload_n 2, 1) := by decide +kernel
theorem dX10_step_292 : decode cX10_step 292 = .ok (.invokevirtual 206, 3) := by decide +kernel
theorem dX10_step_295 : decode cX10_step 295 = .ok (.goto 7, 3) := by decide +kernel
theorem dX10_step_298 : decode cX10_step 298 = .ok (.aload_n 0, 1) := by decide +kernel
theorem dX10_step_299 : decode cX10_step 299 = .ok (.invokevirtual 209, 3) := by decide +kernel
theorem dX10_step_302 : decode cX10_step 302 = .ok (.return_, 1) := by decide +kernel
theorem dX10_putAt_0 : decode cX10_putAt 0 = .ok (.aload_n 0, 1) := by decide +kernel
theorem dX10_putAt_1 : decode cX10_putAt 1 = .ok (.getfield 21, 3) := by decide +kernel
theorem dX10_putAt_4 : decode cX10_putAt 4 = .ok (.invokevirtual 212, 3) := by decide +kernel
theorem dX10_putAt_7 : decode cX10_putAt 7 = .ok (.lstore_n 2, 1) := by decide +kernel
theorem dX10_putAt_8 : decode cX10_putAt 8 = .ok (.aload_n 0, 1) := by decide +kernel
theorem dX10_putAt_9 : decode cX10_putAt 9 = .ok (.bipush 8, 2) := by decide +kernel
theorem dX10_putAt_11 : decode cX10_putAt 11 = .ok (.iload_n 1, 1) := by decide +kernel
theorem dX10_putAt_12 : decode cX10_putAt 12 = .ok (.lload_n 2, 1) := by decide +kernel
theorem dX10_putAt_13 : decode cX10_putAt 13 = .ok (.lconst 0, 1) := by decide +kernel
theorem dX10_putAt_14 : decode cX10_putAt 14 = .ok (.invokevirtual 191, 3) := by decide +kernel
theorem dX10_putAt_17 : decode cX10_putAt 17 = .ok (.lstore 4, 2) := by decide +kernel
theorem dX10_putAt_19 : decode cX10_putAt 19 = .ok (.aload_n 0, 1) := by decide +kernel
theorem dX10_putAt_20 : decode cX10_putAt 20 = .ok (.getfield 21, 3) := by decide +kernel
theorem dX10_putAt_23 : decode cX10_putAt 23 = .ok (.lload_n 2, 1) := by decide +kernel
theorem dX10_putAt_24 : decode cX10_putAt 24 = .ok (.invokestatic 215, 3) := by decide +kernel
theorem dX10_putAt_27 : decode cX10_putAt 27 = .ok (.ifCond .eq 11, 3) := by decide +kernel
theorem dX10_putAt_30 : decode cX10_putAt 30 = .ok (.iload_n 1, 1) := by decide +kernel
theorem dX10_putAt_31 : decode cX10_putAt 31 = .ok (.lload_n 2, 1) := by decide +kernel
theorem dX10_putAt_32 : decode cX10_putAt 32 = .ok (.invokestatic 219, 3) := by decide +kernel
theorem dX10_putAt_35 : decode cX10_putAt 35 = .ok (.goto 5, 3) := by decide +kernel
theorem dX10_putAt_38 : decode cX10_putAt 38 = .ok (.lload 4, 2) := by decide +kernel
theorem dX10_putAt_40 : decode cX10_putAt 40 = .ok (.invokevirtual 155, 3) := by decide +kernel
theorem dX10_putAt_43 : decode cX10_putAt 43 = .ok (.return_, 1) := by decide +kernel
theorem dX10_leave_0 : decode cX10_leave 0 = .ok (.aload_n 0, 1) := by decide +kernel
theorem dX10_leave_1 : decode cX10_leave 1 = .ok (.getfield 70, 3) := by decide +kernel
theorem dX10_leave_4 : decode cX10_leave 4 = .ok (.ifCond .eq 5, 3) := by decide +kernel
theorem dX10_leave_7 : decode cX10_leave 7 = .ok (.lconst 0, 1) := by decide +kernel
theorem dX10_leave_8 : decode cX10_leave 8 = .ok (.lreturn, 1) := by decide +kernel
theorem dX10_leave_9 : decode cX10_leave 9 = .ok (.aload_n 0, 1) := by decide +kernel
theorem dX10_leave_10 : decode cX10_leave 10 = .ok (.getfield 25, 3) := by decide +kernel
theorem dX10_leave_13 : decode cX10_leave 13 = .ok (.iload_n 1, 1) := by decide +kernel
theorem dX10_leave_14 : decode cX10_leave 14 = .ok (.iload_n 2, 1) := by decide +kernel
theorem dX10_leave_15 : decode cX10_leave 15 = .ok (.aload_n 0, 1) := by decide +kernel
theorem dX10_leave_16 : decode cX10_leave 16 = .ok (.getfield 92, 3) := by decide +kernel
theorem dX10_leave_19 : decode cX10_leave 19 = .ok (.aload_n 0, 1) := by decide +kernel
theorem dX10_leave_20 : decode cX10_leave 20 = .ok (.getfield 108, 3) := by decide +kernel
theorem dX10_leave_23 : decode cX10_leave 23 = .ok (.invokevirtual 223, 3) := by decide +kernel
theorem dX10_leave_26 : decode cX10_leave 26 = .ok (.istore 7, 2) := by decide +kernel
theorem dX10_leave_28 : decode cX10_leave 28 = .ok (.iload 7, 2) := by decide +kernel
theorem dX10_leave_30 : decode cX10_leave 30 = .ok (.iconst (-1), 1) := by decide +kernel
theorem dX10_leave_31 : decode cX10_leave 31 = .ok (.if_icmp .ne 11, 3) := by decide +kernel
theorem dX10_leave_34 : decode cX10_leave 34 = .ok (.aload_n 0, 1) := by decide +kernel
theorem dX10_leave_35 : decode cX10_leave 35 = .ok (.bipush (-2), 2) := by decide +kernel
theorem dX10_leave_37 : decode cX10_leave 37 = .ok (.invokevirtual 227, 3) := by decide +kernel
theorem dX10_leave_40 : decode cX10_leave 40 = .ok (.lconst 0, 1) := by decide +kernel
theorem dX10_leave_41 : decode cX10_leave 41 = .ok (.lreturn, 1) := by decide +kernel
theorem dX10_leave_42 : decode cX10_leave 42 = .ok (.aload_n 0, 1) := by decide +kernel
theorem dX10_leave_43 : decode cX10_leave 43 = .ok (.getfield 25, 3) := by decide +kernel
theorem dX10_leave_46 : decode cX10_leave 46 = .ok (.iload 7, 2) := by decide +kernel
theorem dX10_leave_48 : decode cX10_leave 48 = .ok (.iconst 0, 1) := by decide +kernel
theorem dX10_leave_49 : decode cX10_leave 49 = .ok (.lload_n 3, 1) := by decide +kernel
theorem dX10_leave_50 : decode cX10_leave 50 = .ok (.invokevirtual 230, 3) := by decide +kernel
theorem dX10_leave_53 : decode cX10_leave 53 = .ok (.aload_n 0, 1) := by decide +kernel
theorem dX10_leave_54 : decode cX10_leave 54 = .ok (.getfield 25, 3) := by decide +kernel
theorem dX10_leave_57 : decode cX10_leave 57 = .ok (.iload 7, 2) := by decide +kernel
theorem dX10_leave_59 : decode cX10_leave 59 = .ok (.iconst 1, 1) := by decide +kernel
theorem dX10_leave_60 : decode cX10_leave 60 = .ok (.lload 5, 2) := by decide +kernel
theorem dX10_leave_62 : decode cX10_leave 62 = .ok (.invokevirtual 230, 3) := by decide +kernel
theorem dX10_leave_65 : decode cX10_leave 65 = .ok (.iconst 3, 1) := by decide +kernel
theorem dX10_leave_66 : decode cX10_leave 66 = .ok (.aload_n 0, 1) := by decide +kernel
theorem dX10_leave_67 : decode cX10_leave 67 = .ok (.getfield 25, 3) := by decide +kernel
theorem dX10_leave_70 : decode cX10_leave 70 = .ok (.iload 7, 2) := by decide +kernel
theorem dX10_leave_72 : decode cX10_leave 72 = .ok (.iconst 1, 1) := by decide +kernel
theorem dX10_leave_73 : decode cX10_leave 73 = .ok (.invokevirtual 234, 3) := by decide +kernel
theorem dX10_leave_76 : decode cX10_leave 76 = .ok (.invokestatic 63, 3) := by decide +kernel
theorem dX10_leave_79 : decode cX10_leave 79 = .ok (.lreturn, 1) := by decide +kernel
theorem dX10_lift_0 : decode cX10_lift 0 = .ok (.aload_n 0, 1) := by decide +kernel
theorem dX10_lift_1 : decode cX10_lift 1 = .ok (.getfield 21, 3) := by decide +kernel
theorem dX10_lift_4 : decode cX10_lift 4 = .ok (.lload_n 1, 1) := by decide +kernel
theorem dX10_lift_5 : decode cX10_lift 5 = .ok (.invokevirtual 238, 3) := by decide +kernel
theorem dX10_lift_8 : decode cX10_lift 8 = .ok (.ifCond .eq 16, 3) := by decide +kernel
theorem dX10_lift_11 : decode cX10_lift 11 = .ok (.iload_n 3, 1) := by decide +kernel
theorem dX10_lift_12 : decode cX10_lift 12 = .ok (.bipush 40, 2) := by decide +kernel
theorem dX10_lift_14 : decode cX10_lift 14 = .ok (.if_icmp .gt 10, 3) := by decide +kernel
theorem dX10_lift_17 : decode cX10_lift 17 = .ok (.aload_n 0, 1) := by decide +kernel
theorem dX10_lift_18 : decode cX10_lift 18 = .ok (.getfield 70, 3) := by decide +kernel
theorem dX10_lift_21 : decode cX10_lift 21 = .ok (.ifCond .eq 5, 3) := by decide +kernel
theorem dX10_lift_24 : decode cX10_lift 24 = .ok (.lload_n 1, 1) := by decide +kernel
theorem dX10_lift_25 : decode cX10_lift 25 = .ok (.lreturn, 1) := by decide +kernel
theorem dX10_lift_26 : decode cX10_lift 26 = .ok (.aload_n 0, 1) := by decide +kernel
theorem dX10_lift_27 : decode cX10_lift 27 = .ok (.aload_n 0, 1) := by decide +kernel
theorem dX10_lift_28 : decode cX10_lift 28 = .ok (.getfield 21, 3) := by decide +kernel
theorem dX10_lift_31 : decode cX10_lift 31 = .ok (.lload_n 1, 1) := by decide +kernel
theorem dX10_lift_32 : decode cX10_lift 32 = .ok (.invokevirtual 241, 3) := by decide +kernel
theorem dX10_lift_35 : decode cX10_lift 35 = .ok (.iload_n 3, 1) := by decide +kernel
theorem dX10_lift_36 : decode cX10_lift 36 = .ok (.iconst 1, 1) := by decide +kernel
theorem dX10_lift_37 : decode cX10_lift 37 = .ok (.iadd, 1) := by decide +kernel
theorem dX10_lift_38 : decode cX10_lift 38 = .ok (.invokevirtual 139, 3) := by decide +kernel
theorem dX10_lift_41 : decode cX10_lift 41 = .ok (.lstore 4, 2) := by decide +kernel
theorem dX10_lift_43 : decode cX10_lift 43 = .ok (.aload_n 0, 1) := by decide +kernel
theorem dX10_lift_44 : decode cX10_lift 44 = .ok (.aload_n 0, 1) := by decide +kernel
theorem dX10_lift_45 : decode cX10_lift 45 = .ok (.getfield 21, 3) := by decide +kernel
theorem dX10_lift_48 : decode cX10_lift 48 = .ok (.lload_n 1, 1) := by decide +kernel
theorem dX10_lift_49 : decode cX10_lift 49 = .ok (.invokevirtual 244, 3) := by decide +kernel
theorem dX10_lift_52 : decode cX10_lift 52 = .ok (.iload_n 3, 1) := by decide +kernel
theorem dX10_lift_53 : decode cX10_lift 53 = .ok (.iconst 1, 1) := by decide +kernel
theorem dX10_lift_54 : decode cX10_lift 54 = .ok (.iadd, 1) := by decide +kernel
theorem dX10_lift_55 : decode cX10_lift 55 = .ok (.invokevirtual 139, 3) := by decide +kernel
theorem dX10_lift_58 : decode cX10_lift 58 = .ok (.lstore 6, 2) := by decide +kernel
theorem dX10_lift_60 : decode cX10_lift 60 = .ok (.aload_n 0, 1) := by decide +kernel
theorem dX10_lift_61 : decode cX10_lift 61 = .ok (.bipush 10, 2) := by decide +kernel
theorem dX10_lift_63 : decode cX10_lift 63 = .ok (.iconst 0, 1) := by decide +kernel
theorem dX10_lift_64 : decode cX10_lift 64 = .ok (.lload 4, 2) := by decide +kernel
theorem dX10_lift_66 : decode cX10_lift 66 = .ok (.lload 6, 2) := by decide +kernel
theorem dX10_lift_68 : decode cX10_lift 68 = .ok (.invokevirtual 191, 3) := by decide +kernel
theorem dX10_lift_71 : decode cX10_lift 71 = .ok (.lreturn, 1) := by decide +kernel
theorem dX10_reckon_0 : decode cX10_reckon 0 = .ok (.aload_n 0, 1) := by decide +kernel
theorem dX10_reckon_1 : decode cX10_reckon 1 = .ok (.getfield 21, 3) := by decide +kernel
theorem dX10_reckon_4 : decode cX10_reckon 4 = .ok (.invokevirtual 212, 3) := by decide +kernel
theorem dX10_reckon_7 : decode cX10_reckon 7 = .ok (.lstore_n 2, 1) := by decide +kernel
theorem dX10_reckon_8 : decode cX10_reckon 8 = .ok (.aload_n 0, 1) := by decide +kernel
theorem dX10_reckon_9 : decode cX10_reckon 9 = .ok (.getfield 21, 3) := by decide +kernel
theorem dX10_reckon_12 : decode cX10_reckon 12 = .ok (.invokevirtual 212, 3) := by decide +kernel
theorem dX10_reckon_15 : decode cX10_reckon 15 = .ok (.lstore 4, 2) := by decide +kernel
theorem dX10_reckon_17 : decode cX10_reckon 17 = .ok (.lload 4, 2) := by decide +kernel
theorem dX10_reckon_19 : decode cX10_reckon 19 = .ok (.invokestatic 215, 3) := by decide +kernel
theorem dX10_reckon_22 : decode cX10_reckon 22 = .ok (.ifCond .eq 27, 3) := by decide +kernel
theorem dX10_reckon_25 : decode cX10_reckon 25 = .ok (.lload_n 2, 1) := by decide +kernel
theorem dX10_reckon_26 : decode cX10_reckon 26 = .ok (.invokestatic 215, 3) := by decide +kernel
theorem dX10_reckon_29 : decode cX10_reckon 29 = .ok (.ifCond .eq 20, 3) := by decide +kernel
theorem dX10_reckon_32 : decode cX10_reckon 32 = .ok (.aload_n 0, 1) := by decide +kernel
theorem dX10_reckon_33 : decode cX10_reckon 33 = .ok (.getfield 21, 3) := by decide +kernel
theorem dX10_reckon_36 : decode cX10_reckon 36 = .ok (.iload_n 1, 1) := by decide +kernel
theorem dX10_reckon_37 : decode cX10_reckon 37 = .ok (.lload 4, 2) := by decide +kernel
theorem dX10_reckon_39 : decode cX10_reckon 39 = .ok (.lload_n 2, 1) := by decide +kernel
theorem dX10_reckon_40 : decode cX10_reckon 40 = .ok (.invokestatic 247, 3) := by decide +kernel
theorem dX10_reckon_43 : decode cX10_reckon 43 = .ok (.invokevirtual 155, 3) := by decide +kernel
theorem dX10_reckon_46 : decode cX10_reckon 46 = .ok (.goto 19, 3) := by decide +kernel
theorem dX10_reckon_49 : decode cX10_reckon 49 = .ok (.aload_n 0, 1) := by decide +kernel
theorem dX10_reckon_50 : decode cX10_reckon 50 = .ok (.getfield 21, 3) := by decide +kernel
theorem dX10_reckon_53 : decode cX10_reckon 53 = .ok (.aload_n 0, 1) := by decide +kernel
theorem dX10_reckon_54 : decode cX10_reckon 54 = .ok (.iconst 0, 1) := by decide +kernel
theorem dX10_reckon_55 : decode cX10_reckon 55 = .ok (.iload_n 1, 1) := by decide +kernel
theorem dX10_reckon_56 : decode cX10_reckon 56 = .ok (.lload 4, 2) := by decide +kernel
theorem dX10_reckon_58 : decode cX10_reckon 58 = .ok (.lload_n 2, 1) := by decide +kernel
theorem dX10_reckon_59 : decode cX10_reckon 59 = .ok (.invokevirtual 191, 3) := by decide +kernel
theorem dX10_reckon_62 : decode cX10_reckon 62 = .ok (.invokevirtual 155, 3) := by decide +kernel
theorem dX10_reckon_65 : decode cX10_reckon 65 = .ok (.return_, 1) := by decide +kernel
theorem dX10_turn_0 : decode cX10_turn 0 = .ok (.aload_n 0, 1) := by decide +kernel
theorem dX10_turn_1 : decode cX10_turn 1 = .ok (.getfield 21, 3) := by decide +kernel
theorem dX10_turn_4 : decode cX10_turn 4 = .ok (.invokevirtual 212, 3) := by decide +kernel
theorem dX10_turn_7 : decode cX10_turn 7 = .ok (.lstore_n 2, 1) := by decide +kernel
theorem dX10_turn_8 : decode cX10_turn 8 = .ok (.lload_n 2, 1) := by decide +kernel
theorem dX10_turn_9 : decode cX10_turn 9 = .ok (.invokestatic 215, 3) := by decide +kernel
theorem dX10_turn_12 : decode cX10_turn 12 = .ok (.ifCond .eq 16, 3) := by decide +kernel
theorem dX10_turn_15 : decode cX10_turn 15 = .ok (.aload_n 0, 1) := by decide +kernel
theorem dX10_turn_16 : decode cX10_turn 16 = .ok (.getfield 21, 3) := by decide +kernel
theorem dX10_turn_19 : decode cX10_turn 19 = .ok (.iload_n 1, 1) := by decide +kernel
theorem dX10_turn_20 : decode cX10_turn 20 = .ok (.lload_n 2, 1) := by decide +kernel
theorem dX10_turn_21 : decode cX10_turn 21 = .ok (.invokestatic 251, 3) := by decide +kernel
theorem dX10_turn_24 : decode cX10_turn 24 = .ok (.invokevirtual 155, 3) := by decide +kernel
theorem dX10_turn_27 : decode cX10_turn 27 = .ok (.return_, 1) := by decide +kernel
theorem dX10_turn_28 : decode cX10_turn 28 = .ok (.iload_n 1, 1) := by decide +kernel
theorem dX10_turn_29 : decode cX10_turn 29 = .ok (.bipush 36, 2) := by decide +kernel
theorem dX10_turn_31 : decode cX10_turn 31 = .ok (.if_icmp .ne 7, 3) := by decide +kernel
theorem dX10_turn_34 : decode cX10_turn 34 = .ok (.iconst 1, 1) := by decide +kernel
theorem dX10_turn_35 : decode cX10_turn 35 = .ok (.goto 14, 3) := by decide +kernel
theorem dX10_turn_38 : decode cX10_turn 38 = .ok (.iload_n 1, 1) := by decide +kernel
theorem dX10_turn_39 : decode cX10_turn 39 = .ok (.bipush 94, 2) := by decide +kernel
theorem dX10_turn_41 : decode cX10_turn 41 = .ok (.if_icmp .ne 7, 3) := by decide +kernel
theorem dX10_turn_44 : decode cX10_turn 44 = .ok (.iconst 2, 1) := by decide +kernel
theorem dX10_turn_45 : decode cX10_turn 45 = .ok (.goto 4, 3) := by decide +kernel
theorem dX10_turn_48 : decode cX10_turn 48 = .ok (.iconst 3, 1) := by decide +kernel
theorem dX10_turn_49 : decode cX10_turn 49 = .ok (.istore 4, 2) := by decide +kernel
theorem dX10_turn_51 : decode cX10_turn 51 = .ok (.aload_n 0, 1) := by decide +kernel
theorem dX10_turn_52 : decode cX10_turn 52 = .ok (.getfield 21, 3) := by decide +kernel
theorem dX10_turn_55 : decode cX10_turn 55 = .ok (.aload_n 0, 1) := by decide +kernel
theorem dX10_turn_56 : decode cX10_turn 56 = .ok (.iload 4, 2) := by decide +kernel
theorem dX10_turn_58 : decode cX10_turn 58 = .ok (.iconst 0, 1) := by decide +kernel
theorem dX10_turn_59 : decode cX10_turn 59 = .ok (.lload_n 2, 1) := by decide +kernel
theorem dX10_turn_60 : decode cX10_turn 60 = .ok (.lconst 0, 1) := by decide +kernel
theorem dX10_turn_61 : decode cX10_turn 61 = .ok (.invokevirtual 191, 3) := by decide +kernel
theorem dX10_turn_64 : decode cX10_turn 64 = .ok (.invokevirtual 155, 3) := by decide +kernel
theorem dX10_turn_67 : decode cX10_turn 67 = .ok (.return_, 1) := by decide +kernel
theorem dX10_takePart_0 : decode cX10_takePart 0 = .ok (.aload_n 0, 1) := by decide +kernel
theorem dX10_takePart_1 : decode cX10_takePart 1 = .ok (.getfield 21, 3) := by decide +kernel
theorem dX10_takePart_4 : decode cX10_takePart 4 = .ok (.invokevirtual 135, 3) := by decide +kernel
theorem dX10_takePart_7 : decode cX10_takePart 7 = .ok (.lstore_n 2, 1) := by decide +kernel
theorem dX10_takePart_8 : decode cX10_takePart 8 = .ok (.iload_n 1, 1) := by decide +kernel
theorem dX10_takePart_9 : decode cX10_takePart 9 = .ok (.bipush 64, 2) := by decide +kernel
theorem dX10_takePart_11 : decode cX10_takePart 11 = .ok (.if_icmp .ne 7, 3) := by decide +kernel
theorem dX10_takePart_14 : decode cX10_takePart 14 = .ok (.iconst 1, 1) := by decide +kernel
theorem dX10_takePart_15 : decode cX10_takePart 15 = .ok (.goto 4, 3) := by decide +kernel
theorem dX10_takePart_18 : decode cX10_takePart 18 = .ok (.iconst 0, 1) := by decide +kernel
theorem dX10_takePart_19 : decode cX10_takePart 19 = .ok (.istore 4, 2) := by decide +kernel
theorem dX10_takePart_21 : decode cX10_takePart 21 = .ok (.lload_n 2, 1) := by decide +kernel
theorem dX10_takePart_22 : decode cX10_takePart 22 = .ok (.invokestatic 253, 3) := by decide +kernel
theorem dX10_takePart_25 : decode cX10_takePart 25 = .ok (.iconst 3, 1) := by decide +kernel
theorem dX10_takePart_26 : decode cX10_takePart 26 = .ok (.if_icmp .ne 30, 3) := by decide +kernel
theorem dX10_takePart_29 : decode cX10_takePart 29 = .ok (.aload_n 0, 1) := by decide +kernel
theorem dX10_takePart_30 : decode cX10_takePart 30 = .ok (.getfield 21, 3) := by decide +kernel
theorem dX10_takePart_33 : decode cX10_takePart 33 = .ok (.aload_n 0, 1) := by decide +kernel
theorem dX10_takePart_34 : decode cX10_takePart 34 = .ok (.iload 4, 2) := by decide +kernel
theorem dX10_takePart_36 : decode cX10_takePart 36 = .ok (.ifCond .eq 7, 3) := by decide +kernel
theorem dX10_takePart_39 : decode cX10_takePart 39 = .ok (.iconst 4, 1) := by decide +kernel
theorem dX10_takePart_40 : decode cX10_takePart 40 = .ok (.goto 4, 3) := by decide +kernel
theorem dX10_takePart_43 : decode cX10_takePart 43 = .ok (.iconst 5, 1) := by decide +kernel
theorem dX10_takePart_44 : decode cX10_takePart 44 = .ok (.iconst 0, 1) := by decide +kernel
theorem dX10_takePart_45 : decode cX10_takePart 45 = .ok (.lload_n 2, 1) := by decide +kernel
theorem dX10_takePart_46 : decode cX10_takePart 46 = .ok (.lconst 0, 1) := by decide +kernel
theorem dX10_takePart_47 : decode cX10_takePart 47 = .ok (.invokevirtual 191, 3) := by decide +kernel
theorem dX10_takePart_50 : decode cX10_takePart 50 = .ok (.invokevirtual 155, 3) := by decide +kernel
theorem dX10_takePart_53 : decode cX10_takePart 53 = .ok (.goto 34, 3) := by decide +kernel
theorem dX10_takePart_56 : decode cX10_takePart 56 = .ok (.aload_n 0, 1) := by decide +kernel
theorem dX10_takePart_57 : decode cX10_takePart 57 = .ok (.getfield 21, 3) := by decide +kernel
theorem dX10_takePart_60 : decode cX10_takePart 60 = .ok (.iload 4, 2) := by decide +kernel
theorem dX10_takePart_62 : decode cX10_takePart 62 = .ok (.ifCond .eq 14, 3) := by decide +kernel
theorem dX10_takePart_65 : decode cX10_takePart 65 = .ok (.aload_n 0, 1) := by decide +kernel
theorem dX10_takePart_66 : decode cX10_takePart 66 = .ok (.getfield 21, 3) := by decide +kernel
theorem dX10_takePart_69 : decode cX10_takePart 69 = .ok (.lload_n 2, 1) := by decide +kernel
theorem dX10_takePart_70 : decode cX10_takePart 70 = .ok (.invokevirtual 241, 3) := by decide +kernel
theorem dX10_takePart_73 : decode cX10_takePart 73 = .ok (.goto 11, 3) := by decide +kernel
theorem dX10_takePart_76 : decode cX10_takePart 76 = .ok (.aload_n 0, 1) := by decide +kernel
theorem dX10_takePart_77 : decode cX10_takePart 77 = .ok (.getfield 21, 3) := by decide +kernel
theorem dX10_takePart_80 : decode cX10_takePart 80 = .ok (.lload_n 2, 1) := by decide +kernel
theorem dX10_takePart_81 : decode cX10_takePart 81 = .ok (.invokevirtual 244, 3) := by decide +kernel
theorem dX10_takePart_84 : decode cX10_takePart 84 = .ok (.invokevirtual 155, 3) := by decide +kernel
theorem dX10_takePart_87 : decode cX10_takePart 87 = .ok (.return_, 1) := by decide +kernel
theorem dX10_makePair_0 : decode cX10_makePair 0 = .ok (.aload_n 0, 1) := by decide +kernel
theorem dX10_makePair_1 : decode cX10_makePair 1 = .ok (.getfield 21, 3) := by decide +kernel
theorem dX10_makePair_4 : decode cX10_makePair 4 = .ok (.invokevirtual 135, 3) := by decide +kernel
theorem dX10_makePair_7 : decode cX10_makePair 7 = .ok (.lstore_n 1, 1) := by decide +kernel
theorem dX10_makePair_8 : decode cX10_makePair 8 = .ok (.aload_n 0, 1) := by decide +kernel
theorem dX10_makePair_9 : decode cX10_makePair 9 = .ok (.getfield 21, 3) := by decide +kernel
theorem dX10_makePair_12 : decode cX10_makePair 12 = .ok (.invokevirtual 135, 3) := by decide +kernel
theorem dX10_makePair_15 : decode cX10_makePair 15 = .ok (.lstore_n 3, 1) := by decide +kernel
theorem dX10_makePair_16 : decode cX10_makePair 16 = .ok (.aload_n 0, 1) := by decide +kernel
theorem dX10_makePair_17 : decode cX10_makePair 17 = .ok (.getfield 21, 3) := by decide +kernel
theorem dX10_makePair_20 : decode cX10_makePair 20 = .ok (.lload_n 3, 1) := by decide +kernel
theorem dX10_makePair_21 : decode cX10_makePair 21 = .ok (.lload_n 1, 1) := by decide +kernel
theorem dX10_makePair_22 : decode cX10_makePair 22 = .ok (.invokevirtual 257, 3) := by decide +kernel
theorem dX10_makePair_25 : decode cX10_makePair 25 = .ok (.ifCond .eq 12, 3) := by decide +kernel
theorem dX10_makePair_28 : decode cX10_makePair 28 = .ok (.aload_n 0, 1) := by decide +kernel
theorem dX10_makePair_29 : decode cX10_makePair 29 = .ok (.bipush (-5), 2) := by decide +kernel
theorem dX10_makePair_31 : decode cX10_makePair 31 = .ok (.invokevirtual 227, 3) := by decide +kernel
theorem dX10_makePair_34 : decode cX10_makePair 34 = .ok (.goto 19, 3) := by decide +kernel
theorem dX10_makePair_37 : decode cX10_makePair 37 = .ok (.aload_n 0, 1) := by decide +kernel
theorem dX10_makePair_38 : decode cX10_makePair 38 = .ok (.getfield 21, 3) := by decide +kernel
theorem dX10_makePair_41 : decode cX10_makePair 41 = .ok (.aload_n 0, 1) := by decide +kernel
theorem dX10_makePair_42 : decode cX10_makePair 42 = .ok (.getfield 21, 3) := by decide +kernel
theorem dX10_makePair_45 : decode cX10_makePair 45 = .ok (.lload_n 3, 1) := by decide +kernel
theorem dX10_makePair_46 : decode cX10_makePair 46 = .ok (.lload_n 1, 1) := by decide +kernel
theorem dX10_makePair_47 : decode cX10_makePair 47 = .ok (.invokevirtual 261, 3) := by decide +kernel
theorem dX10_makePair_50 : decode cX10_makePair 50 = .ok (.invokevirtual 155, 3) := by decide +kernel
theorem dX10_makePair_53 : decode cX10_makePair 53 = .ok (.return_, 1) := by decide +kernel
theorem dX10_test_0 : decode cX10_test 0 = .ok (.aload_n 0, 1) := by decide +kernel
theorem dX10_test_1 : decode cX10_test 1 = .ok (.getfield 21, 3) := by decide +kernel
theorem dX10_test_4 : decode cX10_test 4 = .ok (.invokevirtual 212, 3) := by decide +kernel
theorem dX10_test_7 : decode cX10_test 7 = .ok (.lstore_n 2, 1) := by decide +kernel
theorem dX10_test_8 : decode cX10_test 8 = .ok (.lload_n 2, 1) := by decide +kernel
theorem dX10_test_9 : decode cX10_test 9 = .ok (.invokestatic 215, 3) := by decide +kernel
theorem dX10_test_12 : decode cX10_test 12 = .ok (.ifCond .eq 29, 3) := by decide +kernel
theorem dX10_test_15 : decode cX10_test 15 = .ok (.aload_n 0, 1) := by decide +kernel
theorem dX10_test_16 : decode cX10_test 16 = .ok (.lload_n 2, 1) := by decide +kernel
theorem dX10_test_17 : decode cX10_test 17 = .ok (.iconst (-1), 1) := by decide +kernel
theorem dX10_test_18 : decode cX10_test 18 = .ok (.invokevirtual 265, 3) := by decide +kernel
theorem dX10_test_21 : decode cX10_test 21 = .ok (.aload_n 0, 1) := by decide +kernel
theorem dX10_test_22 : decode cX10_test 22 = .ok (.lload_n 2, 1) := by decide +kernel
theorem dX10_test_23 : decode cX10_test 23 = .ok (.invokestatic 269, 3) := by decide +kernel
theorem dX10_test_26 : decode cX10_test 26 = .ok (.ifCond .eq 10, 3) := by decide +kernel
theorem dX10_test_29 : decode cX10_test 29 = .ok (.aload_n 0, 1) := by decide +kernel
theorem dX10_test_30 : decode cX10_test 30 = .ok (.getfield 73, 3) := by decide +kernel
theorem dX10_test_33 : decode cX10_test 33 = .ok (.goto 4, 3) := by decide +kernel
theorem dX10_test_36 : decode cX10_test 36 = .ok (.iload_n 1, 1) := by decide +kernel
theorem dX10_test_37 : decode cX10_test 37 = .ok (.putfield 73, 3) := by decide +kernel
theorem dX10_test_40 : decode cX10_test 40 = .ok (.return_, 1) := by decide +kernel
theorem dX10_test_41 : decode cX10_test 41 = .ok (.aload_n 0, 1) := by decide +kernel
theorem dX10_test_42 : decode cX10_test 42 = .ok (.getfield 25, 3) := by decide +kernel
theorem dX10_test_45 : decode cX10_test 45 = .ok (.invokevirtual 104, 3) := by decide +kernel
theorem dX10_test_48 : decode cX10_test 48 = .ok (.istore 4, 2) := by decide +kernel
theorem dX10_test_50 : decode cX10_test 50 = .ok (.aload_n 0, 1) := by decide +kernel
theorem dX10_test_51 : decode cX10_test 51 = .ok (.lload_n 2, 1) := by decide +kernel
theorem dX10_test_52 : decode cX10_test 52 = .ok (.iload 4, 2) := by decide +kernel
theorem dX10_test_54 : decode cX10_test 54 = .ok (.invokevirtual 265, 3) := by decide +kernel
theorem dX10_test_57 : decode cX10_test 57 = .ok (.aload_n 0, 1) := by decide +kernel
theorem dX10_test_58 : decode cX10_test 58 = .ok (.dup, 1) := by decide +kernel
theorem dX10_test_59 : decode cX10_test 59 = .ok (.getfield 121, 3) := by decide +kernel
theorem dX10_test_62 : decode cX10_test 62 = .ok (.iconst 1, 1) := by decide +kernel
theorem dX10_test_63 : decode cX10_test 63 = .ok (.iadd, 1) := by decide +kernel
theorem dX10_test_64 : decode cX10_test 64 = .ok (.putfield 121, 3) := by decide +kernel
theorem dX10_test_67 : decode cX10_test 67 = .ok (.aload_n 0, 1) := by decide +kernel
theorem dX10_test_68 : decode cX10_test 68 = .ok (.iload 4, 2) := by decide +kernel
theorem dX10_test_70 : decode cX10_test 70 = .ok (.putfield 108, 3) := by decide +kernel
theorem dX10_test_73 : decode cX10_test 73 = .ok (.return_, 1) := by decide +kernel
theorem dX10_openBranch_0 : decode cX10_openBranch 0 = .ok (.aload_n 0, 1) := by decide +kernel
theorem dX10_openBranch_1 : decode cX10_openBranch 1 = .ok (.getfield 118, 3) := by decide +kernel
theorem dX10_openBranch_4 : decode cX10_openBranch 4 = .ok (.sipush 260, 3) := by decide +kernel
theorem dX10_openBranch_7 : decode cX10_openBranch 7 = .ok (.if_icmp .ge 44, 3) := by decide +kernel
theorem dX10_openBranch_10 : decode cX10_openBranch 10 = .ok (.aload_n 0, 1) := by decide +kernel
theorem dX10_openBranch_11 : decode cX10_openBranch 11 = .ok (.getfield 37, 3) := by decide +kernel
theorem dX10_openBranch_14 : decode cX10_openBranch 14 = .ok (.aload_n 0, 1) := by decide +kernel
theorem dX10_openBranch_15 : decode cX10_openBranch 15 = .ok (.getfield 118, 3) := by decide +kernel
theorem dX10_openBranch_18 : decode cX10_openBranch 18 = .ok (.lload_n 1, 1) := by decide +kernel
theorem dX10_openBranch_19 : decode cX10_openBranch 19 = .ok (.lastore, 1) := by decide +kernel
theorem dX10_openBranch_20 : decode cX10_openBranch 20 = .ok (.aload_n 0, 1) := by decide +kernel
theorem dX10_openBranch_21 : decode cX10_openBranch 21 = .ok (.dup, 1) := by decide +kernel
theorem dX10_openBranch_22 : decode cX10_openBranch 22 = .ok (.getfield 118, 3) := by decide +kernel
theorem dX10_openBranch_25 : decode cX10_openBranch 25 = .ok (.iconst 1, 1) := by decide +kernel
theorem dX10_openBranch_26 : decode cX10_openBranch 26 = .ok (.iadd, 1) := by decide +kernel
theorem dX10_openBranch_27 : decode cX10_openBranch 27 = .ok (.putfield 118, 3) := by decide +kernel
theorem dX10_openBranch_30 : decode cX10_openBranch 30 = .ok (.aload_n 0, 1) := by decide +kernel
theorem dX10_openBranch_31 : decode cX10_openBranch 31 = .ok (.iconst 0, 1) := by decide +kernel
theorem dX10_openBranch_32 : decode cX10_openBranch 32 = .ok (.aload_n 0, 1) := by decide +kernel
theorem dX10_openBranch_33 : decode cX10_openBranch 33 = .ok (.getfield 108, 3) := by decide +kernel
theorem dX10_openBranch_36 : decode cX10_openBranch 36 = .ok (.invokevirtual 272, 3) := by decide +kernel
theorem dX10_openBranch_39 : decode cX10_openBranch 39 = .ok (.aload_n 0, 1) := by decide +kernel
theorem dX10_openBranch_40 : decode cX10_openBranch 40 = .ok (.iconst 1, 1) := by decide +kernel
theorem dX10_openBranch_41 : decode cX10_openBranch 41 = .ok (.iload_n 3, 1) := by decide +kernel
theorem dX10_openBranch_42 : decode cX10_openBranch 42 = .ok (.invokevirtual 272, 3) := by decide +kernel
theorem dX10_openBranch_45 : decode cX10_openBranch 45 = .ok (.aload_n 0, 1) := by decide +kernel
theorem dX10_openBranch_46 : decode cX10_openBranch 46 = .ok (.iconst 2, 1) := by decide +kernel
theorem dX10_openBranch_47 : decode cX10_openBranch 47 = .ok (.iconst (-1), 1) := by decide +kernel
theorem dX10_openBranch_48 : decode cX10_openBranch 48 = .ok (.invokevirtual 272, 3) := by decide +kernel
theorem dX10_openBranch_51 : decode cX10_openBranch 51 = .ok (.return_, 1) := by decide +kernel
theorem dX10_branch_0 : decode cX10_branch 0 = .ok (.aload_n 0, 1) := by decide +kernel
theorem dX10_branch_1 : decode cX10_branch 1 = .ok (.getfield 118, 3) := by decide +kernel
theorem dX10_branch_4 : decode cX10_branch 4 = .ok (.iconst 1, 1) := by decide +kernel
theorem dX10_branch_5 : decode cX10_branch 5 = .ok (.if_icmp .ge 7, 3) := by decide +kernel
theorem dX10_branch_8 : decode cX10_branch 8 = .ok (.iconst (-1), 1) := by decide +kernel
theorem dX10_branch_9 : decode cX10_branch 9 = .ok (.goto 18, 3) := by decide +kernel
theorem dX10_branch_12 : decode cX10_branch 12 = .ok (.aload_n 0, 1) := by decide +kernel
theorem dX10_branch_13 : decode cX10_branch 13 = .ok (.getfield 33, 3) := by decide +kernel
theorem dX10_branch_16 : decode cX10_branch 16 = .ok (.aload_n 0, 1) := by decide +kernel
theorem dX10_branch_17 : decode cX10_branch 17 = .ok (.getfield 118, 3) := by decide +kernel
theorem dX10_branch_20 : decode cX10_branch 20 = .ok (.iconst 1, 1) := by decide +kernel
theorem dX10_branch_21 : decode cX10_branch 21 = .ok (.isub, 1) := by decide +kernel
theorem dX10_branch_22 : decode cX10_branch 22 = .ok (.iconst 3, 1) := by decide +kernel
theorem dX10_branch_23 : decode cX10_branch 23 = .ok (.imul, 1) := by decide +kernel
theorem dX10_branch_24 : decode cX10_branch 24 = .ok (.iload_n 1, 1) := by decide +kernel
theorem dX10_branch_25 : decode cX10_branch 25 = .ok (.iadd, 1) := by decide +kernel
theorem dX10_branch_26 : decode cX10_branch 26 = .ok (.iaload, 1) := by decide +kernel
theorem dX10_branch_27 : decode cX10_branch 27 = .ok (.ireturn, 1) := by decide +kernel
theorem dX10_setBranch_0 : decode cX10_setBranch 0 = .ok (.aload_n 0, 1) := by decide +kernel
theorem dX10_setBranch_1 : decode cX10_setBranch 1 = .ok (.getfield 118, 3) := by decide +kernel
theorem dX10_setBranch_4 : decode cX10_setBranch 4 = .ok (.iconst 1, 1) := by decide +kernel
theorem dX10_setBranch_5 : decode cX10_setBranch 5 = .ok (.if_icmp .lt 19, 3) := by decide +kernel
theorem dX10_setBranch_8 : decode cX10_setBranch 8 = .ok (.aload_n 0, 1) := by decide +kernel
theorem dX10_setBranch_9 : decode cX10_setBranch 9 = .ok (.getfield 33, 3) := by decide +kernel
theorem dX10_setBranch_12 : decode cX10_setBranch 12 = .ok (.aload_n 0, 1) := by decide +kernel
theorem dX10_setBranch_13 : decode cX10_setBranch 13 = .ok (.getfield 118, 3) := by decide +kernel
theorem dX10_setBranch_16 : decode cX10_setBranch 16 = .ok (.iconst 1, 1) := by decide +kernel
theorem dX10_setBranch_17 : decode cX10_setBranch 17 = .ok (.isub, 1) := by decide +kernel
theorem dX10_setBranch_18 : decode cX10_setBranch 18 = .ok (.iconst 3, 1) := by decide +kernel
theorem dX10_setBranch_19 : decode cX10_setBranch 19 = .ok (.imul, 1) := by decide +kernel
theorem dX10_setBranch_20 : decode cX10_setBranch 20 = .ok (.iload_n 1, 1) := by decide +kernel
theorem dX10_setBranch_21 : decode cX10_setBranch 21 = .ok (.iadd, 1) := by decide +kernel
theorem dX10_setBranch_22 : decode cX10_setBranch 22 = .ok (.iload_n 2, 1) := by decide +kernel
theorem dX10_setBranch_23 : decode cX10_setBranch 23 = .ok (.iastore, 1) := by decide +kernel
theorem dX10_setBranch_24 : decode cX10_setBranch 24 = .ok (.return_, 1) := by decide +kernel
theorem dX10_closeBranch_0 : decode cX10_closeBranch 0 = .ok (.aload_n 0, 1) := by decide +kernel
theorem dX10_closeBranch_1 : decode cX10_closeBranch 1 = .ok (.iconst 0, 1) := by decide +kernel
theorem dX10_closeBranch_2 : decode cX10_closeBranch 2 = .ok (.aload_n 0, 1) := by decide +kernel
theorem dX10_closeBranch_3 : decode cX10_closeBranch 3 = .ok (.getfield 118, 3) := by decide +kernel
theorem dX10_closeBranch_6 : decode cX10_closeBranch 6 = .ok (.iconst 1, 1) := by decide +kernel
theorem dX10_closeBranch_7 : decode cX10_closeBranch 7 = .ok (.isub, 1) := by decide +kernel
theorem dX10_closeBranch_8 : decode cX10_closeBranch 8 = .ok (.invokestatic 275, 3) := by decide +kernel
theorem dX10_closeBranch_11 : decode cX10_closeBranch 11 = .ok (.putfield 118, 3) := by decide +kernel
theorem dX10_closeBranch_14 : decode cX10_closeBranch 14 = .ok (.return_, 1) := by decide +kernel
theorem dX10_endThen_0 : decode cX10_endThen 0 = .ok (.aload_n 0, 1) := by decide +kernel
theorem dX10_endThen_1 : decode cX10_endThen 1 = .ok (.iconst 1, 1) := by decide +kernel
theorem dX10_endThen_2 : decode cX10_endThen 2 = .ok (.invokevirtual 280, 3) := by decide +kernel
theorem dX10_endThen_5 : decode cX10_endThen 5 = .ok (.iconst (-1), 1) := by decide +kernel
theorem dX10_endThen_6 : decode cX10_endThen 6 = .ok (.if_icmp .ne 13, 3) := by decide +kernel
theorem dX10_endThen_9 : decode cX10_endThen 9 = .ok (.aload_n 0, 1) := by decide +kernel
theorem dX10_endThen_10 : decode cX10_endThen 10 = .ok (.invokevirtual 283, 3) := by decide +kernel
theorem dX10_endThen_13 : decode cX10_endThen 13 = .ok (.aload_n 0, 1) := by decide +kernel
theorem dX10_endThen_14 : decode cX10_endThen 14 = .ok (.iload_n 1, 1) := by decide +kernel
theorem dX10_endThen_15 : decode cX10_endThen 15 = .ok (.putfield 73, 3) := by decide +kernel
theorem dX10_endThen_18 : decode cX10_endThen 18 = .ok (.return_, 1) := by decide +kernel
theorem dX10_endThen_19 : decode cX10_endThen 19 = .ok (.aload_n 0, 1) := by decide +kernel
theorem dX10_endThen_20 : decode cX10_endThen 20 = .ok (.getfield 25, 3) := by decide +kernel
theorem dX10_endThen_23 : decode cX10_endThen 23 = .ok (.aload_n 0, 1) := by decide +kernel
theorem dX10_endThen_24 : decode cX10_endThen 24 = .ok (.getfield 108, 3) := by decide +kernel
theorem dX10_endThen_27 : decode cX10_endThen 27 = .ok (.aload_n 0, 1) := by decide +kernel
theorem dX10_endThen_28 : decode cX10_endThen 28 = .ok (.aload_n 0, 1) := by decide +kernel
theorem dX10_endThen_29 : decode cX10_endThen 29 = .ok (.getfield 21, 3) := by decide +kernel
theorem dX10_endThen_32 : decode cX10_endThen 32 = .ok (.invokevirtual 135, 3) := by decide +kernel
theorem dX10_endThen_35 : decode cX10_endThen 35 = .ok (.iconst 0, 1) := by decide +kernel
theorem dX10_endThen_36 : decode cX10_endThen 36 = .ok (.invokevirtual 139, 3) := by decide +kernel
theorem dX10_endThen_39 : decode cX10_endThen 39 = .ok (.invokevirtual 143, 3) := by decide +kernel
theorem dX10_endThen_42 : decode cX10_endThen 42 = .ok (.aload_n 0, 1) := by decide +kernel
theorem dX10_endThen_43 : decode cX10_endThen 43 = .ok (.aload_n 0, 1) := by decide +kernel
theorem dX10_endThen_44 : decode cX10_endThen 44 = .ok (.getfield 25, 3) := by decide +kernel
theorem dX10_endThen_47 : decode cX10_endThen 47 = .ok (.invokevirtual 104, 3) := by decide +kernel
theorem dX10_endThen_50 : decode cX10_endThen 50 = .ok (.putfield 108, 3) := by decide +kernel
theorem dX10_endThen_53 : decode cX10_endThen 53 = .ok (.aload_n 0, 1) := by decide +kernel
theorem dX10_endThen_54 : decode cX10_endThen 54 = .ok (.iconst 2, 1) := by decide +kernel
theorem dX10_endThen_55 : decode cX10_endThen 55 = .ok (.aload_n 0, 1) := by decide +kernel
theorem dX10_endThen_56 : decode cX10_endThen 56 = .ok (.getfield 108, 3) := by decide +kernel
theorem dX10_endThen_59 : decode cX10_endThen 59 = .ok (.invokevirtual 272, 3) := by decide +kernel
theorem dX10_endThen_62 : decode cX10_endThen 62 = .ok (.return_, 1) := by decide +kernel
theorem dX10_endElse_0 : decode cX10_endElse 0 = .ok (.aload_n 0, 1) := by decide +kernel
theorem dX10_endElse_1 : decode cX10_endElse 1 = .ok (.iconst 1, 1) := by decide +kernel
theorem dX10_endElse_2 : decode cX10_endElse 2 = .ok (.invokevirtual 280, 3) := by decide +kernel
theorem dX10_endElse_5 : decode cX10_endElse 5 = .ok (.istore_n 1, 1) := by decide +kernel
theorem dX10_endElse_6 : decode cX10_endElse 6 = .ok (.aload_n 0, 1) := by decide +kernel
theorem dX10_endElse_7 : decode cX10_endElse 7 = .ok (.iconst 2, 1) := by decide +kernel
theorem dX10_endElse_8 : decode cX10_endElse 8 = .ok (.invokevirtual 280, 3) := by decide +kernel
theorem dX10_endElse_11 : decode cX10_endElse 11 = .ok (.istore_n 2, 1) := by decide +kernel
theorem dX10_endElse_12 : decode cX10_endElse 12 = .ok (.iload_n 1, 1) := by decide +kernel
theorem dX10_endElse_13 : decode cX10_endElse 13 = .ok (.iconst (-1), 1) := by decide +kernel
theorem dX10_endElse_14 : decode cX10_endElse 14 = .ok (.if_icmp .eq 11, 3) := by decide +kernel
theorem dX10_endElse_17 : decode cX10_endElse 17 = .ok (.aload_n 0, 1) := by decide +kernel
theorem dX10_endElse_18 : decode cX10_endElse 18 = .ok (.getfield 118, 3) := by decide +kernel
theorem dX10_endElse_21 : decode cX10_endElse 21 = .ok (.iconst 1, 1) := by decide +kernel
theorem dX10_endElse_22 : decode cX10_endElse 22 = .ok (.if_icmp .ge 8, 3) := by decide +kernel
theorem dX10_endElse_25 : decode cX10_endElse 25 = .ok (.aload_n 0, 1) := by decide +kernel
theorem dX10_endElse_26 : decode cX10_endElse 26 = .ok (.invokevirtual 283, 3) := by decide +kernel
theorem dX10_endElse_29 : decode cX10_endElse 29 = .ok (.return_, 1) := by decide +kernel
theorem dX10_endElse_30 : decode cX10_endElse 30 = .ok (.aload_n 0, 1) := by decide +kernel
theorem dX10_endElse_31 : decode cX10_endElse 31 = .ok (.getfield 25, 3) := by decide +kernel
theorem dX10_endElse_34 : decode cX10_endElse 34 = .ok (.aload_n 0, 1) := by decide +kernel
theorem dX10_endElse_35 : decode cX10_endElse 35 = .ok (.getfield 108, 3) := by decide +kernel
theorem dX10_endElse_38 : decode cX10_endElse 38 = .ok (.aload_n 0, 1) := by decide +kernel
theorem dX10_endElse_39 : decode cX10_endElse 39 = .ok (.aload_n 0, 1) := by decide +kernel
theorem dX10_endElse_40 : decode cX10_endElse 40 = .ok (.getfield 21, 3) := by decide +kernel
theorem dX10_endElse_43 : decode cX10_endElse 43 = .ok (.invokevirtual 135, 3) := by decide +kernel
theorem dX10_endElse_46 : decode cX10_endElse 46 = .ok (.iconst 0, 1) := by decide +kernel
theorem dX10_endElse_47 : decode cX10_endElse 47 = .ok (.invokevirtual 139, 3) := by decide +kernel
theorem dX10_endElse_50 : decode cX10_endElse 50 = .ok (.invokevirtual 143, 3) := by decide +kernel
theorem dX10_endElse_53 : decode cX10_endElse 53 = .ok (.aload_n 0, 1) := by decide +kernel
theorem dX10_endElse_54 : decode cX10_endElse 54 = .ok (.aload_n 0, 1) := by decide +kernel
theorem dX10_endElse_55 : decode cX10_endElse 55 = .ok (.iconst 0, 1) := by decide +kernel
theorem dX10_endElse_56 : decode cX10_endElse 56 = .ok (.invokevirtual 280, 3) := by decide +kernel
theorem dX10_endElse_59 : decode cX10_endElse 59 = .ok (.putfield 108, 3) := by decide +kernel
theorem dX10_endElse_62 : decode cX10_endElse 62 = .ok (.aload_n 0, 1) := by decide +kernel
theorem dX10_endElse_63 : decode cX10_endElse 63 = .ok (.bipush 6, 2) := by decide +kernel
theorem dX10_endElse_65 : decode cX10_endElse 65 = .ok (.iconst 0, 1) := by decide +kernel
theorem dX10_endElse_66 : decode cX10_endElse 66 = .ok (.aload_n 0, 1) := by decide +kernel
theorem dX10_endElse_67 : decode cX10_endElse 67 = .ok (.getfield 37, 3) := by decide +kernel
theorem dX10_endElse_70 : decode cX10_endElse 70 = .ok (.aload_n 0, 1) := by decide +kernel
theorem dX10_endElse_71 : decode cX10_endElse 71 = .ok (.getfield 118, 3) := by decide +kernel
theorem dX10_endElse_74 : decode cX10_endElse 74 = .ok (.iconst 1, 1) := by decide +kernel
theorem dX10_endElse_75 : decode cX10_endElse 75 = .ok (.isub, 1) := by decide +kernel
theorem dX10_endElse_76 : decode cX10_endElse 76 = .ok (.laload, 1) := by decide +kernel
theorem dX10_endElse_77 : decode cX10_endElse 77 = .ok (.lconst 0, 1) := by decide +kernel
theorem dX10_endElse_78 : decode cX10_endElse 78 = .ok (.invokevirtual 191, 3) := by decide +kernel
theorem dX10_endElse_81 : decode cX10_endElse 81 = .ok (.lstore_n 3, 1) := by decide +kernel
theorem dX10_endElse_82 : decode cX10_endElse 82 = .ok (.aload_n 0, 1) := by decide +kernel
theorem dX10_endElse_83 : decode cX10_endElse 83 = .ok (.invokevirtual 283, 3) := by decide +kernel
theorem dX10_endElse_86 : decode cX10_endElse 86 = .ok (.aload_n 0, 1) := by decide +kernel
theorem dX10_endElse_87 : decode cX10_endElse 87 = .ok (.dup, 1) := by decide +kernel
theorem dX10_endElse_88 : decode cX10_endElse 88 = .ok (.getfield 121, 3) := by decide +kernel
theorem dX10_endElse_91 : decode cX10_endElse 91 = .ok (.iconst 1, 1) := by decide +kernel
theorem dX10_endElse_92 : decode cX10_endElse 92 = .ok (.isub, 1) := by decide +kernel
theorem dX10_endElse_93 : decode cX10_endElse 93 = .ok (.putfield 121, 3) := by decide +kernel
theorem dX10_endElse_96 : decode cX10_endElse 96 = .ok (.aload_n 0, 1) := by decide +kernel
theorem dX10_endElse_97 : decode cX10_endElse 97 = .ok (.getfield 70, 3) := by decide +kernel
theorem dX10_endElse_100 : decode cX10_endElse 100 = .ok (.ifCond .eq 4, 3) := by decide +kernel
theorem dX10_endElse_103 : decode cX10_endElse 103 = .ok (.return_, 1) := by decide +kernel
theorem dX10_endElse_104 : decode cX10_endElse 104 = .ok (.aload_n 0, 1) := by decide +kernel
theorem dX10_endElse_105 : decode cX10_endElse 105 = .ok (.getfield 25, 3) := by decide +kernel
theorem dX10_endElse_108 : decode cX10_endElse 108 = .ok (.aload_n 0, 1) := by decide +kernel
theorem dX10_endElse_109 : decode cX10_endElse 109 = .ok (.getfield 25, 3) := by decide +kernel
theorem dX10_endElse_112 : decode cX10_endElse 112 = .ok (.getfield 286, 3) := by decide +kernel
theorem dX10_endElse_115 : decode cX10_endElse 115 = .ok (.iconst 1, 1) := by decide +kernel
theorem dX10_endElse_116 : decode cX10_endElse 116 = .ok (.isub, 1) := by decide +kernel
theorem dX10_endElse_117 : decode cX10_endElse 117 = .ok (.iconst 3, 1) := by decide +kernel
theorem dX10_endElse_118 : decode cX10_endElse 118 = .ok (.iload_n 1, 1) := by decide +kernel
theorem dX10_endElse_119 : decode cX10_endElse 119 = .ok (.invokevirtual 289, 3) := by decide +kernel
theorem dX10_endElse_122 : decode cX10_endElse 122 = .ok (.aload_n 0, 1) := by decide +kernel
theorem dX10_endElse_123 : decode cX10_endElse 123 = .ok (.getfield 25, 3) := by decide +kernel
theorem dX10_endElse_126 : decode cX10_endElse 126 = .ok (.aload_n 0, 1) := by decide +kernel
theorem dX10_endElse_127 : decode cX10_endElse 127 = .ok (.getfield 25, 3) := by decide +kernel
theorem dX10_endElse_130 : decode cX10_endElse 130 = .ok (.getfield 286, 3) := by decide +kernel
theorem dX10_endElse_133 : decode cX10_endElse 133 = .ok (.iconst 1, 1) := by decide +kernel
theorem dX10_endElse_134 : decode cX10_endElse 134 = .ok (.isub, 1) := by decide +kernel
theorem dX10_endElse_135 : decode cX10_endElse 135 = .ok (.iconst 4, 1) := by decide +kernel
theorem dX10_endElse_136 : decode cX10_endElse 136 = .ok (.iload_n 2, 1) := by decide +kernel
theorem dX10_endElse_137 : decode cX10_endElse 137 = .ok (.invokevirtual 289, 3) := by decide +kernel
theorem dX10_endElse_140 : decode cX10_endElse 140 = .ok (.aload_n 0, 1) := by decide +kernel
theorem dX10_endElse_141 : decode cX10_endElse 141 = .ok (.getfield 25, 3) := by decide +kernel
theorem dX10_endElse_144 : decode cX10_endElse 144 = .ok (.iload_n 1, 1) := by decide +kernel
theorem dX10_endElse_145 : decode cX10_endElse 145 = .ok (.invokevirtual 292, 3) := by decide +kernel
theorem dX10_endElse_148 : decode cX10_endElse 148 = .ok (.lstore 5, 2) := by decide +kernel
theorem dX10_endElse_150 : decode cX10_endElse 150 = .ok (.aload_n 0, 1) := by decide +kernel
theorem dX10_endElse_151 : decode cX10_endElse 151 = .ok (.getfield 21, 3) := by decide +kernel
theorem dX10_endElse_154 : decode cX10_endElse 154 = .ok (.lload 5, 2) := by decide +kernel
theorem dX10_endElse_156 : decode cX10_endElse 156 = .ok (.invokestatic 215, 3) := by decide +kernel
theorem dX10_endElse_159 : decode cX10_endElse 159 = .ok (.ifCond .eq 22, 3) := by decide +kernel
theorem dX10_endElse_162 : decode cX10_endElse 162 = .ok (.lload 5, 2) := by decide +kernel
theorem dX10_endElse_164 : decode cX10_endElse 164 = .ok (.aload_n 0, 1) := by decide +kernel
theorem dX10_endElse_165 : decode cX10_endElse 165 = .ok (.getfield 25, 3) := by decide +kernel
theorem dX10_endElse_168 : decode cX10_endElse 168 = .ok (.iload_n 2, 1) := by decide +kernel
theorem dX10_endElse_169 : decode cX10_endElse 169 = .ok (.invokevirtual 292, 3) := by decide +kernel
theorem dX10_endElse_172 : decode cX10_endElse 172 = .ok (.lcmp, 1) := by decide +kernel
theorem dX10_endElse_173 : decode cX10_endElse 173 = .ok (.ifCond .ne 8, 3) := by decide +kernel
theorem dX10_endElse_176 : decode cX10_endElse 176 = .ok (.lload 5, 2) := by decide +kernel
theorem dX10_endElse_178 : decode cX10_endElse 178 = .ok (.goto 4, 3) := by decide +kernel
theorem dX10_endElse_181 : decode cX10_endElse 181 = .ok (.lload_n 3, 1) := by decide +kernel
theorem dX10_endElse_182 : decode cX10_endElse 182 = .ok (.invokevirtual 155, 3) := by decide +kernel
theorem dX10_endElse_185 : decode cX10_endElse 185 = .ok (.return_, 1) := by decide +kernel
theorem dX10_workCall_0 : decode cX10_workCall 0 = .ok (.aload_n 0, 1) := by decide +kernel
theorem dX10_workCall_1 : decode cX10_workCall 1 = .ok (.getfield 29, 3) := by decide +kernel
theorem dX10_workCall_4 : decode cX10_workCall 4 = .ok (.iload_n 1, 1) := by decide +kernel
theorem dX10_workCall_5 : decode cX10_workCall 5 = .ok (.invokevirtual 79, 3) := by decide +kernel
theorem dX10_workCall_8 : decode cX10_workCall 8 = .ok (.istore_n 3, 1) := by decide +kernel
theorem dX10_workCall_9 : decode cX10_workCall 9 = .ok (.iload_n 3, 1) := by decide +kernel
theorem dX10_workCall_10 : decode cX10_workCall 10 = .ok (.iconst (-1), 1) := by decide +kernel
theorem dX10_workCall_11 : decode cX10_workCall 11 = .ok (.if_icmp .ne 29, 3) := by decide +kernel
theorem dX10_workCall_14 : decode cX10_workCall 14 = .ok (.aload_n 0, 1) := by decide +kernel
theorem dX10_workCall_15 : decode cX10_workCall 15 = .ok (.getfield 21, 3) := by decide +kernel
theorem dX10_workCall_18 : decode cX10_workCall 18 = .ok (.iload_n 2, 1) := by decide +kernel
theorem dX10_workCall_19 : decode cX10_workCall 19 = .ok (.invokevirtual 295, 3) := by decide +kernel
theorem dX10_workCall_22 : decode cX10_workCall 22 = .ok (.aload_n 0, 1) := by decide +kernel
theorem dX10_workCall_23 : decode cX10_workCall 23 = .ok (.getfield 21, 3) := by decide +kernel
theorem dX10_workCall_26 : decode cX10_workCall 26 = .ok (.aload_n 0, 1) := by decide +kernel
theorem dX10_workCall_27 : decode cX10_workCall 27 = .ok (.bipush 12, 2) := by decide +kernel
theorem dX10_workCall_29 : decode cX10_workCall 29 = .ok (.iconst 0, 1) := by decide +kernel
theorem dX10_workCall_30 : decode cX10_workCall 30 = .ok (.lconst 0, 1) := by decide +kernel
theorem dX10_workCall_31 : decode cX10_workCall 31 = .ok (.lconst 0, 1) := by decide +kernel
theorem dX10_workCall_32 : decode cX10_workCall 32 = .ok (.invokevirtual 191, 3) := by decide +kernel
theorem dX10_workCall_35 : decode cX10_workCall 35 = .ok (.invokevirtual 155, 3) := by decide +kernel
theorem dX10_workCall_38 : decode cX10_workCall 38 = .ok (.iconst 1, 1) := by decide +kernel
theorem dX10_workCall_39 : decode cX10_workCall 39 = .ok (.ireturn, 1) := by decide +kernel
theorem dX10_workCall_40 : decode cX10_workCall 40 = .ok (.aload_n 0, 1) := by decide +kernel
theorem dX10_workCall_41 : decode cX10_workCall 41 = .ok (.getfield 121, 3) := by decide +kernel
theorem dX10_workCall_44 : decode cX10_workCall 44 = .ok (.ifCond .gt 17, 3) := by decide +kernel
theorem dX10_workCall_47 : decode cX10_workCall 47 = .ok (.aload_n 0, 1) := by decide +kernel
theorem dX10_workCall_48 : decode cX10_workCall 48 = .ok (.getfield 21, 3) := by decide +kernel
theorem dX10_workCall_51 : decode cX10_workCall 51 = .ok (.getfield 298, 3) := by decide +kernel
