theorem dX5_firstOf_5 : decode cX5_firstOf 5 = .ok (.ifCond .eq 12, 3) := by decide +kernel
theorem dX5_firstOf_8 : decode cX5_firstOf 8 = .ok (.aload_n 0, 1) := by decide +kernel
theorem dX5_firstOf_9 : decode cX5_firstOf 9 = .ok (.getfield 19, 3) := by decide +kernel
theorem dX5_firstOf_12 : decode cX5_firstOf 12 = .ok (.iload_n 1, 1) := by decide +kernel
theorem dX5_firstOf_13 : decode cX5_firstOf 13 = .ok (.iaload, 1) := by decide +kernel
theorem dX5_firstOf_14 : decode cX5_firstOf 14 = .ok (.goto 4, 3) := by decide +kernel
theorem dX5_firstOf_17 : decode cX5_firstOf 17 = .ok (.iconst (-1), 1) := by decide +kernel
theorem dX5_firstOf_18 : decode cX5_firstOf 18 = .ok (.ireturn, 1) := by decide +kernel
theorem dX5_endOf_0 : decode cX5_endOf 0 = .ok (.aload_n 0, 1) := by decide +kernel
theorem dX5_endOf_1 : decode cX5_endOf 1 = .ok (.iload_n 1, 1) := by decide +kernel
theorem dX5_endOf_2 : decode cX5_endOf 2 = .ok (.invokevirtual 93, 3) := by decide +kernel
theorem dX5_endOf_5 : decode cX5_endOf 5 = .ok (.ifCond .eq 12, 3) := by decide +kernel
theorem dX5_endOf_8 : decode cX5_endOf 8 = .ok (.aload_n 0, 1) := by decide +kernel
theorem dX5_endOf_9 : decode cX5_endOf 9 = .ok (.getfield 25, 3) := by decide +kernel
theorem dX5_endOf_12 : decode cX5_endOf 12 = .ok (.iload_n 1, 1) := by decide +kernel
theorem dX5_endOf_13 : decode cX5_endOf 13 = .ok (.laload, 1) := by decide +kernel
theorem dX5_endOf_14 : decode cX5_endOf 14 = .ok (.goto 4, 3) := by decide +kernel
theorem dX5_endOf_17 : decode cX5_endOf 17 = .ok (.lconst 0, 1) := by decide +kernel
theorem dX5_endOf_18 : decode cX5_endOf 18 = .ok (.lreturn, 1) := by decide +kernel
theorem dX5_addInstruction_0 : decode cX5_addInstruction 0 = .ok (.iload 4, 2) := by decide +kernel
theorem dX5_addInstruction_2 : decode cX5_addInstruction 2 = .ok (.ifCond .lt 28, 3) := by decide +kernel
theorem dX5_addInstruction_5 : decode cX5_addInstruction 5 = .ok (.iload 4, 2) := by decide +kernel
theorem dX5_addInstruction_7 : decode cX5_addInstruction 7 = .ok (.aload_n 0, 1) := by decide +kernel
theorem dX5_addInstruction_8 : decode cX5_addInstruction 8 = .ok (.getfield 60, 3) := by decide +kernel
theorem dX5_addInstruction_11 : decode cX5_addInstruction 11 = .ok (.if_icmp .ge 19, 3) := by decide +kernel
theorem dX5_addInstruction_14 : decode cX5_addInstruction 14 = .ok (.iload_n 3, 1) := by decide +kernel
theorem dX5_addInstruction_15 : decode cX5_addInstruction 15 = .ok (.ifCond .lt 15, 3) := by decide +kernel
theorem dX5_addInstruction_18 : decode cX5_addInstruction 18 = .ok (.iload_n 3, 1) := by decide +kernel
theorem dX5_addInstruction_19 : decode cX5_addInstruction 19 = .ok (.aload_n 0, 1) := by decide +kernel
theorem dX5_addInstruction_20 : decode cX5_addInstruction 20 = .ok (.getfield 48, 3) := by decide +kernel
theorem dX5_addInstruction_23 : decode cX5_addInstruction 23 = .ok (.if_icmp .ge 7, 3) := by decide +kernel
theorem dX5_addInstruction_26 : decode cX5_addInstruction 26 = .ok (.iconst 1, 1) := by decide +kernel
theorem dX5_addInstruction_27 : decode cX5_addInstruction 27 = .ok (.goto 4, 3) := by decide +kernel
theorem dX5_addInstruction_30 : decode cX5_addInstruction 30 = .ok (.iconst 0, 1) := by decide +kernel
theorem dX5_addInstruction_31 : decode cX5_addInstruction 31 = .ok (.istore 5, 2) := by decide +kernel
theorem dX5_addInstruction_33 : decode cX5_addInstruction 33 = .ok (.aload_n 0, 1) := by decide +kernel
theorem dX5_addInstruction_34 : decode cX5_addInstruction 34 = .ok (.getfield 44, 3) := by decide +kernel
theorem dX5_addInstruction_37 : decode cX5_addInstruction 37 = .ok (.sipush 300, 3) := by decide +kernel
theorem dX5_addInstruction_40 : decode cX5_addInstruction 40 = .ok (.if_icmp .ge 8, 3) := by decide +kernel
theorem dX5_addInstruction_43 : decode cX5_addInstruction 43 = .ok (.iload 5, 2) := by decide +kernel
theorem dX5_addInstruction_45 : decode cX5_addInstruction 45 = .ok (.ifCond .ne 5, 3) := by decide +kernel
theorem dX5_addInstruction_48 : decode cX5_addInstruction 48 = .ok (.iconst (-1), 1) := by decide +kernel
theorem dX5_addInstruction_49 : decode cX5_addInstruction 49 = .ok (.ireturn, 1) := by decide +kernel
theorem dX5_addInstruction_50 : decode cX5_addInstruction 50 = .ok (.aload_n 0, 1) := by decide +kernel
theorem dX5_addInstruction_51 : decode cX5_addInstruction 51 = .ok (.getfield 44, 3) := by decide +kernel
theorem dX5_addInstruction_54 : decode cX5_addInstruction 54 = .ok (.istore 6, 2) := by decide +kernel
theorem dX5_addInstruction_56 : decode cX5_addInstruction 56 = .ok (.iload 6, 2) := by decide +kernel
theorem dX5_addInstruction_58 : decode cX5_addInstruction 58 = .ok (.bipush 8, 2) := by decide +kernel
theorem dX5_addInstruction_60 : decode cX5_addInstruction 60 = .ok (.imul, 1) := by decide +kernel
theorem dX5_addInstruction_61 : decode cX5_addInstruction 61 = .ok (.istore 7, 2) := by decide +kernel
theorem dX5_addInstruction_63 : decode cX5_addInstruction 63 = .ok (.aload_n 0, 1) := by decide +kernel
theorem dX5_addInstruction_64 : decode cX5_addInstruction 64 = .ok (.dup, 1) := by decide +kernel
theorem dX5_addInstruction_65 : decode cX5_addInstruction 65 = .ok (.getfield 44, 3) := by decide +kernel
theorem dX5_addInstruction_68 : decode cX5_addInstruction 68 = .ok (.iconst 1, 1) := by decide +kernel
theorem dX5_addInstruction_69 : decode cX5_addInstruction 69 = .ok (.iadd, 1) := by decide +kernel
theorem dX5_addInstruction_70 : decode cX5_addInstruction 70 = .ok (.putfield 44, 3) := by decide +kernel
theorem dX5_addInstruction_73 : decode cX5_addInstruction 73 = .ok (.iconst 0, 1) := by decide +kernel
theorem dX5_addInstruction_74 : decode cX5_addInstruction 74 = .ok (.istore 8, 2) := by decide +kernel
theorem dX5_addInstruction_76 : decode cX5_addInstruction 76 = .ok (.iload 8, 2) := by decide +kernel
theorem dX5_addInstruction_78 : decode cX5_addInstruction 78 = .ok (.bipush 8, 2) := by decide +kernel
theorem dX5_addInstruction_80 : decode cX5_addInstruction 80 = .ok (.if_icmp .ge 20, 3) := by decide +kernel
theorem dX5_addInstruction_83 : decode cX5_addInstruction 83 = .ok (.aload_n 0, 1) := by decide +kernel
theorem dX5_addInstruction_84 : decode cX5_addInstruction 84 = .ok (.getfield 11, 3) := by decide +kernel
theorem dX5_addInstruction_87 : decode cX5_addInstruction 87 = .ok (.iload 7, 2) := by decide +kernel
theorem dX5_addInstruction_89 : decode cX5_addInstruction 89 = .ok (.iload 8, 2) := by decide +kernel
theorem dX5_addInstruction_91 : decode cX5_addInstruction 91 = .ok (.iadd, 1) := by decide +kernel
theorem dX5_addInstruction_92 : decode cX5_addInstruction 92 = .ok (.iconst (-1), 1) := by decide +kernel
theorem dX5_addInstruction_93 : decode cX5_addInstruction 93 = .ok (.iastore, 1) := by decide +kernel
theorem dX5_addInstruction_94 : decode cX5_addInstruction 94 = .ok (.iinc 8 1, 3) := by decide +kernel
theorem dX5_addInstruction_97 : decode cX5_addInstruction 97 = .ok (.goto (-21), 3) := by decide +kernel
theorem dX5_addInstruction_100 : decode cX5_addInstruction 100 = .ok (.aload_n 0, 1) := by decide +kernel
theorem dX5_addInstruction_101 : decode cX5_addInstruction 101 = .ok (.getfield 11, 3) := by decide +kernel
theorem dX5_addInstruction_104 : decode cX5_addInstruction 104 = .ok (.iload 7, 2) := by decide +kernel
theorem dX5_addInstruction_106 : decode cX5_addInstruction 106 = .ok (.iconst 0, 1) := by decide +kernel
theorem dX5_addInstruction_107 : decode cX5_addInstruction 107 = .ok (.iadd, 1) := by decide +kernel
theorem dX5_addInstruction_108 : decode cX5_addInstruction 108 = .ok (.iload_n 1, 1) := by decide +kernel
theorem dX5_addInstruction_109 : decode cX5_addInstruction 109 = .ok (.iastore, 1) := by decide +kernel
theorem dX5_addInstruction_110 : decode cX5_addInstruction 110 = .ok (.aload_n 0, 1) := by decide +kernel
theorem dX5_addInstruction_111 : decode cX5_addInstruction 111 = .ok (.getfield 11, 3) := by decide +kernel
theorem dX5_addInstruction_114 : decode cX5_addInstruction 114 = .ok (.iload 7, 2) := by decide +kernel
theorem dX5_addInstruction_116 : decode cX5_addInstruction 116 = .ok (.iconst 2, 1) := by decide +kernel
theorem dX5_addInstruction_117 : decode cX5_addInstruction 117 = .ok (.iadd, 1) := by decide +kernel
theorem dX5_addInstruction_118 : decode cX5_addInstruction 118 = .ok (.iload_n 2, 1) := by decide +kernel
theorem dX5_addInstruction_119 : decode cX5_addInstruction 119 = .ok (.iastore, 1) := by decide +kernel
theorem dX5_addInstruction_120 : decode cX5_addInstruction 120 = .ok (.aload_n 0, 1) := by decide +kernel
theorem dX5_addInstruction_121 : decode cX5_addInstruction 121 = .ok (.getfield 11, 3) := by decide +kernel
theorem dX5_addInstruction_124 : decode cX5_addInstruction 124 = .ok (.iload 7, 2) := by decide +kernel
theorem dX5_addInstruction_126 : decode cX5_addInstruction 126 = .ok (.bipush 6, 2) := by decide +kernel
theorem dX5_addInstruction_128 : decode cX5_addInstruction 128 = .ok (.iadd, 1) := by decide +kernel
theorem dX5_addInstruction_129 : decode cX5_addInstruction 129 = .ok (.iload_n 3, 1) := by decide +kernel
theorem dX5_addInstruction_130 : decode cX5_addInstruction 130 = .ok (.iastore, 1) := by decide +kernel
theorem dX5_addInstruction_131 : decode cX5_addInstruction 131 = .ok (.aload_n 0, 1) := by decide +kernel
theorem dX5_addInstruction_132 : decode cX5_addInstruction 132 = .ok (.getfield 11, 3) := by decide +kernel
theorem dX5_addInstruction_135 : decode cX5_addInstruction 135 = .ok (.iload 7, 2) := by decide +kernel
theorem dX5_addInstruction_137 : decode cX5_addInstruction 137 = .ok (.bipush 7, 2) := by decide +kernel
theorem dX5_addInstruction_139 : decode cX5_addInstruction 139 = .ok (.iadd, 1) := by decide +kernel
theorem dX5_addInstruction_140 : decode cX5_addInstruction 140 = .ok (.iconst 0, 1) := by decide +kernel
theorem dX5_addInstruction_141 : decode cX5_addInstruction 141 = .ok (.iastore, 1) := by decide +kernel
theorem dX5_addInstruction_142 : decode cX5_addInstruction 142 = .ok (.iload_n 1, 1) := by decide +kernel
theorem dX5_addInstruction_143 : decode cX5_addInstruction 143 = .ok (.bipush 7, 2) := by decide +kernel
theorem dX5_addInstruction_145 : decode cX5_addInstruction 145 = .ok (.if_icmp .eq 37, 3) := by decide +kernel
theorem dX5_addInstruction_148 : decode cX5_addInstruction 148 = .ok (.iload_n 3, 1) := by decide +kernel
theorem dX5_addInstruction_149 : decode cX5_addInstruction 149 = .ok (.iconst 4, 1) := by decide +kernel
theorem dX5_addInstruction_150 : decode cX5_addInstruction 150 = .ok (.imul, 1) := by decide +kernel
theorem dX5_addInstruction_151 : decode cX5_addInstruction 151 = .ok (.iconst 2, 1) := by decide +kernel
theorem dX5_addInstruction_152 : decode cX5_addInstruction 152 = .ok (.iadd, 1) := by decide +kernel
theorem dX5_addInstruction_153 : decode cX5_addInstruction 153 = .ok (.istore 8, 2) := by decide +kernel
theorem dX5_addInstruction_155 : decode cX5_addInstruction 155 = .ok (.aload_n 0, 1) := by decide +kernel
theorem dX5_addInstruction_156 : decode cX5_addInstruction 156 = .ok (.getfield 11, 3) := by decide +kernel
theorem dX5_addInstruction_159 : decode cX5_addInstruction 159 = .ok (.iload 7, 2) := by decide +kernel
theorem dX5_addInstruction_161 : decode cX5_addInstruction 161 = .ok (.iconst 1, 1) := by decide +kernel
theorem dX5_addInstruction_162 : decode cX5_addInstruction 162 = .ok (.iadd, 1) := by decide +kernel
theorem dX5_addInstruction_163 : decode cX5_addInstruction 163 = .ok (.aload_n 0, 1) := by decide +kernel
theorem dX5_addInstruction_164 : decode cX5_addInstruction 164 = .ok (.getfield 28, 3) := by decide +kernel
theorem dX5_addInstruction_167 : decode cX5_addInstruction 167 = .ok (.iload 8, 2) := by decide +kernel
theorem dX5_addInstruction_169 : decode cX5_addInstruction 169 = .ok (.iaload, 1) := by decide +kernel
theorem dX5_addInstruction_170 : decode cX5_addInstruction 170 = .ok (.iastore, 1) := by decide +kernel
theorem dX5_addInstruction_171 : decode cX5_addInstruction 171 = .ok (.aload_n 0, 1) := by decide +kernel
theorem dX5_addInstruction_172 : decode cX5_addInstruction 172 = .ok (.getfield 28, 3) := by decide +kernel
theorem dX5_addInstruction_175 : decode cX5_addInstruction 175 = .ok (.iload 8, 2) := by decide +kernel
theorem dX5_addInstruction_177 : decode cX5_addInstruction 177 = .ok (.dup2, 1) := by decide +kernel
theorem dX5_addInstruction_178 : decode cX5_addInstruction 178 = .ok (.iaload, 1) := by decide +kernel
theorem dX5_addInstruction_179 : decode cX5_addInstruction 179 = .ok (.iconst 1, 1) := by decide +kernel
theorem dX5_addInstruction_180 : decode cX5_addInstruction 180 = .ok (.iadd, 1) := by decide +kernel
theorem dX5_addInstruction_181 : decode cX5_addInstruction 181 = .ok (.iastore, 1) := by decide +kernel
theorem dX5_addInstruction_182 : decode cX5_addInstruction 182 = .ok (.aload_n 0, 1) := by decide +kernel
theorem dX5_addInstruction_183 : decode cX5_addInstruction 183 = .ok (.getfield 22, 3) := by decide +kernel
theorem dX5_addInstruction_186 : decode cX5_addInstruction 186 = .ok (.iload 4, 2) := by decide +kernel
theorem dX5_addInstruction_188 : decode cX5_addInstruction 188 = .ok (.iaload, 1) := by decide +kernel
theorem dX5_addInstruction_189 : decode cX5_addInstruction 189 = .ok (.istore 8, 2) := by decide +kernel
theorem dX5_addInstruction_191 : decode cX5_addInstruction 191 = .ok (.iload 8, 2) := by decide +kernel
theorem dX5_addInstruction_193 : decode cX5_addInstruction 193 = .ok (.iconst (-1), 1) := by decide +kernel
theorem dX5_addInstruction_194 : decode cX5_addInstruction 194 = .ok (.if_icmp .ne 15, 3) := by decide +kernel
theorem dX5_addInstruction_197 : decode cX5_addInstruction 197 = .ok (.aload_n 0, 1) := by decide +kernel
theorem dX5_addInstruction_198 : decode cX5_addInstruction 198 = .ok (.getfield 19, 3) := by decide +kernel
theorem dX5_addInstruction_201 : decode cX5_addInstruction 201 = .ok (.iload 4, 2) := by decide +kernel
theorem dX5_addInstruction_203 : decode cX5_addInstruction 203 = .ok (.iload 6, 2) := by decide +kernel
theorem dX5_addInstruction_205 : decode cX5_addInstruction 205 = .ok (.iastore, 1) := by decide +kernel
theorem dX5_addInstruction_206 : decode cX5_addInstruction 206 = .ok (.goto 17, 3) := by decide +kernel
theorem dX5_addInstruction_209 : decode cX5_addInstruction 209 = .ok (.aload_n 0, 1) := by decide +kernel
theorem dX5_addInstruction_210 : decode cX5_addInstruction 210 = .ok (.getfield 11, 3) := by decide +kernel
theorem dX5_addInstruction_213 : decode cX5_addInstruction 213 = .ok (.iload 8, 2) := by decide +kernel
theorem dX5_addInstruction_215 : decode cX5_addInstruction 215 = .ok (.bipush 8, 2) := by decide +kernel
theorem dX5_addInstruction_217 : decode cX5_addInstruction 217 = .ok (.imul, 1) := by decide +kernel
theorem dX5_addInstruction_218 : decode cX5_addInstruction 218 = .ok (.iconst 5, 1) := by decide +kernel
theorem dX5_addInstruction_219 : decode cX5_addInstruction 219 = .ok (.iadd, 1) := by decide +kernel
theorem dX5_addInstruction_220 : decode cX5_addInstruction 220 = .ok (.iload 6, 2) := by decide +kernel
theorem dX5_addInstruction_222 : decode cX5_addInstruction 222 = .ok (.iastore, 1) := by decide +kernel
theorem dX5_addInstruction_223 : decode cX5_addInstruction 223 = .ok (.aload_n 0, 1) := by decide +kernel
theorem dX5_addInstruction_224 : decode cX5_addInstruction 224 = .ok (.getfield 22, 3) := by decide +kernel
theorem dX5_addInstruction_227 : decode cX5_addInstruction 227 = .ok (.iload 4, 2) := by decide +kernel
theorem dX5_addInstruction_229 : decode cX5_addInstruction 229 = .ok (.iload 6, 2) := by decide +kernel
theorem dX5_addInstruction_231 : decode cX5_addInstruction 231 = .ok (.iastore, 1) := by decide +kernel
theorem dX5_addInstruction_232 : decode cX5_addInstruction 232 = .ok (.iload 6, 2) := by decide +kernel
theorem dX5_addInstruction_234 : decode cX5_addInstruction 234 = .ok (.ireturn, 1) := by decide +kernel
theorem dX5_cell_0 : decode cX5_cell 0 = .ok (.iload_n 1, 1) := by decide +kernel
theorem dX5_cell_1 : decode cX5_cell 1 = .ok (.ifCond .lt 31, 3) := by decide +kernel
theorem dX5_cell_4 : decode cX5_cell 4 = .ok (.iload_n 1, 1) := by decide +kernel
theorem dX5_cell_5 : decode cX5_cell 5 = .ok (.aload_n 0, 1) := by decide +kernel
theorem dX5_cell_6 : decode cX5_cell 6 = .ok (.getfield 44, 3) := by decide +kernel
theorem dX5_cell_9 : decode cX5_cell 9 = .ok (.if_icmp .ge 23, 3) := by decide +kernel
theorem dX5_cell_12 : decode cX5_cell 12 = .ok (.iload_n 2, 1) := by decide +kernel
theorem dX5_cell_13 : decode cX5_cell 13 = .ok (.bipush 8, 2) := by decide +kernel
theorem dX5_cell_15 : decode cX5_cell 15 = .ok (.if_icmp .ge 17, 3) := by decide +kernel
theorem dX5_cell_18 : decode cX5_cell 18 = .ok (.aload_n 0, 1) := by decide +kernel
theorem dX5_cell_19 : decode cX5_cell 19 = .ok (.getfield 11, 3) := by decide +kernel
theorem dX5_cell_22 : decode cX5_cell 22 = .ok (.iload_n 1, 1) := by decide +kernel
theorem dX5_cell_23 : decode cX5_cell 23 = .ok (.bipush 8, 2) := by decide +kernel
theorem dX5_cell_25 : decode cX5_cell 25 = .ok (.imul, 1) := by decide +kernel
theorem dX5_cell_26 : decode cX5_cell 26 = .ok (.iload_n 2, 1) := by decide +kernel
theorem dX5_cell_27 : decode cX5_cell 27 = .ok (.iadd, 1) := by decide +kernel
theorem dX5_cell_28 : decode cX5_cell 28 = .ok (.iaload, 1) := by decide +kernel
theorem dX5_cell_29 : decode cX5_cell 29 = .ok (.goto 4, 3) := by decide +kernel
theorem dX5_cell_32 : decode cX5_cell 32 = .ok (.iconst (-1), 1) := by decide +kernel
theorem dX5_cell_33 : decode cX5_cell 33 = .ok (.ireturn, 1) := by decide +kernel
theorem dX5_setCell_0 : decode cX5_setCell 0 = .ok (.iload_n 1, 1) := by decide +kernel
theorem dX5_setCell_1 : decode cX5_setCell 1 = .ok (.ifCond .lt 29, 3) := by decide +kernel
theorem dX5_setCell_4 : decode cX5_setCell 4 = .ok (.iload_n 1, 1) := by decide +kernel
theorem dX5_setCell_5 : decode cX5_setCell 5 = .ok (.aload_n 0, 1) := by decide +kernel
theorem dX5_setCell_6 : decode cX5_setCell 6 = .ok (.getfield 44, 3) := by decide +kernel
theorem dX5_setCell_9 : decode cX5_setCell 9 = .ok (.if_icmp .ge 21, 3) := by decide +kernel
theorem dX5_setCell_12 : decode cX5_setCell 12 = .ok (.iload_n 2, 1) := by decide +kernel
theorem dX5_setCell_13 : decode cX5_setCell 13 = .ok (.bipush 8, 2) := by decide +kernel
theorem dX5_setCell_15 : decode cX5_setCell 15 = .ok (.if_icmp .ge 15, 3) := by decide +kernel
theorem dX5_setCell_18 : decode cX5_setCell 18 = .ok (.aload_n 0, 1) := by decide +kernel
theorem dX5_setCell_19 : decode cX5_setCell 19 = .ok (.getfield 11, 3) := by decide +kernel
theorem dX5_setCell_22 : decode cX5_setCell 22 = .ok (.iload_n 1, 1) := by decide +kernel
theorem dX5_setCell_23 : decode cX5_setCell 23 = .ok (.bipush 8, 2) := by decide +kernel
theorem dX5_setCell_25 : decode cX5_setCell 25 = .ok (.imul, 1) := by decide +kernel
theorem dX5_setCell_26 : decode cX5_setCell 26 = .ok (.iload_n 2, 1) := by decide +kernel
theorem dX5_setCell_27 : decode cX5_setCell 27 = .ok (.iadd, 1) := by decide +kernel
theorem dX5_setCell_28 : decode cX5_setCell 28 = .ok (.iload_n 3, 1) := by decide +kernel
theorem dX5_setCell_29 : decode cX5_setCell 29 = .ok (.iastore, 1) := by decide +kernel
theorem dX5_setCell_30 : decode cX5_setCell 30 = .ok (.return_, 1) := by decide +kernel
theorem dX5_operand_0 : decode cX5_operand 0 = .ok (.iload_n 1, 1) := by decide +kernel
theorem dX5_operand_1 : decode cX5_operand 1 = .ok (.ifCond .lt 25, 3) := by decide +kernel
theorem dX5_operand_4 : decode cX5_operand 4 = .ok (.iload_n 1, 1) := by decide +kernel
theorem dX5_operand_5 : decode cX5_operand 5 = .ok (.aload_n 0, 1) := by decide +kernel
theorem dX5_operand_6 : decode cX5_operand 6 = .ok (.getfield 44, 3) := by decide +kernel
theorem dX5_operand_9 : decode cX5_operand 9 = .ok (.if_icmp .ge 17, 3) := by decide +kernel
theorem dX5_operand_12 : decode cX5_operand 12 = .ok (.iload_n 2, 1) := by decide +kernel
theorem dX5_operand_13 : decode cX5_operand 13 = .ok (.ifCond .lt 13, 3) := by decide +kernel
theorem dX5_operand_16 : decode cX5_operand 16 = .ok (.iload_n 2, 1) := by decide +kernel
theorem dX5_operand_17 : decode cX5_operand 17 = .ok (.bipush 10, 2) := by decide +kernel
theorem dX5_operand_19 : decode cX5_operand 19 = .ok (.if_icmp .ge 7, 3) := by decide +kernel
theorem dX5_operand_22 : decode cX5_operand 22 = .ok (.iconst 1, 1) := by decide +kernel
theorem dX5_operand_23 : decode cX5_operand 23 = .ok (.goto 4, 3) := by decide +kernel
theorem dX5_operand_26 : decode cX5_operand 26 = .ok (.iconst 0, 1) := by decide +kernel
theorem dX5_operand_27 : decode cX5_operand 27 = .ok (.istore_n 3, 1) := by decide +kernel
theorem dX5_operand_28 : decode cX5_operand 28 = .ok (.iload_n 3, 1) := by decide +kernel
theorem dX5_operand_29 : decode cX5_operand 29 = .ok (.ifCond .eq 17, 3) := by decide +kernel
theorem dX5_operand_32 : decode cX5_operand 32 = .ok (.aload_n 0, 1) := by decide +kernel
theorem dX5_operand_33 : decode cX5_operand 33 = .ok (.getfield 15, 3) := by decide +kernel
theorem dX5_operand_36 : decode cX5_operand 36 = .ok (.iload_n 1, 1) := by decide +kernel
theorem dX5_operand_37 : decode cX5_operand 37 = .ok (.bipush 10, 2) := by decide +kernel
theorem dX5_operand_39 : decode cX5_operand 39 = .ok (.imul, 1) := by decide +kernel
theorem dX5_operand_40 : decode cX5_operand 40 = .ok (.iload_n 2, 1) := by decide +kernel
theorem dX5_operand_41 : decode cX5_operand 41 = .ok (.iadd, 1) := by decide +kernel
theorem dX5_operand_42 : decode cX5_operand 42 = .ok (.laload, 1) := by decide +kernel
theorem dX5_operand_43 : decode cX5_operand 43 = .ok (.goto 4, 3) := by decide +kernel
theorem dX5_operand_46 : decode cX5_operand 46 = .ok (.lconst 0, 1) := by decide +kernel
theorem dX5_operand_47 : decode cX5_operand 47 = .ok (.lreturn, 1) := by decide +kernel
theorem dX5_setOperand_0 : decode cX5_setOperand 0 = .ok (.iload_n 1, 1) := by decide +kernel
theorem dX5_setOperand_1 : decode cX5_setOperand 1 = .ok (.ifCond .lt 33, 3) := by decide +kernel
theorem dX5_setOperand_4 : decode cX5_setOperand 4 = .ok (.iload_n 1, 1) := by decide +kernel
theorem dX5_setOperand_5 : decode cX5_setOperand 5 = .ok (.aload_n 0, 1) := by decide +kernel
theorem dX5_setOperand_6 : decode cX5_setOperand 6 = .ok (.getfield 44, 3) := by decide +kernel
theorem dX5_setOperand_9 : decode cX5_setOperand 9 = .ok (.if_icmp .ge 25, 3) := by decide +kernel
theorem dX5_setOperand_12 : decode cX5_setOperand 12 = .ok (.iload_n 2, 1) := by decide +kernel
theorem dX5_setOperand_13 : decode cX5_setOperand 13 = .ok (.ifCond .lt 21, 3) := by decide +kernel
theorem dX5_setOperand_16 : decode cX5_setOperand 16 = .ok (.iload_n 2, 1) := by decide +kernel
theorem dX5_setOperand_17 : decode cX5_setOperand 17 = .ok (.bipush 10, 2) := by decide +kernel
theorem dX5_setOperand_19 : decode cX5_setOperand 19 = .ok (.if_icmp .ge 15, 3) := by decide +kernel
theorem dX5_setOperand_22 : decode cX5_setOperand 22 = .ok (.aload_n 0, 1) := by decide +kernel
theorem dX5_setOperand_23 : decode cX5_setOperand 23 = .ok (.getfield 15, 3) := by decide +kernel
theorem dX5_setOperand_26 : decode cX5_setOperand 26 = .ok (.iload_n 1, 1) := by decide +kernel
theorem dX5_setOperand_27 : decode cX5_setOperand 27 = .ok (.bipush 10, 2) := by decide +kernel
theorem dX5_setOperand_29 : decode cX5_setOperand 29 = .ok (.imul, 1) := by decide +kernel
theorem dX5_setOperand_30 : decode cX5_setOperand 30 = .ok (.iload_n 2, 1) := by decide +kernel
theorem dX5_setOperand_31 : decode cX5_setOperand 31 = .ok (.iadd, 1) := by decide +kernel
theorem dX5_setOperand_32 : decode cX5_setOperand 32 = .ok (.lload_n 3, 1) := by decide +kernel
theorem dX5_setOperand_33 : decode cX5_setOperand 33 = .ok (.lastore, 1) := by decide +kernel
theorem dX5_setOperand_34 : decode cX5_setOperand 34 = .ok (.return_, 1) := by decide +kernel
theorem dX5_countOf_0 : decode cX5_countOf 0 = .ok (.iconst 0, 1) := by decide +kernel
theorem dX5_countOf_1 : decode cX5_countOf 1 = .ok (.istore_n 3, 1) := by decide +kernel
theorem dX5_countOf_2 : decode cX5_countOf 2 = .ok (.iconst 0, 1) := by decide +kernel
theorem dX5_countOf_3 : decode cX5_countOf 3 = .ok (.istore 4, 2) := by decide +kernel
theorem dX5_countOf_5 : decode cX5_countOf 5 = .ok (.iload 4, 2) := by decide +kernel
theorem dX5_countOf_7 : decode cX5_countOf 7 = .ok (.aload_n 0, 1) := by decide +kernel
theorem dX5_countOf_8 : decode cX5_countOf 8 = .ok (.getfield 44, 3) := by decide +kernel
theorem dX5_countOf_11 : decode cX5_countOf 11 = .ok (.if_icmp .ge 57, 3) := by decide +kernel
theorem dX5_countOf_14 : decode cX5_countOf 14 = .ok (.iload_n 1, 1) := by decide +kernel
theorem dX5_countOf_15 : decode cX5_countOf 15 = .ok (.iconst (-1), 1) := by decide +kernel
theorem dX5_countOf_16 : decode cX5_countOf 16 = .ok (.if_icmp .eq 15, 3) := by decide +kernel
theorem dX5_countOf_19 : decode cX5_countOf 19 = .ok (.aload_n 0, 1) := by decide +kernel
theorem dX5_countOf_20 : decode cX5_countOf 20 = .ok (.iload 4, 2) := by decide +kernel
theorem dX5_countOf_22 : decode cX5_countOf 22 = .ok (.bipush 6, 2) := by decide +kernel
theorem dX5_countOf_24 : decode cX5_countOf 24 = .ok (.invokevirtual 97, 3) := by decide +kernel
theorem dX5_countOf_27 : decode cX5_countOf 27 = .ok (.iload_n 1, 1) := by decide +kernel
theorem dX5_countOf_28 : decode cX5_countOf 28 = .ok (.if_icmp .ne 7, 3) := by decide +kernel
theorem dX5_countOf_31 : decode cX5_countOf 31 = .ok (.iconst 1, 1) := by decide +kernel
theorem dX5_countOf_32 : decode cX5_countOf 32 = .ok (.goto 4, 3) := by decide +kernel
theorem dX5_countOf_35 : decode cX5_countOf 35 = .ok (.iconst 0, 1) := by decide +kernel
theorem dX5_countOf_36 : decode cX5_countOf 36 = .ok (.istore 5, 2) := by decide +kernel
theorem dX5_countOf_38 : decode cX5_countOf 38 = .ok (.iload 5, 2) := by decide +kernel
theorem dX5_countOf_40 : decode cX5_countOf 40 = .ok (.ifCond .eq 22, 3) := by decide +kernel
theorem dX5_countOf_43 : decode cX5_countOf 43 = .ok (.iload_n 2, 1) := by decide +kernel
theorem dX5_countOf_44 : decode cX5_countOf 44 = .ok (.iconst (-1), 1) := by decide +kernel
theorem dX5_countOf_45 : decode cX5_countOf 45 = .ok (.if_icmp .eq 14, 3) := by decide +kernel
theorem dX5_countOf_48 : decode cX5_countOf 48 = .ok (.aload_n 0, 1) := by decide +kernel
theorem dX5_countOf_49 : decode cX5_countOf 49 = .ok (.iload 4, 2) := by decide +kernel
theorem dX5_countOf_51 : decode cX5_countOf 51 = .ok (.iconst 0, 1) := by decide +kernel
theorem dX5_countOf_52 : decode cX5_countOf 52 = .ok (.invokevirtual 97, 3) := by decide +kernel
theorem dX5_countOf_55 : decode cX5_countOf 55 = .ok (.iload_n 2, 1) := by decide +kernel
theorem dX5_countOf_56 : decode cX5_countOf 56 = .ok (.if_icmp .ne 6, 3) := by decide +kernel
theorem dX5_countOf_59 : decode cX5_countOf 59 = .ok (.iinc 3 1, 3) := by decide +kernel
theorem dX5_countOf_62 : decode cX5_countOf 62 = .ok (.iinc 4 1, 3) := by decide +kernel
theorem dX5_countOf_65 : decode cX5_countOf 65 = .ok (.goto (-60), 3) := by decide +kernel
theorem dX5_countOf_68 : decode cX5_countOf 68 = .ok (.iload_n 3, 1) := by decide +kernel
theorem dX5_countOf_69 : decode cX5_countOf 69 = .ok (.ireturn, 1) := by decide +kernel
theorem dX5_about_0 : decode cX5_about 0 = .ok (.aload_n 0, 1) := by decide +kernel
theorem dX5_about_1 : decode cX5_about 1 = .ok (.getfield 40, 3) := by decide +kernel
theorem dX5_about_4 : decode cX5_about 4 = .ok (.ifCond .ne 5, 3) := by decide +kernel
theorem dX5_about_7 : decode cX5_about 7 = .ok (.iconst (-1), 1) := by decide +kernel
theorem dX5_about_8 : decode cX5_about 8 = .ok (.ireturn, 1) := by decide +kernel
theorem dX5_about_9 : decode cX5_about 9 = .ok (.iload_n 1, 1) := by decide +kernel
theorem dX5_about_10 : decode cX5_about 10 = .ok (.tableswitch 127 0 9 #[54, 59, 64, 69, 77, 85, 101, 109, 117, 122], 54) := by decide +kernel
theorem dX5_about_64 : decode cX5_about 64 = .ok (.aload_n 0, 1) := by decide +kernel
theorem dX5_about_65 : decode cX5_about 65 = .ok (.getfield 48, 3) := by decide +kernel
theorem dX5_about_68 : decode cX5_about 68 = .ok (.ireturn, 1) := by decide +kernel
theorem dX5_about_69 : decode cX5_about 69 = .ok (.aload_n 0, 1) := by decide +kernel
theorem dX5_about_70 : decode cX5_about 70 = .ok (.getfield 44, 3) := by decide +kernel
theorem dX5_about_73 : decode cX5_about 73 = .ok (.ireturn, 1) := by decide +kernel
theorem dX5_about_74 : decode cX5_about 74 = .ok (.aload_n 0, 1) := by decide +kernel
theorem dX5_about_75 : decode cX5_about 75 = .ok (.getfield 51, 3) := by decide +kernel
theorem dX5_about_78 : decode cX5_about 78 = .ok (.ireturn, 1) := by decide +kernel
theorem dX5_about_79 : decode cX5_about 79 = .ok (.aload_n 0, 1) := by decide +kernel
theorem dX5_about_80 : decode cX5_about 80 = .ok (.iconst (-1), 1) := by decide +kernel
theorem dX5_about_81 : decode cX5_about 81 = .ok (.bipush 11, 2) := by decide +kernel
theorem dX5_about_83 : decode cX5_about 83 = .ok (.invokevirtual 100, 3) := by decide +kernel
theorem dX5_about_86 : decode cX5_about 86 = .ok (.ireturn, 1) := by decide +kernel
theorem dX5_about_87 : decode cX5_about 87 = .ok (.aload_n 0, 1) := by decide +kernel
theorem dX5_about_88 : decode cX5_about 88 = .ok (.iconst (-1), 1) := by decide +kernel
theorem dX5_about_89 : decode cX5_about 89 = .ok (.bipush 7, 2) := by decide +kernel
theorem dX5_about_91 : decode cX5_about 91 = .ok (.invokevirtual 100, 3) := by decide +kernel
theorem dX5_about_94 : decode cX5_about 94 = .ok (.ireturn, 1) := by decide +kernel
theorem dX5_about_95 : decode cX5_about 95 = .ok (.aload_n 0, 1) := by decide +kernel
theorem dX5_about_96 : decode cX5_about 96 = .ok (.iconst (-1), 1) := by decide +kernel
theorem dX5_about_97 : decode cX5_about 97 = .ok (.bipush 8, 2) := by decide +kernel
theorem dX5_about_99 : decode cX5_about 99 = .ok (.invokevirtual 100, 3) := by decide +kernel
theorem dX5_about_102 : decode cX5_about 102 = .ok (.aload_n 0, 1) := by decide +kernel
theorem dX5_about_103 : decode cX5_about 103 = .ok (.iconst (-1), 1) := by decide +kernel
theorem dX5_about_104 : decode cX5_about 104 = .ok (.bipush 9, 2) := by decide +kernel
theorem dX5_about_106 : decode cX5_about 106 = .ok (.invokevirtual 100, 3) := by decide +kernel
theorem dX5_about_109 : decode cX5_about 109 = .ok (.iadd, 1) := by decide +kernel
theorem dX5_about_110 : decode cX5_about 110 = .ok (.ireturn, 1) := by decide +kernel
theorem dX5_about_111 : decode cX5_about 111 = .ok (.aload_n 0, 1) := by decide +kernel
theorem dX5_about_112 : decode cX5_about 112 = .ok (.iconst (-1), 1) := by decide +kernel
theorem dX5_about_113 : decode cX5_about 113 = .ok (.bipush 10, 2) := by decide +kernel
theorem dX5_about_115 : decode cX5_about 115 = .ok (.invokevirtual 100, 3) := by decide +kernel
theorem dX5_about_118 : decode cX5_about 118 = .ok (.ireturn, 1) := by decide +kernel
theorem dX5_about_119 : decode cX5_about 119 = .ok (.aload_n 0, 1) := by decide +kernel
theorem dX5_about_120 : decode cX5_about 120 = .ok (.iconst (-1), 1) := by decide +kernel
theorem dX5_about_121 : decode cX5_about 121 = .ok (.bipush 6, 2) := by decide +kernel
theorem dX5_about_123 : decode cX5_about 123 = .ok (.invokevirtual 100, 3) := by decide +kernel
theorem dX5_about_126 : decode cX5_about 126 = .ok (.ireturn, 1) := by decide +kernel
theorem dX5_about_127 : decode cX5_about 127 = .ok (.aload_n 0, 1) := by decide +kernel
theorem dX5_about_128 : decode cX5_about 128 = .ok (.getfield 54, 3) := by decide +kernel
theorem dX5_about_131 : decode cX5_about 131 = .ok (.ireturn, 1) := by decide +kernel
theorem dX5_about_132 : decode cX5_about 132 = .ok (.aload_n 0, 1) := by decide +kernel
theorem dX5_about_133 : decode cX5_about 133 = .ok (.getfield 57, 3) := by decide +kernel
theorem dX5_about_136 : decode cX5_about 136 = .ok (.ireturn, 1) := by decide +kernel
theorem dX5_about_137 : decode cX5_about 137 = .ok (.iconst (-1), 1) := by decide +kernel
theorem dX5_about_138 : decode cX5_about 138 = .ok (.ireturn, 1) := by decide +kernel
theorem dX5_aboutVariant_0 : decode cX5_aboutVariant 0 = .ok (.aload_n 0, 1) := by decide +kernel
theorem dX5_aboutVariant_1 : decode cX5_aboutVariant 1 = .ok (.iload_n 1, 1) := by decide +kernel
theorem dX5_aboutVariant_2 : decode cX5_aboutVariant 2 = .ok (.invokevirtual 103, 3) := by decide +kernel
theorem dX5_aboutVariant_5 : decode cX5_aboutVariant 5 = .ok (.ifCond .ne 5, 3) := by decide +kernel
theorem dX5_aboutVariant_8 : decode cX5_aboutVariant 8 = .ok (.iconst (-1), 1) := by decide +kernel
theorem dX5_aboutVariant_9 : decode cX5_aboutVariant 9 = .ok (.ireturn, 1) := by decide +kernel
theorem dX5_aboutVariant_10 : decode cX5_aboutVariant 10 = .ok (.iload_n 2, 1) := by decide +kernel
theorem dX5_aboutVariant_11 : decode cX5_aboutVariant 11 = .ok (.tableswitch 101 0 6 #[41, 55, 62, 71, 78, 85, 92], 41) := by decide +kernel
theorem dX5_aboutVariant_52 : decode cX5_aboutVariant 52 = .ok (.aload_n 0, 1) := by decide +kernel
theorem dX5_aboutVariant_53 : decode cX5_aboutVariant 53 = .ok (.iload_n 1, 1) := by decide +kernel
theorem dX5_aboutVariant_54 : decode cX5_aboutVariant 54 = .ok (.invokevirtual 106, 3) := by decide +kernel
theorem dX5_aboutVariant_57 : decode cX5_aboutVariant 57 = .ok (.getfield 76, 3) := by decide +kernel
theorem dX5_aboutVariant_60 : decode cX5_aboutVariant 60 = .ok (.bipush 6, 2) := by decide +kernel
theorem dX5_aboutVariant_62 : decode cX5_aboutVariant 62 = .ok (.idiv, 1) := by decide +kernel
theorem dX5_aboutVariant_63 : decode cX5_aboutVariant 63 = .ok (.iconst 1, 1) := by decide +kernel
theorem dX5_aboutVariant_64 : decode cX5_aboutVariant 64 = .ok (.iadd, 1) := by decide +kernel
theorem dX5_aboutVariant_65 : decode cX5_aboutVariant 65 = .ok (.ireturn, 1) := by decide +kernel
theorem dX5_aboutVariant_66 : decode cX5_aboutVariant 66 = .ok (.aload_n 0, 1) := by decide +kernel
theorem dX5_aboutVariant_67 : decode cX5_aboutVariant 67 = .ok (.iload_n 1, 1) := by decide +kernel
theorem dX5_aboutVariant_68 : decode cX5_aboutVariant 68 = .ok (.iconst 2, 1) := by decide +kernel
theorem dX5_aboutVariant_69 : decode cX5_aboutVariant 69 = .ok (.invokevirtual 110, 3) := by decide +kernel
theorem dX5_aboutVariant_72 : decode cX5_aboutVariant 72 = .ok (.ireturn, 1) := by decide +kernel
theorem dX5_aboutVariant_73 : decode cX5_aboutVariant 73 = .ok (.aload_n 0, 1) := by decide +kernel
theorem dX5_aboutVariant_74 : decode cX5_aboutVariant 74 = .ok (.iload_n 1, 1) := by decide +kernel
theorem dX5_aboutVariant_75 : decode cX5_aboutVariant 75 = .ok (.invokevirtual 106, 3) := by decide +kernel
theorem dX5_aboutVariant_78 : decode cX5_aboutVariant 78 = .ok (.invokevirtual 87, 3) := by decide +kernel
theorem dX5_aboutVariant_81 : decode cX5_aboutVariant 81 = .ok (.ireturn, 1) := by decide +kernel
theorem dX5_aboutVariant_82 : decode cX5_aboutVariant 82 = .ok (.aload_n 0, 1) := by decide +kernel
theorem dX5_aboutVariant_83 : decode cX5_aboutVariant 83 = .ok (.iload_n 1, 1) := by decide +kernel
theorem dX5_aboutVariant_84 : decode cX5_aboutVariant 84 = .ok (.iconst (-1), 1) := by decide +kernel
theorem dX5_aboutVariant_85 : decode cX5_aboutVariant 85 = .ok (.invokevirtual 100, 3) := by decide +kernel
theorem dX5_aboutVariant_88 : decode cX5_aboutVariant 88 = .ok (.ireturn, 1) := by decide +kernel
theorem dX5_aboutVariant_89 : decode cX5_aboutVariant 89 = .ok (.aload_n 0, 1) := by decide +kernel
theorem dX5_aboutVariant_90 : decode cX5_aboutVariant 90 = .ok (.iload_n 1, 1) := by decide +kernel
theorem dX5_aboutVariant_91 : decode cX5_aboutVariant 91 = .ok (.iconst 0, 1) := by decide +kernel
theorem dX5_aboutVariant_92 : decode cX5_aboutVariant 92 = .ok (.invokevirtual 110, 3) := by decide +kernel
theorem dX5_aboutVariant_95 : decode cX5_aboutVariant 95 = .ok (.ireturn, 1) := by decide +kernel
theorem dX5_aboutVariant_96 : decode cX5_aboutVariant 96 = .ok (.aload_n 0, 1) := by decide +kernel
theorem dX5_aboutVariant_97 : decode cX5_aboutVariant 97 = .ok (.iload_n 1, 1) := by decide +kernel
theorem dX5_aboutVariant_98 : decode cX5_aboutVariant 98 = .ok (.iconst 1, 1) := by decide +kernel
theorem dX5_aboutVariant_99 : decode cX5_aboutVariant 99 = .ok (.invokevirtual 110, 3) := by decide +kernel
theorem dX5_aboutVariant_102 : decode cX5_aboutVariant 102 = .ok (.ireturn, 1) := by decide +kernel
theorem dX5_aboutVariant_103 : decode cX5_aboutVariant 103 = .ok (.aload_n 0, 1) := by decide +kernel
theorem dX5_aboutVariant_104 : decode cX5_aboutVariant 104 = .ok (.iload_n 1, 1) := by decide +kernel
theorem dX5_aboutVariant_105 : decode cX5_aboutVariant 105 = .ok (.invokevirtual 106, 3) := by decide +kernel
theorem dX5_aboutVariant_108 : decode cX5_aboutVariant 108 = .ok (.invokevirtual 113, 3) := by decide +kernel
theorem dX5_aboutVariant_111 : decode cX5_aboutVariant 111 = .ok (.ireturn, 1) := by decide +kernel
theorem dX5_aboutVariant_112 : decode cX5_aboutVariant 112 = .ok (.iconst (-1), 1) := by decide +kernel
theorem dX5_aboutVariant_113 : decode cX5_aboutVariant 113 = .ok (.ireturn, 1) := by decide +kernel
theorem dX6_init_0 : decode cX6_init 0 = .ok (.aload_n 0, 1) := by decide +kernel
theorem dX6_init_1 : decode cX6_init 1 = .ok (.invokespecial 7, 3) := by decide +kernel
theorem dX6_init_4 : decode cX6_init 4 = .ok (.aload_n 0, 1) := by decide +kernel
theorem dX6_init_5 : decode cX6_init 5 = .ok (.aload_n 1, 1) := by decide +kernel
theorem dX6_init_6 : decode cX6_init 6 = .ok (.putfield 13, 3) := by decide +kernel
theorem dX6_init_9 : decode cX6_init 9 = .ok (.aload_n 0, 1) := by decide +kernel
theorem dX6_init_10 : decode cX6_init 10 = .ok (.sipush 9548, 3) := by decide +kernel
theorem dX6_init_13 : decode cX6_init 13 = .ok (.newarray .long, 2) := by decide +kernel
theorem dX6_init_15 : decode cX6_init 15 = .ok (.putfield 19, 3) := by decide +kernel
theorem dX6_init_18 : decode cX6_init 18 = .ok (.aload_n 0, 1) := by decide +kernel
theorem dX6_init_19 : decode cX6_init 19 = .ok (.bipush 8, 2) := by decide +kernel
theorem dX6_init_21 : decode cX6_init 21 = .ok (.newarray .long, 2) := by decide +kernel
theorem dX6_init_23 : decode cX6_init 23 = .ok (.putfield 23, 3) := by decide +kernel
theorem dX6_init_26 : decode cX6_init 26 = .ok (.aload_n 0, 1) := by decide +kernel
theorem dX6_init_27 : decode cX6_init 27 = .ok (.sipush 744, 3) := by decide +kernel
theorem dX6_init_30 : decode cX6_init 30 = .ok (.newarray .int, 2) := by decide +kernel
theorem dX6_init_32 : decode cX6_init 32 = .ok (.putfield 26, 3) := by decide +kernel
theorem dX6_init_35 : decode cX6_init 35 = .ok (.aload_n 0, 1) := by decide +kernel
theorem dX6_init_36 : decode cX6_init 36 = .ok (.sipush 744, 3) := by decide +kernel
theorem dX6_init_39 : decode cX6_init 39 = .ok (.newarray .int, 2) := by decide +kernel
theorem dX6_init_41 : decode cX6_init 41 = .ok (.putfield 30, 3) := by decide +kernel
theorem dX6_init_44 : decode cX6_init 44 = .ok (.aload_n 0, 1) := by decide +kernel
theorem dX6_init_45 : decode cX6_init 45 = .ok (.aload_n 2, 1) := by decide +kernel
theorem dX6_init_46 : decode cX6_init 46 = .ok (.putfield 33, 3) := by decide +kernel
theorem dX6_init_49 : decode cX6_init 49 = .ok (.aload_n 0, 1) := by decide +kernel
theorem dX6_init_50 : decode cX6_init 50 = .ok (.aload_n 3, 1) := by decide +kernel
theorem dX6_init_51 : decode cX6_init 51 = .ok (.putfield 37, 3) := by decide +kernel
theorem dX6_init_54 : decode cX6_init 54 = .ok (.aload_n 0, 1) := by decide +kernel
theorem dX6_init_55 : decode cX6_init 55 = .ok (.iconst 0, 1) := by decide +kernel
theorem dX6_init_56 : decode cX6_init 56 = .ok (.putfield 41, 3) := by decide +kernel
theorem dX6_init_59 : decode cX6_init 59 = .ok (.aload_n 0, 1) := by decide +kernel
theorem dX6_init_60 : decode cX6_init 60 = .ok (.iconst 0, 1) := by decide +kernel
theorem dX6_init_61 : decode cX6_init 61 = .ok (.putfield 45, 3) := by decide +kernel
theorem dX6_init_64 : decode cX6_init 64 = .ok (.return_, 1) := by decide +kernel
theorem dX6_runResidue_0 : decode cX6_runResidue 0 = .ok (.aload_n 0, 1) := by decide +kernel
theorem dX6_runResidue_1 : decode cX6_runResidue 1 = .ok (.aload_n 1, 1) := by decide +kernel
theorem dX6_runResidue_2 : decode cX6_runResidue 2 = .ok (.putfield 33, 3) := by decide +kernel
theorem dX6_runResidue_5 : decode cX6_runResidue 5 = .ok (.aload_n 0, 1) := by decide +kernel
theorem dX6_runResidue_6 : decode cX6_runResidue 6 = .ok (.aload_n 3, 1) := by decide +kernel
theorem dX6_runResidue_7 : decode cX6_runResidue 7 = .ok (.putfield 37, 3) := by decide +kernel
theorem dX6_runResidue_10 : decode cX6_runResidue 10 = .ok (.aload_n 0, 1) := by decide +kernel
theorem dX6_runResidue_11 : decode cX6_runResidue 11 = .ok (.getfield 37, 3) := by decide +kernel
theorem dX6_runResidue_14 : decode cX6_runResidue 14 = .ok (.invokevirtual 48, 3) := by decide +kernel
theorem dX6_runResidue_17 : decode cX6_runResidue 17 = .ok (.aload_n 0, 1) := by decide +kernel
theorem dX6_runResidue_18 : decode cX6_runResidue 18 = .ok (.getfield 13, 3) := by decide +kernel
theorem dX6_runResidue_21 : decode cX6_runResidue 21 = .ok (.invokevirtual 51, 3) := by decide +kernel
theorem dX6_runResidue_24 : decode cX6_runResidue 24 = .ok (.aload_n 0, 1) := by decide +kernel
theorem dX6_runResidue_25 : decode cX6_runResidue 25 = .ok (.iconst 0, 1) := by decide +kernel
theorem dX6_runResidue_26 : decode cX6_runResidue 26 = .ok (.putfield 41, 3) := by decide +kernel
theorem dX6_runResidue_29 : decode cX6_runResidue 29 = .ok (.aload_n 0, 1) := by decide +kernel
theorem dX6_runResidue_30 : decode cX6_runResidue 30 = .ok (.iconst 0, 1) := by decide +kernel
theorem dX6_runResidue_31 : decode cX6_runResidue 31 = .ok (.putfield 45, 3) := by decide +kernel
theorem dX6_runResidue_34 : decode cX6_runResidue 34 = .ok (.aload_n 0, 1) := by decide +kernel
theorem dX6_runResidue_35 : decode cX6_runResidue 35 = .ok (.getfield 13, 3) := by decide +kernel
theorem dX6_runResidue_38 : decode cX6_runResidue 38 = .ok (.aload_n 2, 1) := by decide +kernel
theorem dX6_runResidue_39 : decode cX6_runResidue 39 = .ok (.aload_n 0, 1) := by decide +kernel
theorem dX6_runResidue_40 : decode cX6_runResidue 40 = .ok (.getfield 23, 3) := by decide +kernel
theorem dX6_runResidue_43 : decode cX6_runResidue 43 = .ok (.aload_n 0, 1) := by decide +kernel
theorem dX6_runResidue_44 : decode cX6_runResidue 44 = .ok (.getfield 23, 3) := by decide +kernel
theorem dX6_runResidue_47 : decode cX6_runResidue 47 = .ok (.invokevirtual 54, 3) := by decide +kernel
theorem dX6_runResidue_50 : decode cX6_runResidue 50 = .ok (.istore 4, 2) := by decide +kernel
theorem dX6_runResidue_52 : decode cX6_runResidue 52 = .ok (.aload_n 0, 1) := by decide +kernel
theorem dX6_runResidue_53 : decode cX6_runResidue 53 = .ok (.getfield 37, 3) := by decide +kernel
theorem dX6_runResidue_56 : decode cX6_runResidue 56 = .ok (.invokevirtual 58, 3) := by decide +kernel
theorem dX6_runResidue_59 : decode cX6_runResidue 59 = .ok (.pop, 1) := by decide +kernel
theorem dX6_runResidue_60 : decode cX6_runResidue 60 = .ok (.iconst 0, 1) := by decide +kernel
theorem dX6_runResidue_61 : decode cX6_runResidue 61 = .ok (.istore 5, 2) := by decide +kernel
theorem dX6_runResidue_63 : decode cX6_runResidue 63 = .ok (.iload 5, 2) := by decide +kernel
theorem dX6_runResidue_65 : decode cX6_runResidue 65 = .ok (.iload 4, 2) := by decide +kernel
theorem dX6_runResidue_67 : decode cX6_runResidue 67 = .ok (.if_icmp .ge 26, 3) := by decide +kernel
theorem dX6_runResidue_70 : decode cX6_runResidue 70 = .ok (.aload_n 0, 1) := by decide +kernel
theorem dX6_runResidue_71 : decode cX6_runResidue 71 = .ok (.aload_n 0, 1) := by decide +kernel
theorem dX6_runResidue_72 : decode cX6_runResidue 72 = .ok (.getfield 45, 3) := by decide +kernel
theorem dX6_runResidue_75 : decode cX6_runResidue 75 = .ok (.iload 5, 2) := by decide +kernel
theorem dX6_runResidue_77 : decode cX6_runResidue 77 = .ok (.aload_n 0, 1) := by decide +kernel
theorem dX6_runResidue_78 : decode cX6_runResidue 78 = .ok (.getfield 23, 3) := by decide +kernel
theorem dX6_runResidue_81 : decode cX6_runResidue 81 = .ok (.iload 5, 2) := by decide +kernel
theorem dX6_runResidue_83 : decode cX6_runResidue 83 = .ok (.laload, 1) := by decide +kernel
theorem dX6_runResidue_84 : decode cX6_runResidue 84 = .ok (.invokevirtual 62, 3) := by decide +kernel
theorem dX6_runResidue_87 : decode cX6_runResidue 87 = .ok (.iinc 5 1, 3) := by decide +kernel
theorem dX6_runResidue_90 : decode cX6_runResidue 90 = .ok (.goto (-27), 3) := by decide +kernel
theorem dX6_runResidue_93 : decode cX6_runResidue 93 = .ok (.aload_n 0, 1) := by decide +kernel
theorem dX6_runResidue_94 : decode cX6_runResidue 94 = .ok (.aload_n 0, 1) := by decide +kernel
theorem dX6_runResidue_95 : decode cX6_runResidue 95 = .ok (.getfield 33, 3) := by decide +kernel
theorem dX6_runResidue_98 : decode cX6_runResidue 98 = .ok (.iconst 0, 1) := by decide +kernel
theorem dX6_runResidue_99 : decode cX6_runResidue 99 = .ok (.iconst 3, 1) := by decide +kernel
theorem dX6_runResidue_100 : decode cX6_runResidue 100 = .ok (.invokevirtual 66, 3) := by decide +kernel
theorem dX6_runResidue_103 : decode cX6_runResidue 103 = .ok (.invokevirtual 70, 3) := by decide +kernel
theorem dX6_runResidue_106 : decode cX6_runResidue 106 = .ok (.iconst 0, 1) := by decide +kernel
theorem dX6_runResidue_107 : decode cX6_runResidue 107 = .ok (.istore 5, 2) := by decide +kernel
theorem dX6_runResidue_109 : decode cX6_runResidue 109 = .ok (.iload 5, 2) := by decide +kernel
theorem dX6_runResidue_111 : decode cX6_runResidue 111 = .ok (.ldc 74, 2) := by decide +kernel
theorem dX6_runResidue_113 : decode cX6_runResidue 113 = .ok (.if_icmp .ge 59, 3) := by decide +kernel
theorem dX6_runResidue_116 : decode cX6_runResidue 116 = .ok (.aload_n 0, 1) := by decide +kernel
theorem dX6_runResidue_117 : decode cX6_runResidue 117 = .ok (.getfield 41, 3) := by decide +kernel
theorem dX6_runResidue_120 : decode cX6_runResidue 120 = .ok (.iconst 1, 1) := by decide +kernel
theorem dX6_runResidue_121 : decode cX6_runResidue 121 = .ok (.if_icmp .lt 51, 3) := by decide +kernel
theorem dX6_runResidue_124 : decode cX6_runResidue 124 = .ok (.aload_n 0, 1) := by decide +kernel
theorem dX6_runResidue_125 : decode cX6_runResidue 125 = .ok (.getfield 37, 3) := by decide +kernel
theorem dX6_runResidue_128 : decode cX6_runResidue 128 = .ok (.invokevirtual 75, 3) := by decide +kernel
theorem dX6_runResidue_131 : decode cX6_runResidue 131 = .ok (.ifCond .eq 41, 3) := by decide +kernel
theorem dX6_runResidue_134 : decode cX6_runResidue 134 = .ok (.aload_n 0, 1) := by decide +kernel
theorem dX6_runResidue_135 : decode cX6_runResidue 135 = .ok (.getfield 30, 3) := by decide +kernel
theorem dX6_runResidue_138 : decode cX6_runResidue 138 = .ok (.aload_n 0, 1) := by decide +kernel
theorem dX6_runResidue_139 : decode cX6_runResidue 139 = .ok (.getfield 41, 3) := by decide +kernel
theorem dX6_runResidue_142 : decode cX6_runResidue 142 = .ok (.iconst 1, 1) := by decide +kernel
theorem dX6_runResidue_143 : decode cX6_runResidue 143 = .ok (.isub, 1) := by decide +kernel
theorem dX6_runResidue_144 : decode cX6_runResidue 144 = .ok (.iaload, 1) := by decide +kernel
theorem dX6_runResidue_145 : decode cX6_runResidue 145 = .ok (.istore 6, 2) := by decide +kernel
theorem dX6_runResidue_147 : decode cX6_runResidue 147 = .ok (.iload 6, 2) := by decide +kernel
theorem dX6_runResidue_149 : decode cX6_runResidue 149 = .ok (.iconst (-1), 1) := by decide +kernel
theorem dX6_runResidue_150 : decode cX6_runResidue 150 = .ok (.if_icmp .ne 10, 3) := by decide +kernel
theorem dX6_runResidue_153 : decode cX6_runResidue 153 = .ok (.aload_n 0, 1) := by decide +kernel
theorem dX6_runResidue_154 : decode cX6_runResidue 154 = .ok (.invokevirtual 78, 3) := by decide +kernel
theorem dX6_runResidue_157 : decode cX6_runResidue 157 = .ok (.goto 9, 3) := by decide +kernel
theorem dX6_runResidue_160 : decode cX6_runResidue 160 = .ok (.aload_n 0, 1) := by decide +kernel
theorem dX6_runResidue_161 : decode cX6_runResidue 161 = .ok (.iload 6, 2) := by decide +kernel
theorem dX6_runResidue_163 : decode cX6_runResidue 163 = .ok (.invokevirtual 81, 3) := by decide +kernel
theorem dX6_runResidue_166 : decode cX6_runResidue 166 = .ok (.iinc 5 1, 3) := by decide +kernel
theorem dX6_runResidue_169 : decode cX6_runResidue 169 = .ok (.goto (-60), 3) := by decide +kernel
theorem dX6_runResidue_172 : decode cX6_runResidue 172 = .ok (.return_, 1) := by decide +kernel
theorem dX6_enter_0 : decode cX6_enter 0 = .ok (.aload_n 0, 1) := by decide +kernel
theorem dX6_enter_1 : decode cX6_enter 1 = .ok (.getfield 41, 3) := by decide +kernel
theorem dX6_enter_4 : decode cX6_enter 4 = .ok (.sipush 744, 3) := by decide +kernel
theorem dX6_enter_7 : decode cX6_enter 7 = .ok (.if_icmp .ge 40, 3) := by decide +kernel
theorem dX6_enter_10 : decode cX6_enter 10 = .ok (.aload_n 0, 1) := by decide +kernel
theorem dX6_enter_11 : decode cX6_enter 11 = .ok (.getfield 26, 3) := by decide +kernel
theorem dX6_enter_14 : decode cX6_enter 14 = .ok (.aload_n 0, 1) := by decide +kernel
theorem dX6_enter_15 : decode cX6_enter 15 = .ok (.getfield 41, 3) := by decide +kernel
theorem dX6_enter_18 : decode cX6_enter 18 = .ok (.iload_n 1, 1) := by decide +kernel
theorem dX6_enter_19 : decode cX6_enter 19 = .ok (.iastore, 1) := by decide +kernel
theorem dX6_enter_20 : decode cX6_enter 20 = .ok (.aload_n 0, 1) := by decide +kernel
theorem dX6_enter_21 : decode cX6_enter 21 = .ok (.getfield 30, 3) := by decide +kernel
theorem dX6_enter_24 : decode cX6_enter 24 = .ok (.aload_n 0, 1) := by decide +kernel
theorem dX6_enter_25 : decode cX6_enter 25 = .ok (.getfield 41, 3) := by decide +kernel
theorem dX6_enter_28 : decode cX6_enter 28 = .ok (.aload_n 0, 1) := by decide +kernel
theorem dX6_enter_29 : decode cX6_enter 29 = .ok (.getfield 33, 3) := by decide +kernel
theorem dX6_enter_32 : decode cX6_enter 32 = .ok (.iload_n 1, 1) := by decide +kernel
theorem dX6_enter_33 : decode cX6_enter 33 = .ok (.invokevirtual 84, 3) := by decide +kernel
theorem dX6_enter_36 : decode cX6_enter 36 = .ok (.iastore, 1) := by decide +kernel
theorem dX6_enter_37 : decode cX6_enter 37 = .ok (.aload_n 0, 1) := by decide +kernel
theorem dX6_enter_38 : decode cX6_enter 38 = .ok (.dup, 1) := by decide +kernel
theorem dX6_enter_39 : decode cX6_enter 39 = .ok (.getfield 41, 3) := by decide +kernel
theorem dX6_enter_42 : decode cX6_enter 42 = .ok (.iconst 1, 1) := by decide +kernel
theorem dX6_enter_43 : decode cX6_enter 43 = .ok (.iadd, 1) := by decide +kernel
theorem dX6_enter_44 : decode cX6_enter 44 = .ok (.putfield 41, 3) := by decide +kernel
theorem dX6_enter_47 : decode cX6_enter 47 = .ok (.return_, 1) := by decide +kernel
theorem dX6_setRegister_0 : decode cX6_setRegister 0 = .ok (.iload_n 1, 1) := by decide +kernel
theorem dX6_setRegister_1 : decode cX6_setRegister 1 = .ok (.iload_n 2, 1) := by decide +kernel
theorem dX6_setRegister_2 : decode cX6_setRegister 2 = .ok (.iadd, 1) := by decide +kernel
theorem dX6_setRegister_3 : decode cX6_setRegister 3 = .ok (.istore 5, 2) := by decide +kernel
theorem dX6_setRegister_5 : decode cX6_setRegister 5 = .ok (.iload_n 2, 1) := by decide +kernel
theorem dX6_setRegister_6 : decode cX6_setRegister 6 = .ok (.ifCond .lt 26, 3) := by decide +kernel
theorem dX6_setRegister_9 : decode cX6_setRegister 9 = .ok (.iload 5, 2) := by decide +kernel
theorem dX6_setRegister_11 : decode cX6_setRegister 11 = .ok (.ifCond .lt 21, 3) := by decide +kernel
theorem dX6_setRegister_14 : decode cX6_setRegister 14 = .ok (.iload 5, 2) := by decide +kernel
theorem dX6_setRegister_16 : decode cX6_setRegister 16 = .ok (.aload_n 0, 1) := by decide +kernel
theorem dX6_setRegister_17 : decode cX6_setRegister 17 = .ok (.getfield 19, 3) := by decide +kernel
theorem dX6_setRegister_20 : decode cX6_setRegister 20 = .ok (.arraylength, 1) := by decide +kernel
theorem dX6_setRegister_21 : decode cX6_setRegister 21 = .ok (.if_icmp .ge 11, 3) := by decide +kernel
theorem dX6_setRegister_24 : decode cX6_setRegister 24 = .ok (.aload_n 0, 1) := by decide +kernel
theorem dX6_setRegister_25 : decode cX6_setRegister 25 = .ok (.getfield 19, 3) := by decide +kernel
theorem dX6_setRegister_28 : decode cX6_setRegister 28 = .ok (.iload 5, 2) := by decide +kernel
theorem dX6_setRegister_30 : decode cX6_setRegister 30 = .ok (.lload_n 3, 1) := by decide +kernel
theorem dX6_setRegister_31 : decode cX6_setRegister 31 = .ok (.lastore, 1) := by decide +kernel
theorem dX6_setRegister_32 : decode cX6_setRegister 32 = .ok (.return_, 1) := by decide +kernel
theorem dX6_known_0 : decode cX6_known 0 = .ok (.lload_n 1, 1) := by decide +kernel
theorem dX6_known_1 : decode cX6_known 1 = .ok (.invokestatic 88, 3) := by decide +kernel
theorem dX6_known_4 : decode cX6_known 4 = .ok (.iconst 3, 1) := by decide +kernel
theorem dX6_known_5 : decode cX6_known 5 = .ok (.if_icmp .eq 5, 3) := by decide +kernel
theorem dX6_known_8 : decode cX6_known 8 = .ok (.lload_n 1, 1) := by decide +kernel
theorem dX6_known_9 : decode cX6_known 9 = .ok (.lreturn, 1) := by decide +kernel
theorem dX6_known_10 : decode cX6_known 10 = .ok (.aload_n 0, 1) := by decide +kernel
theorem dX6_known_11 : decode cX6_known 11 = .ok (.getfield 45, 3) := by decide +kernel
theorem dX6_known_14 : decode cX6_known 14 = .ok (.lload_n 1, 1) := by decide +kernel
theorem dX6_known_15 : decode cX6_known 15 = .ok (.invokestatic 94, 3) := by decide +kernel
theorem dX6_known_18 : decode cX6_known 18 = .ok (.iadd, 1) := by decide +kernel
theorem dX6_known_19 : decode cX6_known 19 = .ok (.istore_n 3, 1) := by decide +kernel
theorem dX6_known_20 : decode cX6_known 20 = .ok (.iload_n 3, 1) := by decide +kernel
theorem dX6_known_21 : decode cX6_known 21 = .ok (.ifCond .lt 21, 3) := by decide +kernel
theorem dX6_known_24 : decode cX6_known 24 = .ok (.iload_n 3, 1) := by decide +kernel
theorem dX6_known_25 : decode cX6_known 25 = .ok (.aload_n 0, 1) := by decide +kernel
theorem dX6_known_26 : decode cX6_known 26 = .ok (.getfield 19, 3) := by decide +kernel
theorem dX6_known_29 : decode cX6_known 29 = .ok (.arraylength, 1) := by decide +kernel
theorem dX6_known_30 : decode cX6_known 30 = .ok (.if_icmp .ge 12, 3) := by decide +kernel
theorem dX6_known_33 : decode cX6_known 33 = .ok (.aload_n 0, 1) := by decide +kernel
theorem dX6_known_34 : decode cX6_known 34 = .ok (.getfield 19, 3) := by decide +kernel
theorem dX6_known_37 : decode cX6_known 37 = .ok (.iload_n 3, 1) := by decide +kernel
theorem dX6_known_38 : decode cX6_known 38 = .ok (.laload, 1) := by decide +kernel
theorem dX6_known_39 : decode cX6_known 39 = .ok (.goto 4, 3) := by decide +kernel
theorem dX6_known_42 : decode cX6_known 42 = .ok (.lconst 0, 1) := by decide +kernel
theorem dX6_known_43 : decode cX6_known 43 = .ok (.lreturn, 1) := by decide +kernel
theorem dX6_operand_0 : decode cX6_operand 0 = .ok (.aload_n 0, 1) := by decide +kernel
theorem dX6_operand_1 : decode cX6_operand 1 = .ok (.aload_n 0, 1) := by decide +kernel
theorem dX6_operand_2 : decode cX6_operand 2 = .ok (.getfield 33, 3) := by decide +kernel
theorem dX6_operand_5 : decode cX6_operand 5 = .ok (.iload_n 1, 1) := by decide +kernel
theorem dX6_operand_6 : decode cX6_operand 6 = .ok (.iload_n 2, 1) := by decide +kernel
theorem dX6_operand_7 : decode cX6_operand 7 = .ok (.invokevirtual 97, 3) := by decide +kernel
theorem dX6_operand_10 : decode cX6_operand 10 = .ok (.invokevirtual 101, 3) := by decide +kernel
theorem dX6_operand_13 : decode cX6_operand 13 = .ok (.lreturn, 1) := by decide +kernel
theorem dX6_num_0 : decode cX6_num 0 = .ok (.aload_n 0, 1) := by decide +kernel
theorem dX6_num_1 : decode cX6_num 1 = .ok (.getfield 13, 3) := by decide +kernel
theorem dX6_num_4 : decode cX6_num 4 = .ok (.aload_n 0, 1) := by decide +kernel
theorem dX6_num_5 : decode cX6_num 5 = .ok (.iload_n 1, 1) := by decide +kernel
theorem dX6_num_6 : decode cX6_num 6 = .ok (.iload_n 2, 1) := by decide +kernel
theorem dX6_num_7 : decode cX6_num 7 = .ok (.invokevirtual 105, 3) := by decide +kernel
theorem dX6_num_10 : decode cX6_num 10 = .ok (.invokevirtual 106, 3) := by decide +kernel
theorem dX6_num_13 : decode cX6_num 13 = .ok (.lreturn, 1) := by decide +kernel
theorem dX6_endBlock_0 : decode cX6_endBlock 0 = .ok (.aload_n 0, 1) := by decide +kernel
theorem dX6_endBlock_1 : decode cX6_endBlock 1 = .ok (.aload_n 0, 1) := by decide +kernel
theorem dX6_endBlock_2 : decode cX6_endBlock 2 = .ok (.getfield 33, 3) := by decide +kernel
theorem dX6_endBlock_5 : decode cX6_endBlock 5 = .ok (.aload_n 0, 1) := by decide +kernel
theorem dX6_endBlock_6 : decode cX6_endBlock 6 = .ok (.getfield 26, 3) := by decide +kernel
theorem dX6_endBlock_9 : decode cX6_endBlock 9 = .ok (.aload_n 0, 1) := by decide +kernel
theorem dX6_endBlock_10 : decode cX6_endBlock 10 = .ok (.getfield 41, 3) := by decide +kernel
theorem dX6_endBlock_13 : decode cX6_endBlock 13 = .ok (.iconst 1, 1) := by decide +kernel
theorem dX6_endBlock_14 : decode cX6_endBlock 14 = .ok (.isub, 1) := by decide +kernel
theorem dX6_endBlock_15 : decode cX6_endBlock 15 = .ok (.iaload, 1) := by decide +kernel
theorem dX6_endBlock_16 : decode cX6_endBlock 16 = .ok (.invokevirtual 109, 3) := by decide +kernel
theorem dX6_endBlock_19 : decode cX6_endBlock 19 = .ok (.invokevirtual 101, 3) := by decide +kernel
theorem dX6_endBlock_22 : decode cX6_endBlock 22 = .ok (.lstore_n 1, 1) := by decide +kernel
theorem dX6_endBlock_23 : decode cX6_endBlock 23 = .ok (.aload_n 0, 1) := by decide +kernel
theorem dX6_endBlock_24 : decode cX6_endBlock 24 = .ok (.dup, 1) := by decide +kernel
theorem dX6_endBlock_25 : decode cX6_endBlock 25 = .ok (.getfield 41, 3) := by decide +kernel
theorem dX6_endBlock_28 : decode cX6_endBlock 28 = .ok (.iconst 1, 1) := by decide +kernel
theorem dX6_endBlock_29 : decode cX6_endBlock 29 = .ok (.isub, 1) := by decide +kernel
theorem dX6_endBlock_30 : decode cX6_endBlock 30 = .ok (.putfield 41, 3) := by decide +kernel
theorem dX6_endBlock_33 : decode cX6_endBlock 33 = .ok (.aload_n 0, 1) := by decide +kernel
theorem dX6_endBlock_34 : decode cX6_endBlock 34 = .ok (.getfield 41, 3) := by decide +kernel
theorem dX6_endBlock_37 : decode cX6_endBlock 37 = .ok (.iconst 1, 1) := by decide +kernel
theorem dX6_endBlock_38 : decode cX6_endBlock 38 = .ok (.if_icmp .ge 16, 3) := by decide +kernel
theorem dX6_endBlock_41 : decode cX6_endBlock 41 = .ok (.aload_n 0, 1) := by decide +kernel
theorem dX6_endBlock_42 : decode cX6_endBlock 42 = .ok (.getfield 37, 3) := by decide +kernel
theorem dX6_endBlock_45 : decode cX6_endBlock 45 = .ok (.aload_n 0, 1) := by decide +kernel
theorem dX6_endBlock_46 : decode cX6_endBlock 46 = .ok (.getfield 13, 3) := by decide +kernel
theorem dX6_endBlock_49 : decode cX6_endBlock 49 = .ok (.lload_n 1, 1) := by decide +kernel
theorem dX6_endBlock_50 : decode cX6_endBlock 50 = .ok (.invokevirtual 113, 3) := by decide +kernel
theorem dX6_endBlock_53 : decode cX6_endBlock 53 = .ok (.return_, 1) := by decide +kernel
theorem dX6_endBlock_54 : decode cX6_endBlock 54 = .ok (.aload_n 0, 1) := by decide +kernel
theorem dX6_endBlock_55 : decode cX6_endBlock 55 = .ok (.getfield 30, 3) := by decide +kernel
theorem dX6_endBlock_58 : decode cX6_endBlock 58 = .ok (.aload_n 0, 1) := by decide +kernel
theorem dX6_endBlock_59 : decode cX6_endBlock 59 = .ok (.getfield 41, 3) := by decide +kernel
theorem dX6_endBlock_62 : decode cX6_endBlock 62 = .ok (.iconst 1, 1) := by decide +kernel
theorem dX6_endBlock_63 : decode cX6_endBlock 63 = .ok (.isub, 1) := by decide +kernel
theorem dX6_endBlock_64 : decode cX6_endBlock 64 = .ok (.iaload, 1) := by decide +kernel
theorem dX6_endBlock_65 : decode cX6_endBlock 65 = .ok (.istore_n 3, 1) := by decide +kernel
theorem dX6_endBlock_66 : decode cX6_endBlock 66 = .ok (.aload_n 0, 1) := by decide +kernel
theorem dX6_endBlock_67 : decode cX6_endBlock 67 = .ok (.getfield 33, 3) := by decide +kernel
theorem dX6_endBlock_70 : decode cX6_endBlock 70 = .ok (.iload_n 3, 1) := by decide +kernel
theorem dX6_endBlock_71 : decode cX6_endBlock 71 = .ok (.iconst 0, 1) := by decide +kernel
theorem dX6_endBlock_72 : decode cX6_endBlock 72 = .ok (.invokevirtual 117, 3) := by decide +kernel
theorem dX6_endBlock_75 : decode cX6_endBlock 75 = .ok (.bipush 11, 2) := by decide +kernel
theorem dX6_endBlock_77 : decode cX6_endBlock 77 = .ok (.if_icmp .ne 37, 3) := by decide +kernel
theorem dX6_endBlock_80 : decode cX6_endBlock 80 = .ok (.aload_n 0, 1) := by decide +kernel
theorem dX6_endBlock_81 : decode cX6_endBlock 81 = .ok (.getfield 37, 3) := by decide +kernel
theorem dX6_endBlock_84 : decode cX6_endBlock 84 = .ok (.invokevirtual 120, 3) := by decide +kernel
theorem dX6_endBlock_87 : decode cX6_endBlock 87 = .ok (.aload_n 0, 1) := by decide +kernel
theorem dX6_endBlock_88 : decode cX6_endBlock 88 = .ok (.dup, 1) := by decide +kernel
theorem dX6_endBlock_89 : decode cX6_endBlock 89 = .ok (.getfield 45, 3) := by decide +kernel
theorem dX6_endBlock_92 : decode cX6_endBlock 92 = .ok (.aload_n 0, 1) := by decide +kernel
theorem dX6_endBlock_93 : decode cX6_endBlock 93 = .ok (.getfield 33, 3) := by decide +kernel
theorem dX6_endBlock_96 : decode cX6_endBlock 96 = .ok (.aload_n 0, 1) := by decide +kernel
theorem dX6_endBlock_97 : decode cX6_endBlock 97 = .ok (.getfield 33, 3) := by decide +kernel
theorem dX6_endBlock_100 : decode cX6_endBlock 100 = .ok (.iload_n 3, 1) := by decide +kernel
theorem dX6_endBlock_101 : decode cX6_endBlock 101 = .ok (.bipush 6, 2) := by decide +kernel
theorem dX6_endBlock_103 : decode cX6_endBlock 103 = .ok (.invokevirtual 117, 3) := by decide +kernel
theorem dX6_endBlock_106 : decode cX6_endBlock 106 = .ok (.iconst 2, 1) := by decide +kernel
theorem dX6_endBlock_107 : decode cX6_endBlock 107 = .ok (.invokevirtual 66, 3) := by decide +kernel
theorem dX6_endBlock_110 : decode cX6_endBlock 110 = .ok (.isub, 1) := by decide +kernel
theorem dX6_endBlock_111 : decode cX6_endBlock 111 = .ok (.putfield 45, 3) := by decide +kernel
theorem dX6_endBlock_114 : decode cX6_endBlock 114 = .ok (.aload_n 0, 1) := by decide +kernel
theorem dX6_endBlock_115 : decode cX6_endBlock 115 = .ok (.iload_n 3, 1) := by decide +kernel
theorem dX6_endBlock_116 : decode cX6_endBlock 116 = .ok (.lload_n 1, 1) := by decide +kernel
theorem dX6_endBlock_117 : decode cX6_endBlock 117 = .ok (.invokevirtual 123, 3) := by decide +kernel
theorem dX6_endBlock_120 : decode cX6_endBlock 120 = .ok (.return_, 1) := by decide +kernel
theorem dX6_goOn_0 : decode cX6_goOn 0 = .ok (.aload_n 0, 1) := by decide +kernel
theorem dX6_goOn_1 : decode cX6_goOn 1 = .ok (.aload_n 0, 1) := by decide +kernel
theorem dX6_goOn_2 : decode cX6_goOn 2 = .ok (.getfield 45, 3) := by decide +kernel
theorem dX6_goOn_5 : decode cX6_goOn 5 = .ok (.aload_n 0, 1) := by decide +kernel
theorem dX6_goOn_6 : decode cX6_goOn 6 = .ok (.getfield 33, 3) := by decide +kernel
theorem dX6_goOn_9 : decode cX6_goOn 9 = .ok (.iload_n 1, 1) := by decide +kernel
theorem dX6_goOn_10 : decode cX6_goOn 10 = .ok (.iconst 1, 1) := by decide +kernel
theorem dX6_goOn_11 : decode cX6_goOn 11 = .ok (.invokevirtual 117, 3) := by decide +kernel
theorem dX6_goOn_14 : decode cX6_goOn 14 = .ok (.lload_n 2, 1) := by decide +kernel
theorem dX6_goOn_15 : decode cX6_goOn 15 = .ok (.invokevirtual 62, 3) := by decide +kernel
theorem dX6_goOn_18 : decode cX6_goOn 18 = .ok (.aload_n 0, 1) := by decide +kernel
theorem dX6_goOn_19 : decode cX6_goOn 19 = .ok (.getfield 41, 3) := by decide +kernel
theorem dX6_goOn_22 : decode cX6_goOn 22 = .ok (.iconst 1, 1) := by decide +kernel
theorem dX6_goOn_23 : decode cX6_goOn 23 = .ok (.if_icmp .lt 23, 3) := by decide +kernel
theorem dX6_goOn_26 : decode cX6_goOn 26 = .ok (.aload_n 0, 1) := by decide +kernel
theorem dX6_goOn_27 : decode cX6_goOn 27 = .ok (.getfield 30, 3) := by decide +kernel
theorem dX6_goOn_30 : decode cX6_goOn 30 = .ok (.aload_n 0, 1) := by decide +kernel
theorem dX6_goOn_31 : decode cX6_goOn 31 = .ok (.getfield 41, 3) := by decide +kernel
theorem dX6_goOn_34 : decode cX6_goOn 34 = .ok (.iconst 1, 1) := by decide +kernel
theorem dX6_goOn_35 : decode cX6_goOn 35 = .ok (.isub, 1) := by decide +kernel
theorem dX6_goOn_36 : decode cX6_goOn 36 = .ok (.aload_n 0, 1) := by decide +kernel
theorem dX6_goOn_37 : decode cX6_goOn 37 = .ok (.getfield 33, 3) := by decide +kernel
theorem dX6_goOn_40 : decode cX6_goOn 40 = .ok (.iload_n 1, 1) := by decide +kernel
theorem dX6_goOn_41 : decode cX6_goOn 41 = .ok (.iconst 5, 1) := by decide +kernel
theorem dX6_goOn_42 : decode cX6_goOn 42 = .ok (.invokevirtual 117, 3) := by decide +kernel
theorem dX6_goOn_45 : decode cX6_goOn 45 = .ok (.iastore, 1) := by decide +kernel
theorem dX6_goOn_46 : decode cX6_goOn 46 = .ok (.return_, 1) := by decide +kernel
theorem dX6_step_0 : decode cX6_step 0 = .ok (.aload_n 0, 1) := by decide +kernel
theorem dX6_step_1 : decode cX6_step 1 = .ok (.getfield 33, 3) := by decide +kernel
theorem dX6_step_4 : decode cX6_step 4 = .ok (.iload_n 1, 1) := by decide +kernel
theorem dX6_step_5 : decode cX6_step 5 = .ok (.iconst 2, 1) := by decide +kernel
theorem dX6_step_6 : decode cX6_step 6 = .ok (.invokevirtual 117, 3) := by decide +kernel
theorem dX6_step_9 : decode cX6_step 9 = .ok (.istore_n 2, 1) := by decide +kernel
theorem dX6_step_10 : decode cX6_step 10 = .ok (.aload_n 0, 1) := by decide +kernel
theorem dX6_step_11 : decode cX6_step 11 = .ok (.getfield 33, 3) := by decide +kernel
theorem dX6_step_14 : decode cX6_step 14 = .ok (.iload_n 1, 1) := by decide +kernel
theorem dX6_step_15 : decode cX6_step 15 = .ok (.iconst 0, 1) := by decide +kernel
theorem dX6_step_16 : decode cX6_step 16 = .ok (.invokevirtual 117, 3) := by decide +kernel
theorem dX6_step_19 : decode cX6_step 19 = .ok (.tableswitch 297 0 11 #[61, 85, 104, 123, 142, 163, 184, 216, 238, 264, 280, 288], 61) := by decide +kernel
theorem dX6_step_80 : decode cX6_step 80 = .ok (.aload_n 0, 1) := by decide +kernel
theorem dX6_step_81 : decode cX6_step 81 = .ok (.iload_n 1, 1) := by decide +kernel
theorem dX6_step_82 : decode cX6_step 82 = .ok (.iload_n 2, 1) := by decide +kernel
theorem dX6_step_83 : decode cX6_step 83 = .ok (.aload_n 0, 1) := by decide +kernel
theorem dX6_step_84 : decode cX6_step 84 = .ok (.iload_n 1, 1) := by decide +kernel
theorem dX6_step_85 : decode cX6_step 85 = .ok (.iconst 0, 1) := by decide +kernel
theorem dX6_step_86 : decode cX6_step 86 = .ok (.invokevirtual 127, 3) := by decide +kernel
theorem dX6_step_89 : decode cX6_step 89 = .ok (.aload_n 0, 1) := by decide +kernel
theorem dX6_step_90 : decode cX6_step 90 = .ok (.iload_n 1, 1) := by decide +kernel
theorem dX6_step_91 : decode cX6_step 91 = .ok (.iconst 1, 1) := by decide +kernel
theorem dX6_step_92 : decode cX6_step 92 = .ok (.invokevirtual 127, 3) := by decide +kernel
theorem dX6_step_95 : decode cX6_step 95 = .ok (.invokestatic 129, 3) := by decide +kernel
theorem dX6_step_98 : decode cX6_step 98 = .ok (.invokevirtual 123, 3) := by decide +kernel
theorem dX6_step_101 : decode cX6_step 101 = .ok (.goto 223, 3) := by decide +kernel
theorem dX6_step_104 : decode cX6_step 104 = .ok (.aload_n 0, 1) := by decide +kernel
theorem dX6_step_105 : decode cX6_step 105 = .ok (.iload_n 1, 1) := by decide +kernel
theorem dX6_step_106 : decode cX6_step 106 = .ok (.bipush 36, 2) := by decide +kernel
theorem dX6_step_108 : decode cX6_step 108 = .ok (.aload_n 0, 1) := by decide +kernel
theorem dX6_step_109 : decode cX6_step 109 = .ok (.iload_n 1, 1) := by decide +kernel
theorem dX6_step_110 : decode cX6_step 110 = .ok (.iconst 0, 1) := by decide +kernel
theorem dX6_step_111 : decode cX6_step 111 = .ok (.invokevirtual 127, 3) := by decide +kernel
theorem dX6_step_114 : decode cX6_step 114 = .ok (.invokestatic 133, 3) := by decide +kernel
theorem dX6_step_117 : decode cX6_step 117 = .ok (.invokevirtual 123, 3) := by decide +kernel
theorem dX6_step_120 : decode cX6_step 120 = .ok (.goto 204, 3) := by decide +kernel
theorem dX6_step_123 : decode cX6_step 123 = .ok (.aload_n 0, 1) := by decide +kernel
theorem dX6_step_124 : decode cX6_step 124 = .ok (.iload_n 1, 1) := by decide +kernel
theorem dX6_step_125 : decode cX6_step 125 = .ok (.bipush 94, 2) := by decide +kernel
theorem dX6_step_127 : decode cX6_step 127 = .ok (.aload_n 0, 1) := by decide +kernel
theorem dX6_step_128 : decode cX6_step 128 = .ok (.iload_n 1, 1) := by decide +kernel
theorem dX6_step_129 : decode cX6_step 129 = .ok (.iconst 0, 1) := by decide +kernel
theorem dX6_step_130 : decode cX6_step 130 = .ok (.invokevirtual 127, 3) := by decide +kernel
theorem dX6_step_133 : decode cX6_step 133 = .ok (.invokestatic 133, 3) := by decide +kernel
theorem dX6_step_136 : decode cX6_step 136 = .ok (.invokevirtual 123, 3) := by decide +kernel
theorem dX6_step_139 : decode cX6_step 139 = .ok (.goto 185, 3) := by decide +kernel
theorem dX6_step_142 : decode cX6_step 142 = .ok (.aload_n 0, 1) := by decide +kernel
theorem dX6_step_143 : decode cX6_step 143 = .ok (.iload_n 1, 1) := by decide +kernel
theorem dX6_step_144 : decode cX6_step 144 = .ok (.bipush 35, 2) := by decide +kernel
theorem dX6_step_146 : decode cX6_step 146 = .ok (.aload_n 0, 1) := by decide +kernel
theorem dX6_step_147 : decode cX6_step 147 = .ok (.iload_n 1, 1) := by decide +kernel
theorem dX6_step_148 : decode cX6_step 148 = .ok (.iconst 0, 1) := by decide +kernel
theorem dX6_step_149 : decode cX6_step 149 = .ok (.invokevirtual 127, 3) := by decide +kernel
theorem dX6_step_152 : decode cX6_step 152 = .ok (.invokestatic 133, 3) := by decide +kernel
theorem dX6_step_155 : decode cX6_step 155 = .ok (.invokevirtual 123, 3) := by decide +kernel
theorem dX6_step_158 : decode cX6_step 158 = .ok (.goto 166, 3) := by decide +kernel
theorem dX6_step_161 : decode cX6_step 161 = .ok (.aload_n 0, 1) := by decide +kernel
theorem dX6_step_162 : decode cX6_step 162 = .ok (.iload_n 1, 1) := by decide +kernel
theorem dX6_step_163 : decode cX6_step 163 = .ok (.aload_n 0, 1) := by decide +kernel
theorem dX6_step_164 : decode cX6_step 164 = .ok (.getfield 13, 3) := by decide +kernel
theorem dX6_step_167 : decode cX6_step 167 = .ok (.aload_n 0, 1) := by decide +kernel
theorem dX6_step_168 : decode cX6_step 168 = .ok (.iload_n 1, 1) := by decide +kernel
theorem dX6_step_169 : decode cX6_step 169 = .ok (.iconst 0, 1) := by decide +kernel
theorem dX6_step_170 : decode cX6_step 170 = .ok (.invokevirtual 105, 3) := by decide +kernel
theorem dX6_step_173 : decode cX6_step 173 = .ok (.invokevirtual 137, 3) := by decide +kernel
theorem dX6_step_176 : decode cX6_step 176 = .ok (.invokevirtual 123, 3) := by decide +kernel
theorem dX6_step_179 : decode cX6_step 179 = .ok (.goto 145, 3) := by decide +kernel
theorem dX6_step_182 : decode cX6_step 182 = .ok (.aload_n 0, 1) := by decide +kernel
theorem dX6_step_183 : decode cX6_step 183 = .ok (.iload_n 1, 1) := by decide +kernel
theorem dX6_step_184 : decode cX6_step 184 = .ok (.aload_n 0, 1) := by decide +kernel
theorem dX6_step_185 : decode cX6_step 185 = .ok (.getfield 13, 3) := by decide +kernel
theorem dX6_step_188 : decode cX6_step 188 = .ok (.aload_n 0, 1) := by decide +kernel
theorem dX6_step_189 : decode cX6_step 189 = .ok (.iload_n 1, 1) := by decide +kernel
theorem dX6_step_190 : decode cX6_step 190 = .ok (.iconst 0, 1) := by decide +kernel
theorem dX6_step_191 : decode cX6_step 191 = .ok (.invokevirtual 105, 3) := by decide +kernel
theorem dX6_step_194 : decode cX6_step 194 = .ok (.invokevirtual 139, 3) := by decide +kernel
theorem dX6_step_197 : decode cX6_step 197 = .ok (.invokevirtual 123, 3) := by decide +kernel
theorem dX6_step_200 : decode cX6_step 200 = .ok (.goto 124, 3) := by decide +kernel
theorem dX6_step_203 : decode cX6_step 203 = .ok (.aload_n 0, 1) := by decide +kernel
theorem dX6_step_204 : decode cX6_step 204 = .ok (.aload_n 0, 1) := by decide +kernel
theorem dX6_step_205 : decode cX6_step 205 = .ok (.getfield 33, 3) := by decide +kernel
theorem dX6_step_208 : decode cX6_step 208 = .ok (.iload_n 1, 1) := by decide +kernel
theorem dX6_step_209 : decode cX6_step 209 = .ok (.aload_n 0, 1) := by decide +kernel
theorem dX6_step_210 : decode cX6_step 210 = .ok (.iload_n 1, 1) := by decide +kernel
theorem dX6_step_211 : decode cX6_step 211 = .ok (.iconst 0, 1) := by decide +kernel
theorem dX6_step_212 : decode cX6_step 212 = .ok (.invokevirtual 127, 3) := by decide +kernel
theorem dX6_step_215 : decode cX6_step 215 = .ok (.invokestatic 142, 3) := by decide +kernel
theorem dX6_step_218 : decode cX6_step 218 = .ok (.ifCond .eq 7, 3) := by decide +kernel
theorem dX6_step_221 : decode cX6_step 221 = .ok (.iconst 3, 1) := by decide +kernel
theorem dX6_step_222 : decode cX6_step 222 = .ok (.goto 4, 3) := by decide +kernel
theorem dX6_step_225 : decode cX6_step 225 = .ok (.iconst 4, 1) := by decide +kernel
theorem dX6_step_226 : decode cX6_step 226 = .ok (.invokevirtual 117, 3) := by decide +kernel
theorem dX6_step_229 : decode cX6_step 229 = .ok (.invokevirtual 70, 3) := by decide +kernel
theorem dX6_step_232 : decode cX6_step 232 = .ok (.goto 92, 3) := by decide +kernel
theorem dX6_step_235 : decode cX6_step 235 = .ok (.aload_n 0, 1) := by decide +kernel
theorem dX6_step_236 : decode cX6_step 236 = .ok (.getfield 37, 3) := by decide +kernel
theorem dX6_step_239 : decode cX6_step 239 = .ok (.aload_n 0, 1) := by decide +kernel
theorem dX6_step_240 : decode cX6_step 240 = .ok (.iload_n 1, 1) := by decide +kernel
theorem dX6_step_241 : decode cX6_step 241 = .ok (.iconst 0, 1) := by decide +kernel
theorem dX6_step_242 : decode cX6_step 242 = .ok (.invokevirtual 127, 3) := by decide +kernel
theorem dX6_step_245 : decode cX6_step 245 = .ok (.invokevirtual 146, 3) := by decide +kernel
theorem dX6_step_248 : decode cX6_step 248 = .ok (.aload_n 0, 1) := by decide +kernel
theorem dX6_step_249 : decode cX6_step 249 = .ok (.iload_n 1, 1) := by decide +kernel
theorem dX6_step_250 : decode cX6_step 250 = .ok (.lconst 0, 1) := by decide +kernel
theorem dX6_step_251 : decode cX6_step 251 = .ok (.invokevirtual 123, 3) := by decide +kernel
theorem dX6_step_254 : decode cX6_step 254 = .ok (.goto 70, 3) := by decide +kernel
theorem dX6_step_257 : decode cX6_step 257 = .ok (.aload_n 0, 1) := by decide +kernel
theorem dX6_step_258 : decode cX6_step 258 = .ok (.iload_n 1, 1) := by decide +kernel
theorem dX6_step_259 : decode cX6_step 259 = .ok (.aload_n 0, 1) := by decide +kernel
theorem dX6_step_260 : decode cX6_step 260 = .ok (.getfield 37, 3) := by decide +kernel
theorem dX6_step_263 : decode cX6_step 263 = .ok (.iload_n 2, 1) := by decide +kernel
theorem dX6_step_264 : decode cX6_step 264 = .ok (.iload_n 2, 1) := by decide +kernel
theorem dX6_step_265 : decode cX6_step 265 = .ok (.aload_n 0, 1) := by decide +kernel
theorem dX6_step_266 : decode cX6_step 266 = .ok (.iload_n 1, 1) := by decide +kernel
theorem dX6_step_267 : decode cX6_step 267 = .ok (.iconst 0, 1) := by decide +kernel
theorem dX6_step_268 : decode cX6_step 268 = .ok (.invokevirtual 127, 3) := by decide +kernel
theorem dX6_step_271 : decode cX6_step 271 = .ok (.invokestatic 150, 3) := by decide +kernel
theorem dX6_step_274 : decode cX6_step 274 = .ok (.invokevirtual 153, 3) := by decide +kernel
theorem dX6_step_277 : decode cX6_step 277 = .ok (.invokevirtual 123, 3) := by decide +kernel
theorem dX6_step_280 : decode cX6_step 280 = .ok (.goto 44, 3) := by decide +kernel
theorem dX6_step_283 : decode cX6_step 283 = .ok (.aload_n 0, 1) := by decide +kernel
theorem dX6_step_284 : decode cX6_step 284 = .ok (.iload_n 1, 1) := by decide +kernel
theorem dX6_step_285 : decode cX6_step 285 = .ok (.aload_n 0, 1) := by decide +kernel
theorem dX6_step_286 : decode cX6_step 286 = .ok (.getfield 37, 3) := by decide +kernel
theorem dX6_step_289 : decode cX6_step 289 = .ok (.iload_n 2, 1) := by decide +kernel
theorem dX6_step_290 : decode cX6_step 290 = .ok (.invokevirtual 156, 3) := by decide +kernel
theorem dX6_step_293 : decode cX6_step 293 = .ok (.invokevirtual 123, 3) := by decide +kernel
theorem dX6_step_296 : decode cX6_step 296 = .ok (.goto 28, 3) := by decide +kernel
theorem dX6_step_299 : decode cX6_step 299 = .ok (.aload_n 0, 1) := by decide +kernel
theorem dX6_step_300 : decode cX6_step 300 = .ok (.iload_n 1, 1) := by decide +kernel
theorem dX6_step_301 : decode cX6_step 301 = .ok (.invokevirtual 159, 3) := by decide +kernel
theorem dX6_step_304 : decode cX6_step 304 = .ok (.goto 20, 3) := by decide +kernel
theorem dX6_step_307 : decode cX6_step 307 = .ok (.aload_n 0, 1) := by decide +kernel
theorem dX6_step_308 : decode cX6_step 308 = .ok (.iload_n 1, 1) := by decide +kernel
theorem dX6_step_309 : decode cX6_step 309 = .ok (.iload_n 2, 1) := by decide +kernel
theorem dX6_step_310 : decode cX6_step 310 = .ok (.invokevirtual 162, 3) := by decide +kernel
theorem dX6_step_313 : decode cX6_step 313 = .ok (.goto 11, 3) := by decide +kernel
theorem dX6_step_316 : decode cX6_step 316 = .ok (.aload_n 0, 1) := by decide +kernel
theorem dX6_step_317 : decode cX6_step 317 = .ok (.getfield 37, 3) := by decide +kernel
theorem dX6_step_320 : decode cX6_step 320 = .ok (.iconst 4, 1) := by decide +kernel
theorem dX6_step_321 : decode cX6_step 321 = .ok (.putfield 166, 3) := by decide +kernel
theorem dX6_step_324 : decode cX6_step 324 = .ok (.return_, 1) := by decide +kernel
theorem dX6_makePair_0 : decode cX6_makePair 0 = .ok (.aload_n 0, 1) := by decide +kernel
theorem dX6_makePair_1 : decode cX6_makePair 1 = .ok (.iload_n 1, 1) := by decide +kernel
theorem dX6_makePair_2 : decode cX6_makePair 2 = .ok (.iconst 0, 1) := by decide +kernel
theorem dX6_makePair_3 : decode cX6_makePair 3 = .ok (.invokevirtual 105, 3) := by decide +kernel
theorem dX6_makePair_6 : decode cX6_makePair 6 = .ok (.lstore_n 2, 1) := by decide +kernel
theorem dX6_makePair_7 : decode cX6_makePair 7 = .ok (.aload_n 0, 1) := by decide +kernel
theorem dX6_makePair_8 : decode cX6_makePair 8 = .ok (.iload_n 1, 1) := by decide +kernel
theorem dX6_makePair_9 : decode cX6_makePair 9 = .ok (.iconst 1, 1) := by decide +kernel
theorem dX6_makePair_10 : decode cX6_makePair 10 = .ok (.invokevirtual 105, 3) := by decide +kernel
theorem dX6_makePair_13 : decode cX6_makePair 13 = .ok (.lstore 4, 2) := by decide +kernel
theorem dX6_makePair_15 : decode cX6_makePair 15 = .ok (.aload_n 0, 1) := by decide +kernel
theorem dX6_makePair_16 : decode cX6_makePair 16 = .ok (.getfield 13, 3) := by decide +kernel
theorem dX6_makePair_19 : decode cX6_makePair 19 = .ok (.lload_n 2, 1) := by decide +kernel
theorem dX6_makePair_20 : decode cX6_makePair 20 = .ok (.lload 4, 2) := by decide +kernel
theorem dX6_makePair_22 : decode cX6_makePair 22 = .ok (.invokevirtual 169, 3) := by decide +kernel
theorem dX6_makePair_25 : decode cX6_makePair 25 = .ok (.ifCond .eq 14, 3) := by decide +kernel
theorem dX6_makePair_28 : decode cX6_makePair 28 = .ok (.aload_n 0, 1) := by decide +kernel
theorem dX6_makePair_29 : decode cX6_makePair 29 = .ok (.getfield 37, 3) := by decide +kernel
theorem dX6_makePair_32 : decode cX6_makePair 32 = .ok (.iconst 2, 1) := by decide +kernel
theorem dX6_makePair_33 : decode cX6_makePair 33 = .ok (.putfield 166, 3) := by decide +kernel
theorem dX6_makePair_36 : decode cX6_makePair 36 = .ok (.goto 18, 3) := by decide +kernel
theorem dX6_makePair_39 : decode cX6_makePair 39 = .ok (.aload_n 0, 1) := by decide +kernel
theorem dX6_makePair_40 : decode cX6_makePair 40 = .ok (.iload_n 1, 1) := by decide +kernel
theorem dX6_makePair_41 : decode cX6_makePair 41 = .ok (.aload_n 0, 1) := by decide +kernel
theorem dX6_makePair_42 : decode cX6_makePair 42 = .ok (.getfield 13, 3) := by decide +kernel
theorem dX6_makePair_45 : decode cX6_makePair 45 = .ok (.lload_n 2, 1) := by decide +kernel
theorem dX6_makePair_46 : decode cX6_makePair 46 = .ok (.lload 4, 2) := by decide +kernel
theorem dX6_makePair_48 : decode cX6_makePair 48 = .ok (.invokevirtual 173, 3) := by decide +kernel
theorem dX6_makePair_51 : decode cX6_makePair 51 = .ok (.invokevirtual 123, 3) := by decide +kernel
theorem dX6_makePair_54 : decode cX6_makePair 54 = .ok (.return_, 1) := by decide +kernel
theorem dX6_call_0 : decode cX6_call 0 = .ok (.aload_n 0, 1) := by decide +kernel
theorem dX6_call_1 : decode cX6_call 1 = .ok (.getfield 33, 3) := by decide +kernel
theorem dX6_call_4 : decode cX6_call 4 = .ok (.iload_n 1, 1) := by decide +kernel
theorem dX6_call_5 : decode cX6_call 5 = .ok (.bipush 6, 2) := by decide +kernel
theorem dX6_call_7 : decode cX6_call 7 = .ok (.invokevirtual 117, 3) := by decide +kernel
theorem dX6_call_10 : decode cX6_call 10 = .ok (.istore_n 3, 1) := by decide +kernel
theorem dX6_call_11 : decode cX6_call 11 = .ok (.aload_n 0, 1) := by decide +kernel
theorem dX6_call_12 : decode cX6_call 12 = .ok (.getfield 37, 3) := by decide +kernel
theorem dX6_call_15 : decode cX6_call 15 = .ok (.invokevirtual 58, 3) := by decide +kernel
theorem dX6_call_18 : decode cX6_call 18 = .ok (.ifCond .ne 4, 3) := by decide +kernel
theorem dX6_call_21 : decode cX6_call 21 = .ok (.return_, 1) := by decide +kernel
theorem dX6_call_22 : decode cX6_call 22 = .ok (.aload_n 0, 1) := by decide +kernel
theorem dX6_call_23 : decode cX6_call 23 = .ok (.getfield 45, 3) := by decide +kernel
theorem dX6_call_26 : decode cX6_call 26 = .ok (.aload_n 0, 1) := by decide +kernel
theorem dX6_call_27 : decode cX6_call 27 = .ok (.getfield 33, 3) := by decide +kernel
theorem dX6_call_30 : decode cX6_call 30 = .ok (.iload_n 3, 1) := by decide +kernel
theorem dX6_call_31 : decode cX6_call 31 = .ok (.iconst 2, 1) := by decide +kernel
theorem dX6_call_32 : decode cX6_call 32 = .ok (.invokevirtual 66, 3) := by decide +kernel
theorem dX6_call_35 : decode cX6_call 35 = .ok (.iadd, 1) := by decide +kernel
theorem dX6_call_36 : decode cX6_call 36 = .ok (.istore 4, 2) := by decide +kernel
theorem dX6_call_38 : decode cX6_call 38 = .ok (.aload_n 0, 1) := by decide +kernel
theorem dX6_call_39 : decode cX6_call 39 = .ok (.getfield 33, 3) := by decide +kernel
theorem dX6_call_42 : decode cX6_call 42 = .ok (.iload_n 1, 1) := by decide +kernel
theorem dX6_call_43 : decode cX6_call 43 = .ok (.bipush 7, 2) := by decide +kernel
theorem dX6_call_45 : decode cX6_call 45 = .ok (.invokevirtual 117, 3) := by decide +kernel
theorem dX6_call_48 : decode cX6_call 48 = .ok (.istore 5, 2) := by decide +kernel
theorem dX6_call_50 : decode cX6_call 50 = .ok (.iconst 0, 1) := by decide +kernel
theorem dX6_call_51 : decode cX6_call 51 = .ok (.istore 6, 2) := by decide +kernel
theorem dX6_call_53 : decode cX6_call 53 = .ok (.iload 6, 2) := by decide +kernel
theorem dX6_call_55 : decode cX6_call 55 = .ok (.iload 5, 2) := by decide +kernel
theorem dX6_call_57 : decode cX6_call 57 = .ok (.if_icmp .ge 26, 3) := by decide +kernel
theorem dX6_call_60 : decode cX6_call 60 = .ok (.aload_n 0, 1) := by decide +kernel
theorem dX6_call_61 : decode cX6_call 61 = .ok (.iload 4, 2) := by decide +kernel
theorem dX6_call_63 : decode cX6_call 63 = .ok (.iload 6, 2) := by decide +kernel
theorem dX6_call_65 : decode cX6_call 65 = .ok (.aload_n 0, 1) := by decide +kernel
theorem dX6_call_66 : decode cX6_call 66 = .ok (.iload_n 1, 1) := by decide +kernel
theorem dX6_call_67 : decode cX6_call 67 = .ok (.iconst 2, 1) := by decide +kernel
theorem dX6_call_68 : decode cX6_call 68 = .ok (.iload 6, 2) := by decide +kernel
theorem dX6_call_70 : decode cX6_call 70 = .ok (.iadd, 1) := by decide +kernel
theorem dX6_call_71 : decode cX6_call 71 = .ok (.invokevirtual 105, 3) := by decide +kernel
theorem dX6_call_74 : decode cX6_call 74 = .ok (.invokevirtual 62, 3) := by decide +kernel
theorem dX6_call_77 : decode cX6_call 77 = .ok (.iinc 6 1, 3) := by decide +kernel
theorem dX6_call_80 : decode cX6_call 80 = .ok (.goto (-27), 3) := by decide +kernel
theorem dX6_call_83 : decode cX6_call 83 = .ok (.aload_n 0, 1) := by decide +kernel
theorem dX6_call_84 : decode cX6_call 84 = .ok (.iload 4, 2) := by decide +kernel
theorem dX6_call_86 : decode cX6_call 86 = .ok (.putfield 45, 3) := by decide +kernel
theorem dX6_call_89 : decode cX6_call 89 = .ok (.aload_n 0, 1) := by decide +kernel
theorem dX6_call_90 : decode cX6_call 90 = .ok (.aload_n 0, 1) := by decide +kernel
theorem dX6_call_91 : decode cX6_call 91 = .ok (.getfield 33, 3) := by decide +kernel
theorem dX6_call_94 : decode cX6_call 94 = .ok (.iload_n 2, 1) := by decide +kernel
theorem dX6_call_95 : decode cX6_call 95 = .ok (.iconst 3, 1) := by decide +kernel
theorem dX6_call_96 : decode cX6_call 96 = .ok (.invokevirtual 66, 3) := by decide +kernel
theorem dX6_call_99 : decode cX6_call 99 = .ok (.invokevirtual 70, 3) := by decide +kernel
theorem dX6_call_102 : decode cX6_call 102 = .ok (.return_, 1) := by decide +kernel
theorem dX7_init_0 : decode cX7_init 0 = .ok (.aload_n 0, 1) := by decide +kernel
theorem dX7_init_1 : decode cX7_init 1 = .ok (.invokespecial 3, 3) := by decide +kernel
theorem dX7_init_4 : decode cX7_init 4 = .ok (.aload_n 0, 1) := by decide +kernel
theorem dX7_init_5 : decode cX7_init 5 = .ok (.aload_n 1, 1) := by decide +kernel
theorem dX7_init_6 : decode cX7_init 6 = .ok (.putfield 9, 3) := by decide +kernel
theorem dX7_init_9 : decode cX7_init 9 = .ok (.aload_n 0, 1) := by decide +kernel
theorem dX7_init_10 : decode cX7_init 10 = .ok (.bipush 8, 2) := by decide +kernel
theorem dX7_init_12 : decode cX7_init 12 = .ok (.newarray .long, 2) := by decide +kernel
theorem dX7_init_14 : decode cX7_init 14 = .ok (.putfield 17, 3) := by decide +kernel
theorem dX7_init_17 : decode cX7_init 17 = .ok (.aload_n 0, 1) := by decide +kernel
theorem dX7_init_18 : decode cX7_init 18 = .ok (.iconst 5, 1) := by decide +kernel
theorem dX7_init_19 : decode cX7_init 19 = .ok (.newarray .long, 2) := by decide +kernel
theorem dX7_init_21 : decode cX7_init 21 = .ok (.putfield 23, 3) := by decide +kernel
theorem dX7_init_24 : decode cX7_init 24 = .ok (.aload_n 0, 1) := by decide +kernel
theorem dX7_init_25 : decode cX7_init 25 = .ok (.aload_n 2, 1) := by decide +kernel
theorem dX7_init_26 : decode cX7_init 26 = .ok (.putfield 26, 3) := by decide +kernel
theorem dX7_init_29 : decode cX7_init 29 = .ok (.aload_n 0, 1) := by decide +kernel
theorem dX7_init_30 : decode cX7_init 30 = .ok (.aload_n 3, 1) := by decide +kernel
theorem dX7_init_31 : decode cX7_init 31 = .ok (.putfield 30, 3) := by decide +kernel
theorem dX7_init_34 : decode cX7_init 34 = .ok (.aload_n 0, 1) := by decide +kernel
theorem dX7_init_35 : decode cX7_init 35 = .ok (.iconst (-1), 1) := by decide +kernel
theorem dX7_init_36 : decode cX7_init 36 = .ok (.putfield 34, 3) := by decide +kernel
theorem dX7_init_39 : decode cX7_init 39 = .ok (.return_, 1) := by decide +kernel
theorem dX7_runTask_0 : decode cX7_runTask 0 = .ok (.aload_n 0, 1) := by decide +kernel
theorem dX7_runTask_1 : decode cX7_runTask 1 = .ok (.aload_n 1, 1) := by decide +kernel
theorem dX7_runTask_2 : decode cX7_runTask 2 = .ok (.putfield 26, 3) := by decide +kernel
theorem dX7_runTask_5 : decode cX7_runTask 5 = .ok (.aload_n 0, 1) := by decide +kernel
theorem dX7_runTask_6 : decode cX7_runTask 6 = .ok (.aload 4, 2) := by decide +kernel
theorem dX7_runTask_8 : decode cX7_runTask 8 = .ok (.putfield 30, 3) := by decide +kernel
theorem dX7_runTask_11 : decode cX7_runTask 11 = .ok (.aload_n 0, 1) := by decide +kernel
theorem dX7_runTask_12 : decode cX7_runTask 12 = .ok (.getfield 30, 3) := by decide +kernel
theorem dX7_runTask_15 : decode cX7_runTask 15 = .ok (.invokevirtual 38, 3) := by decide +kernel
theorem dX7_runTask_18 : decode cX7_runTask 18 = .ok (.aload_n 0, 1) := by decide +kernel
theorem dX7_runTask_19 : decode cX7_runTask 19 = .ok (.getfield 9, 3) := by decide +kernel
theorem dX7_runTask_22 : decode cX7_runTask 22 = .ok (.invokevirtual 43, 3) := by decide +kernel
theorem dX7_runTask_25 : decode cX7_runTask 25 = .ok (.aload_n 0, 1) := by decide +kernel
theorem dX7_runTask_26 : decode cX7_runTask 26 = .ok (.getfield 9, 3) := by decide +kernel
theorem dX7_runTask_29 : decode cX7_runTask 29 = .ok (.aload_n 3, 1) := by decide +kernel
theorem dX7_runTask_30 : decode cX7_runTask 30 = .ok (.aload_n 0, 1) := by decide +kernel
theorem dX7_runTask_31 : decode cX7_runTask 31 = .ok (.getfield 17, 3) := by decide +kernel
theorem dX7_runTask_34 : decode cX7_runTask 34 = .ok (.aload_n 0, 1) := by decide +kernel
theorem dX7_runTask_35 : decode cX7_runTask 35 = .ok (.getfield 17, 3) := by decide +kernel
theorem dX7_runTask_38 : decode cX7_runTask 38 = .ok (.invokevirtual 46, 3) := by decide +kernel
theorem dX7_runTask_41 : decode cX7_runTask 41 = .ok (.pop, 1) := by decide +kernel
theorem dX7_runTask_42 : decode cX7_runTask 42 = .ok (.aload_n 0, 1) := by decide +kernel
theorem dX7_runTask_43 : decode cX7_runTask 43 = .ok (.getfield 9, 3) := by decide +kernel
theorem dX7_runTask_46 : decode cX7_runTask 46 = .ok (.aload_n 2, 1) := by decide +kernel
theorem dX7_runTask_47 : decode cX7_runTask 47 = .ok (.aload_n 0, 1) := by decide +kernel
theorem dX7_runTask_48 : decode cX7_runTask 48 = .ok (.getfield 17, 3) := by decide +kernel
theorem dX7_runTask_51 : decode cX7_runTask 51 = .ok (.aload_n 0, 1) := by decide +kernel
theorem dX7_runTask_52 : decode cX7_runTask 52 = .ok (.getfield 23, 3) := by decide +kernel
theorem dX7_runTask_55 : decode cX7_runTask 55 = .ok (.invokevirtual 46, 3) := by decide +kernel
theorem dX7_runTask_58 : decode cX7_runTask 58 = .ok (.istore 5, 2) := by decide +kernel
theorem dX7_runTask_60 : decode cX7_runTask 60 = .ok (.iconst 0, 1) := by decide +kernel
theorem dX7_runTask_61 : decode cX7_runTask 61 = .ok (.istore 6, 2) := by decide +kernel
theorem dX7_runTask_63 : decode cX7_runTask 63 = .ok (.iload 6, 2) := by decide +kernel
theorem dX7_runTask_65 : decode cX7_runTask 65 = .ok (.iload 5, 2) := by decide +kernel
theorem dX7_runTask_67 : decode cX7_runTask 67 = .ok (.if_icmp .ge 51, 3) := by decide +kernel
theorem dX7_runTask_70 : decode cX7_runTask 70 = .ok (.aload_n 0, 1) := by decide +kernel
theorem dX7_runTask_71 : decode cX7_runTask 71 = .ok (.getfield 9, 3) := by decide +kernel
theorem dX7_runTask_74 : decode cX7_runTask 74 = .ok (.aload_n 0, 1) := by decide +kernel
theorem dX7_runTask_75 : decode cX7_runTask 75 = .ok (.getfield 23, 3) := by decide +kernel
theorem dX7_runTask_78 : decode cX7_runTask 78 = .ok (.iload 6, 2) := by decide +kernel
theorem dX7_runTask_80 : decode cX7_runTask 80 = .ok (.laload, 1) := by decide +kernel
theorem dX7_runTask_81 : decode cX7_runTask 81 = .ok (.invokevirtual 50, 3) := by decide +kernel
theorem dX7_runTask_84 : decode cX7_runTask 84 = .ok (.bipush 40, 2) := by decide +kernel
theorem dX7_runTask_86 : decode cX7_runTask 86 = .ok (.if_icmp .le 12, 3) := by decide +kernel
theorem dX7_runTask_89 : decode cX7_runTask 89 = .ok (.aload_n 0, 1) := by decide +kernel
theorem dX7_runTask_90 : decode cX7_runTask 90 = .ok (.getfield 30, 3) := by decide +kernel
theorem dX7_runTask_93 : decode cX7_runTask 93 = .ok (.iconst 2, 1) := by decide +kernel
theorem dX7_runTask_94 : decode cX7_runTask 94 = .ok (.putfield 54, 3) := by decide +kernel
theorem dX7_runTask_97 : decode cX7_runTask 97 = .ok (.return_, 1) := by decide +kernel
theorem dX7_runTask_98 : decode cX7_runTask 98 = .ok (.aload_n 0, 1) := by decide +kernel
theorem dX7_runTask_99 : decode cX7_runTask 99 = .ok (.getfield 9, 3) := by decide +kernel
theorem dX7_runTask_102 : decode cX7_runTask 102 = .ok (.aload_n 0, 1) := by decide +kernel
theorem dX7_runTask_103 : decode cX7_runTask 103 = .ok (.getfield 23, 3) := by decide +kernel
theorem dX7_runTask_106 : decode cX7_runTask 106 = .ok (.iload 6, 2) := by decide +kernel
theorem dX7_runTask_108 : decode cX7_runTask 108 = .ok (.laload, 1) := by decide +kernel
theorem dX7_runTask_109 : decode cX7_runTask 109 = .ok (.invokevirtual 57, 3) := by decide +kernel
theorem dX7_runTask_112 : decode cX7_runTask 112 = .ok (.iinc 6 1, 3) := by decide +kernel
theorem dX7_runTask_115 : decode cX7_runTask 115 = .ok (.goto (-52), 3) := by decide +kernel
theorem dX7_runTask_118 : decode cX7_runTask 118 = .ok (.aload_n 0, 1) := by decide +kernel
theorem dX7_runTask_119 : decode cX7_runTask 119 = .ok (.aload_n 2, 1) := by decide +kernel
theorem dX7_runTask_120 : decode cX7_runTask 120 = .ok (.getfield 61, 3) := by decide +kernel
theorem dX7_runTask_123 : decode cX7_runTask 123 = .ok (.iload 5, 2) := by decide +kernel
theorem dX7_runTask_125 : decode cX7_runTask 125 = .ok (.invokevirtual 64, 3) := by decide +kernel
theorem dX7_runTask_128 : decode cX7_runTask 128 = .ok (.iconst 0, 1) := by decide +kernel
theorem dX7_runTask_129 : decode cX7_runTask 129 = .ok (.istore 6, 2) := by decide +kernel
theorem dX7_runTask_131 : decode cX7_runTask 131 = .ok (.iload 6, 2) := by decide +kernel
theorem dX7_runTask_133 : decode cX7_runTask 133 = .ok (.ldc 68, 2) := by decide +kernel
theorem dX7_runTask_135 : decode cX7_runTask 135 = .ok (.if_icmp .ge 23, 3) := by decide +kernel
theorem dX7_runTask_138 : decode cX7_runTask 138 = .ok (.aload_n 0, 1) := by decide +kernel
theorem dX7_runTask_139 : decode cX7_runTask 139 = .ok (.getfield 30, 3) := by decide +kernel
theorem dX7_runTask_142 : decode cX7_runTask 142 = .ok (.invokevirtual 69, 3) := by decide +kernel
theorem dX7_runTask_145 : decode cX7_runTask 145 = .ok (.ifCond .eq 13, 3) := by decide +kernel
theorem dX7_runTask_148 : decode cX7_runTask 148 = .ok (.aload_n 0, 1) := by decide +kernel
theorem dX7_runTask_149 : decode cX7_runTask 149 = .ok (.invokevirtual 73, 3) := by decide +kernel
theorem dX7_runTask_152 : decode cX7_runTask 152 = .ok (.iinc 6 1, 3) := by decide +kernel
theorem dX7_runTask_155 : decode cX7_runTask 155 = .ok (.goto (-24), 3) := by decide +kernel
theorem dX7_runTask_158 : decode cX7_runTask 158 = .ok (.return_, 1) := by decide +kernel
theorem dX7_step_0 : decode cX7_step 0 = .ok (.aload_n 0, 1) := by decide +kernel
theorem dX7_step_1 : decode cX7_step 1 = .ok (.getfield 26, 3) := by decide +kernel
theorem dX7_step_4 : decode cX7_step 4 = .ok (.aload_n 0, 1) := by decide +kernel
theorem dX7_step_5 : decode cX7_step 5 = .ok (.getfield 34, 3) := by decide +kernel
theorem dX7_step_8 : decode cX7_step 8 = .ok (.invokevirtual 76, 3) := by decide +kernel
theorem dX7_step_11 : decode cX7_step 11 = .ok (.istore_n 1, 1) := by decide +kernel
theorem dX7_step_12 : decode cX7_step 12 = .ok (.aload_n 0, 1) := by decide +kernel
theorem dX7_step_13 : decode cX7_step 13 = .ok (.getfield 26, 3) := by decide +kernel
theorem dX7_step_16 : decode cX7_step 16 = .ok (.aload_n 0, 1) := by decide +kernel
theorem dX7_step_17 : decode cX7_step 17 = .ok (.getfield 34, 3) := by decide +kernel
theorem dX7_step_20 : decode cX7_step 20 = .ok (.invokevirtual 82, 3) := by decide +kernel
theorem dX7_step_23 : decode cX7_step 23 = .ok (.istore_n 2, 1) := by decide +kernel
theorem dX7_step_24 : decode cX7_step 24 = .ok (.aload_n 0, 1) := by decide +kernel
theorem dX7_step_25 : decode cX7_step 25 = .ok (.getfield 26, 3) := by decide +kernel
theorem dX7_step_28 : decode cX7_step 28 = .ok (.aload_n 0, 1) := by decide +kernel
theorem dX7_step_29 : decode cX7_step 29 = .ok (.getfield 34, 3) := by decide +kernel
theorem dX7_step_32 : decode cX7_step 32 = .ok (.invokevirtual 85, 3) := by decide +kernel
theorem dX7_step_35 : decode cX7_step 35 = .ok (.istore_n 3, 1) := by decide +kernel
theorem dX7_step_36 : decode cX7_step 36 = .ok (.aload_n 0, 1) := by decide +kernel
theorem dX7_step_37 : decode cX7_step 37 = .ok (.dup, 1) := by decide +kernel
theorem dX7_step_38 : decode cX7_step 38 = .ok (.getfield 34, 3) := by decide +kernel
theorem dX7_step_41 : decode cX7_step 41 = .ok (.iconst 1, 1) := by decide +kernel
theorem dX7_step_42 : decode cX7_step 42 = .ok (.iadd, 1) := by decide +kernel
theorem dX7_step_43 : decode cX7_step 43 = .ok (.putfield 34, 3) := by decide +kernel
theorem dX7_step_46 : decode cX7_step 46 = .ok (.iload_n 1, 1) := by decide +kernel
theorem dX7_step_47 : decode cX7_step 47 = .ok (.tableswitch 346 0 13 #[69, 84, 102, 134, 155, 201, 208, 236, 244, 247, 272, 301, 319, 337], 69) := by decide +kernel
theorem dX7_step_116 : decode cX7_step 116 = .ok (.aload_n 0, 1) := by decide +kernel
theorem dX7_step_117 : decode cX7_step 117 = .ok (.getfield 9, 3) := by decide +kernel
theorem dX7_step_120 : decode cX7_step 120 = .ok (.iload_n 2, 1) := by decide +kernel
theorem dX7_step_121 : decode cX7_step 121 = .ok (.iload_n 3, 1) := by decide +kernel
theorem dX7_step_122 : decode cX7_step 122 = .ok (.invokestatic 88, 3) := by decide +kernel
theorem dX7_step_125 : decode cX7_step 125 = .ok (.invokevirtual 57, 3) := by decide +kernel
theorem dX7_step_128 : decode cX7_step 128 = .ok (.goto 269, 3) := by decide +kernel
theorem dX7_step_131 : decode cX7_step 131 = .ok (.aload_n 0, 1) := by decide +kernel
theorem dX7_step_132 : decode cX7_step 132 = .ok (.getfield 9, 3) := by decide +kernel
theorem dX7_step_135 : decode cX7_step 135 = .ok (.aload_n 0, 1) := by decide +kernel
theorem dX7_step_136 : decode cX7_step 136 = .ok (.getfield 9, 3) := by decide +kernel
theorem dX7_step_139 : decode cX7_step 139 = .ok (.iload_n 2, 1) := by decide +kernel
theorem dX7_step_140 : decode cX7_step 140 = .ok (.invokevirtual 94, 3) := by decide +kernel
theorem dX7_step_143 : decode cX7_step 143 = .ok (.invokevirtual 57, 3) := by decide +kernel
theorem dX7_step_146 : decode cX7_step 146 = .ok (.goto 251, 3) := by decide +kernel
theorem dX7_step_149 : decode cX7_step 149 = .ok (.aload_n 0, 1) := by decide +kernel
theorem dX7_step_150 : decode cX7_step 150 = .ok (.getfield 9, 3) := by decide +kernel
theorem dX7_step_153 : decode cX7_step 153 = .ok (.invokevirtual 98, 3) := by decide +kernel
theorem dX7_step_156 : decode cX7_step 156 = .ok (.lstore 4, 2) := by decide +kernel
theorem dX7_step_158 : decode cX7_step 158 = .ok (.aload_n 0, 1) := by decide +kernel
theorem dX7_step_159 : decode cX7_step 159 = .ok (.getfield 9, 3) := by decide +kernel
theorem dX7_step_162 : decode cX7_step 162 = .ok (.iload_n 2, 1) := by decide +kernel
theorem dX7_step_163 : decode cX7_step 163 = .ok (.aload_n 0, 1) := by decide +kernel
theorem dX7_step_164 : decode cX7_step 164 = .ok (.getfield 9, 3) := by decide +kernel
theorem dX7_step_167 : decode cX7_step 167 = .ok (.invokevirtual 98, 3) := by decide +kernel
theorem dX7_step_170 : decode cX7_step 170 = .ok (.lload 4, 2) := by decide +kernel
theorem dX7_step_172 : decode cX7_step 172 = .ok (.invokestatic 102, 3) := by decide +kernel
theorem dX7_step_175 : decode cX7_step 175 = .ok (.invokevirtual 57, 3) := by decide +kernel
theorem dX7_step_178 : decode cX7_step 178 = .ok (.goto 219, 3) := by decide +kernel
theorem dX7_step_181 : decode cX7_step 181 = .ok (.aload_n 0, 1) := by decide +kernel
theorem dX7_step_182 : decode cX7_step 182 = .ok (.getfield 9, 3) := by decide +kernel
theorem dX7_step_185 : decode cX7_step 185 = .ok (.iload_n 2, 1) := by decide +kernel
theorem dX7_step_186 : decode cX7_step 186 = .ok (.aload_n 0, 1) := by decide +kernel
theorem dX7_step_187 : decode cX7_step 187 = .ok (.getfield 9, 3) := by decide +kernel
theorem dX7_step_190 : decode cX7_step 190 = .ok (.invokevirtual 98, 3) := by decide +kernel
theorem dX7_step_193 : decode cX7_step 193 = .ok (.invokestatic 106, 3) := by decide +kernel
theorem dX7_step_196 : decode cX7_step 196 = .ok (.invokevirtual 57, 3) := by decide +kernel
theorem dX7_step_199 : decode cX7_step 199 = .ok (.goto 198, 3) := by decide +kernel
theorem dX7_step_202 : decode cX7_step 202 = .ok (.aload_n 0, 1) := by decide +kernel
theorem dX7_step_203 : decode cX7_step 203 = .ok (.getfield 9, 3) := by decide +kernel
theorem dX7_step_206 : decode cX7_step 206 = .ok (.invokevirtual 110, 3) := by decide +kernel
theorem dX7_step_209 : decode cX7_step 209 = .ok (.lstore 6, 2) := by decide +kernel
theorem dX7_step_211 : decode cX7_step 211 = .ok (.aload_n 0, 1) := by decide +kernel
theorem dX7_step_212 : decode cX7_step 212 = .ok (.getfield 9, 3) := by decide +kernel
theorem dX7_step_215 : decode cX7_step 215 = .ok (.iload_n 2, 1) := by decide +kernel
theorem dX7_step_216 : decode cX7_step 216 = .ok (.bipush 64, 2) := by decide +kernel
theorem dX7_step_218 : decode cX7_step 218 = .ok (.if_icmp .ne 15, 3) := by decide +kernel
theorem dX7_step_221 : decode cX7_step 221 = .ok (.aload_n 0, 1) := by decide +kernel
theorem dX7_step_222 : decode cX7_step 222 = .ok (.getfield 9, 3) := by decide +kernel
theorem dX7_step_225 : decode cX7_step 225 = .ok (.lload 6, 2) := by decide +kernel
theorem dX7_step_227 : decode cX7_step 227 = .ok (.invokevirtual 113, 3) := by decide +kernel
theorem dX7_step_230 : decode cX7_step 230 = .ok (.goto 12, 3) := by decide +kernel
theorem dX7_step_233 : decode cX7_step 233 = .ok (.aload_n 0, 1) := by decide +kernel
theorem dX7_step_234 : decode cX7_step 234 = .ok (.getfield 9, 3) := by decide +kernel
theorem dX7_step_237 : decode cX7_step 237 = .ok (.lload 6, 2) := by decide +kernel
theorem dX7_step_239 : decode cX7_step 239 = .ok (.invokevirtual 117, 3) := by decide +kernel
theorem dX7_step_242 : decode cX7_step 242 = .ok (.invokevirtual 57, 3) := by decide +kernel
theorem dX7_step_245 : decode cX7_step 245 = .ok (.goto 152, 3) := by decide +kernel
theorem dX7_step_248 : decode cX7_step 248 = .ok (.aload_n 0, 1) := by decide +kernel
theorem dX7_step_249 : decode cX7_step 249 = .ok (.invokevirtual 120, 3) := by decide +kernel
theorem dX7_step_252 : decode cX7_step 252 = .ok (.goto 145, 3) := by decide +kernel
theorem dX7_step_255 : decode cX7_step 255 = .ok (.aload_n 0, 1) := by decide +kernel
theorem dX7_step_256 : decode cX7_step 256 = .ok (.aload_n 0, 1) := by decide +kernel
theorem dX7_step_257 : decode cX7_step 257 = .ok (.getfield 9, 3) := by decide +kernel
theorem dX7_step_260 : decode cX7_step 260 = .ok (.invokevirtual 98, 3) := by decide +kernel
theorem dX7_step_263 : decode cX7_step 263 = .ok (.invokestatic 123, 3) := by decide +kernel
theorem dX7_step_266 : decode cX7_step 266 = .ok (.ifCond .eq 10, 3) := by decide +kernel
theorem dX7_step_269 : decode cX7_step 269 = .ok (.aload_n 0, 1) := by decide +kernel
theorem dX7_step_270 : decode cX7_step 270 = .ok (.getfield 34, 3) := by decide +kernel
theorem dX7_step_273 : decode cX7_step 273 = .ok (.goto 4, 3) := by decide +kernel
theorem dX7_step_276 : decode cX7_step 276 = .ok (.iload_n 2, 1) := by decide +kernel
theorem dX7_step_277 : decode cX7_step 277 = .ok (.putfield 34, 3) := by decide +kernel
theorem dX7_step_280 : decode cX7_step 280 = .ok (.goto 117, 3) := by decide +kernel
theorem dX7_step_283 : decode cX7_step 283 = .ok (.aload_n 0, 1) := by decide +kernel
theorem dX7_step_284 : decode cX7_step 284 = .ok (.iload_n 2, 1) := by decide +kernel
theorem dX7_step_285 : decode cX7_step 285 = .ok (.putfield 34, 3) := by decide +kernel
theorem dX7_step_288 : decode cX7_step 288 = .ok (.goto 109, 3) := by decide +kernel
theorem dX7_step_291 : decode cX7_step 291 = .ok (.goto 106, 3) := by decide +kernel
theorem dX7_step_294 : decode cX7_step 294 = .ok (.aload_n 0, 1) := by decide +kernel
theorem dX7_step_295 : decode cX7_step 295 = .ok (.getfield 30, 3) := by decide +kernel
theorem dX7_step_298 : decode cX7_step 298 = .ok (.aload_n 0, 1) := by decide +kernel
theorem dX7_step_299 : decode cX7_step 299 = .ok (.getfield 9, 3) := by decide +kernel
theorem dX7_step_302 : decode cX7_step 302 = .ok (.aload_n 0, 1) := by decide +kernel
theorem dX7_step_303 : decode cX7_step 303 = .ok (.getfield 9, 3) := by decide +kernel
theorem dX7_step_306 : decode cX7_step 306 = .ok (.iconst 0, 1) := by decide +kernel
theorem dX7_step_307 : decode cX7_step 307 = .ok (.invokevirtual 127, 3) := by decide +kernel
theorem dX7_step_310 : decode cX7_step 310 = .ok (.invokevirtual 130, 3) := by decide +kernel
theorem dX7_step_313 : decode cX7_step 313 = .ok (.invokevirtual 133, 3) := by decide +kernel
theorem dX7_step_316 : decode cX7_step 316 = .ok (.goto 81, 3) := by decide +kernel
theorem dX7_step_319 : decode cX7_step 319 = .ok (.aload_n 0, 1) := by decide +kernel
theorem dX7_step_320 : decode cX7_step 320 = .ok (.getfield 9, 3) := by decide +kernel
theorem dX7_step_323 : decode cX7_step 323 = .ok (.aload_n 0, 1) := by decide +kernel
theorem dX7_step_324 : decode cX7_step 324 = .ok (.getfield 30, 3) := by decide +kernel
theorem dX7_step_327 : decode cX7_step 327 = .ok (.iload_n 2, 1) := by decide +kernel
theorem dX7_step_328 : decode cX7_step 328 = .ok (.iload_n 2, 1) := by decide +kernel
theorem dX7_step_329 : decode cX7_step 329 = .ok (.aload_n 0, 1) := by decide +kernel
theorem dX7_step_330 : decode cX7_step 330 = .ok (.getfield 9, 3) := by decide +kernel
theorem dX7_step_333 : decode cX7_step 333 = .ok (.invokevirtual 98, 3) := by decide +kernel
theorem dX7_step_336 : decode cX7_step 336 = .ok (.invokestatic 136, 3) := by decide +kernel
theorem dX7_step_339 : decode cX7_step 339 = .ok (.invokevirtual 139, 3) := by decide +kernel
theorem dX7_step_342 : decode cX7_step 342 = .ok (.invokevirtual 57, 3) := by decide +kernel
theorem dX7_step_345 : decode cX7_step 345 = .ok (.goto 52, 3) := by decide +kernel
theorem dX7_step_348 : decode cX7_step 348 = .ok (.aload_n 0, 1) := by decide +kernel
theorem dX7_step_349 : decode cX7_step 349 = .ok (.getfield 9, 3) := by decide +kernel
theorem dX7_step_352 : decode cX7_step 352 = .ok (.aload_n 0, 1) := by decide +kernel
theorem dX7_step_353 : decode cX7_step 353 = .ok (.getfield 30, 3) := by decide +kernel
theorem dX7_step_356 : decode cX7_step 356 = .ok (.iload_n 2, 1) := by decide +kernel
theorem dX7_step_357 : decode cX7_step 357 = .ok (.invokevirtual 142, 3) := by decide +kernel
theorem dX7_step_360 : decode cX7_step 360 = .ok (.invokevirtual 57, 3) := by decide +kernel
theorem dX7_step_363 : decode cX7_step 363 = .ok (.goto 34, 3) := by decide +kernel
theorem dX7_step_366 : decode cX7_step 366 = .ok (.aload_n 0, 1) := by decide +kernel
theorem dX7_step_367 : decode cX7_step 367 = .ok (.getfield 9, 3) := by decide +kernel
theorem dX7_step_370 : decode cX7_step 370 = .ok (.iload_n 2, 1) := by decide +kernel
theorem dX7_step_371 : decode cX7_step 371 = .ok (.aload_n 0, 1) := by decide +kernel
theorem dX7_step_372 : decode cX7_step 372 = .ok (.getfield 9, 3) := by decide +kernel
theorem dX7_step_375 : decode cX7_step 375 = .ok (.invokevirtual 110, 3) := by decide +kernel
theorem dX7_step_378 : decode cX7_step 378 = .ok (.invokevirtual 145, 3) := by decide +kernel
theorem dX7_step_381 : decode cX7_step 381 = .ok (.goto 16, 3) := by decide +kernel
theorem dX7_step_384 : decode cX7_step 384 = .ok (.aload_n 0, 1) := by decide +kernel
theorem dX7_step_385 : decode cX7_step 385 = .ok (.iload_n 2, 1) := by decide +kernel
theorem dX7_step_386 : decode cX7_step 386 = .ok (.iload_n 3, 1) := by decide +kernel
theorem dX7_step_387 : decode cX7_step 387 = .ok (.invokevirtual 64, 3) := by decide +kernel
theorem dX7_step_390 : decode cX7_step 390 = .ok (.goto 7, 3) := by decide +kernel
theorem dX7_step_393 : decode cX7_step 393 = .ok (.aload_n 0, 1) := by decide +kernel
theorem dX7_step_394 : decode cX7_step 394 = .ok (.invokevirtual 149, 3) := by decide +kernel
theorem dX7_step_397 : decode cX7_step 397 = .ok (.return_, 1) := by decide +kernel
theorem dX7_makePair_0 : decode cX7_makePair 0 = .ok (.aload_n 0, 1) := by decide +kernel
theorem dX7_makePair_1 : decode cX7_makePair 1 = .ok (.getfield 9, 3) := by decide +kernel
theorem dX7_makePair_4 : decode cX7_makePair 4 = .ok (.invokevirtual 110, 3) := by decide +kernel
theorem dX7_makePair_7 : decode cX7_makePair 7 = .ok (.lstore_n 1, 1) := by decide +kernel
theorem dX7_makePair_8 : decode cX7_makePair 8 = .ok (.aload_n 0, 1) := by decide +kernel
theorem dX7_makePair_9 : decode cX7_makePair 9 = .ok (.getfield 9, 3) := by decide +kernel
theorem dX7_makePair_12 : decode cX7_makePair 12 = .ok (.invokevirtual 110, 3) := by decide +kernel
theorem dX7_makePair_15 : decode cX7_makePair 15 = .ok (.lstore_n 3, 1) := by decide +kernel
theorem dX7_makePair_16 : decode cX7_makePair 16 = .ok (.aload_n 0, 1) := by decide +kernel
theorem dX7_makePair_17 : decode cX7_makePair 17 = .ok (.getfield 9, 3) := by decide +kernel
theorem dX7_makePair_20 : decode cX7_makePair 20 = .ok (.lload_n 3, 1) := by decide +kernel
theorem dX7_makePair_21 : decode cX7_makePair 21 = .ok (.lload_n 1, 1) := by decide +kernel
theorem dX7_makePair_22 : decode cX7_makePair 22 = .ok (.invokevirtual 152, 3) := by decide +kernel
theorem dX7_makePair_25 : decode cX7_makePair 25 = .ok (.ifCond .eq 14, 3) := by decide +kernel
theorem dX7_makePair_28 : decode cX7_makePair 28 = .ok (.aload_n 0, 1) := by decide +kernel
theorem dX7_makePair_29 : decode cX7_makePair 29 = .ok (.getfield 30, 3) := by decide +kernel
theorem dX7_makePair_32 : decode cX7_makePair 32 = .ok (.iconst 2, 1) := by decide +kernel
theorem dX7_makePair_33 : decode cX7_makePair 33 = .ok (.putfield 54, 3) := by decide +kernel
theorem dX7_makePair_36 : decode cX7_makePair 36 = .ok (.goto 19, 3) := by decide +kernel
theorem dX7_makePair_39 : decode cX7_makePair 39 = .ok (.aload_n 0, 1) := by decide +kernel
theorem dX7_makePair_40 : decode cX7_makePair 40 = .ok (.getfield 9, 3) := by decide +kernel
theorem dX7_makePair_43 : decode cX7_makePair 43 = .ok (.aload_n 0, 1) := by decide +kernel
theorem dX7_makePair_44 : decode cX7_makePair 44 = .ok (.getfield 9, 3) := by decide +kernel
theorem dX7_makePair_47 : decode cX7_makePair 47 = .ok (.lload_n 3, 1) := by decide +kernel
theorem dX7_makePair_48 : decode cX7_makePair 48 = .ok (.lload_n 1, 1) := by decide +kernel
theorem dX7_makePair_49 : decode cX7_makePair 49 = .ok (.invokevirtual 156, 3) := by decide +kernel
theorem dX7_makePair_52 : decode cX7_makePair 52 = .ok (.invokevirtual 57, 3) := by decide +kernel
theorem dX7_makePair_55 : decode cX7_makePair 55 = .ok (.return_, 1) := by decide +kernel
theorem dX7_call_0 : decode cX7_call 0 = .ok (.aload_n 0, 1) := by decide +kernel
theorem dX7_call_1 : decode cX7_call 1 = .ok (.getfield 26, 3) := by decide +kernel
theorem dX7_call_4 : decode cX7_call 4 = .ok (.iload_n 1, 1) := by decide +kernel
theorem dX7_call_5 : decode cX7_call 5 = .ok (.invokevirtual 160, 3) := by decide +kernel
theorem dX7_call_8 : decode cX7_call 8 = .ok (.istore_n 3, 1) := by decide +kernel
theorem dX7_call_9 : decode cX7_call 9 = .ok (.iload_n 3, 1) := by decide +kernel
theorem dX7_call_10 : decode cX7_call 10 = .ok (.iconst (-1), 1) := by decide +kernel
theorem dX7_call_11 : decode cX7_call 11 = .ok (.if_icmp .ne 14, 3) := by decide +kernel
theorem dX7_call_14 : decode cX7_call 14 = .ok (.aload_n 0, 1) := by decide +kernel
theorem dX7_call_15 : decode cX7_call 15 = .ok (.getfield 30, 3) := by decide +kernel
theorem dX7_call_18 : decode cX7_call 18 = .ok (.iconst 4, 1) := by decide +kernel
theorem dX7_call_19 : decode cX7_call 19 = .ok (.putfield 54, 3) := by decide +kernel
theorem dX7_call_22 : decode cX7_call 22 = .ok (.goto 30, 3) := by decide +kernel
theorem dX7_call_25 : decode cX7_call 25 = .ok (.aload_n 0, 1) := by decide +kernel
theorem dX7_call_26 : decode cX7_call 26 = .ok (.getfield 30, 3) := by decide +kernel
theorem dX7_call_29 : decode cX7_call 29 = .ok (.invokevirtual 163, 3) := by decide +kernel
theorem dX7_call_32 : decode cX7_call 32 = .ok (.ifCond .eq 20, 3) := by decide +kernel
theorem dX7_call_35 : decode cX7_call 35 = .ok (.aload_n 0, 1) := by decide +kernel
theorem dX7_call_36 : decode cX7_call 36 = .ok (.getfield 9, 3) := by decide +kernel
theorem dX7_call_39 : decode cX7_call 39 = .ok (.iload_n 2, 1) := by decide +kernel
theorem dX7_call_40 : decode cX7_call 40 = .ok (.aload_n 0, 1) := by decide +kernel
theorem dX7_call_41 : decode cX7_call 41 = .ok (.getfield 34, 3) := by decide +kernel
theorem dX7_call_44 : decode cX7_call 44 = .ok (.invokevirtual 166, 3) := by decide +kernel
theorem dX7_call_47 : decode cX7_call 47 = .ok (.aload_n 0, 1) := by decide +kernel
theorem dX7_call_48 : decode cX7_call 48 = .ok (.iload_n 3, 1) := by decide +kernel
theorem dX7_call_49 : decode cX7_call 49 = .ok (.putfield 34, 3) := by decide +kernel
theorem dX7_call_52 : decode cX7_call 52 = .ok (.return_, 1) := by decide +kernel
theorem dX7_goBack_0 : decode cX7_goBack 0 = .ok (.aload_n 0, 1) := by decide +kernel
theorem dX7_goBack_1 : decode cX7_goBack 1 = .ok (.getfield 30, 3) := by decide +kernel
theorem dX7_goBack_4 : decode cX7_goBack 4 = .ok (.invokevirtual 169, 3) := by decide +kernel
theorem dX7_goBack_7 : decode cX7_goBack 7 = .ok (.aload_n 0, 1) := by decide +kernel
theorem dX7_goBack_8 : decode cX7_goBack 8 = .ok (.aload_n 0, 1) := by decide +kernel
theorem dX7_goBack_9 : decode cX7_goBack 9 = .ok (.getfield 9, 3) := by decide +kernel
theorem dX7_goBack_12 : decode cX7_goBack 12 = .ok (.invokevirtual 172, 3) := by decide +kernel
theorem dX7_goBack_15 : decode cX7_goBack 15 = .ok (.putfield 34, 3) := by decide +kernel
theorem dX7_goBack_18 : decode cX7_goBack 18 = .ok (.aload_n 0, 1) := by decide +kernel
theorem dX7_goBack_19 : decode cX7_goBack 19 = .ok (.getfield 9, 3) := by decide +kernel
theorem dX7_goBack_22 : decode cX7_goBack 22 = .ok (.getfield 176, 3) := by decide +kernel
theorem dX7_goBack_25 : decode cX7_goBack 25 = .ok (.iconst 1, 1) := by decide +kernel
theorem dX7_goBack_26 : decode cX7_goBack 26 = .ok (.if_icmp .ge 21, 3) := by decide +kernel
theorem dX7_goBack_29 : decode cX7_goBack 29 = .ok (.aload_n 0, 1) := by decide +kernel
theorem dX7_goBack_30 : decode cX7_goBack 30 = .ok (.getfield 30, 3) := by decide +kernel
theorem dX7_goBack_33 : decode cX7_goBack 33 = .ok (.aload_n 0, 1) := by decide +kernel
theorem dX7_goBack_34 : decode cX7_goBack 34 = .ok (.getfield 9, 3) := by decide +kernel
theorem dX7_goBack_37 : decode cX7_goBack 37 = .ok (.aload_n 0, 1) := by decide +kernel
theorem dX7_goBack_38 : decode cX7_goBack 38 = .ok (.getfield 9, 3) := by decide +kernel
theorem dX7_goBack_41 : decode cX7_goBack 41 = .ok (.invokevirtual 110, 3) := by decide +kernel
theorem dX7_goBack_44 : decode cX7_goBack 44 = .ok (.invokevirtual 179, 3) := by decide +kernel
theorem dX7_goBack_47 : decode cX7_goBack 47 = .ok (.return_, 1) := by decide +kernel
theorem dX8_init_0 : decode cX8_init 0 = .ok (.aload_n 0, 1) := by decide +kernel
theorem dX8_init_1 : decode cX8_init 1 = .ok (.invokespecial 5, 3) := by decide +kernel
theorem dX8_init_4 : decode cX8_init 4 = .ok (.aload_n 0, 1) := by decide +kernel
theorem dX8_init_5 : decode cX8_init 5 = .ok (.sipush 30200, 3) := by decide +kernel
theorem dX8_init_8 : decode cX8_init 8 = .ok (.newarray .long, 2) := by decide +kernel
theorem dX8_init_10 : decode cX8_init 10 = .ok (.putfield 13, 3) := by decide +kernel
theorem dX8_init_13 : decode cX8_init 13 = .ok (.aload_n 0, 1) := by decide +kernel
theorem dX8_init_14 : decode cX8_init 14 = .ok (.sipush 30200, 3) := by decide +kernel
theorem dX8_init_17 : decode cX8_init 17 = .ok (.newarray .long, 2) := by decide +kernel
theorem dX8_init_19 : decode cX8_init 19 = .ok (.putfield 17, 3) := by decide +kernel
theorem dX8_init_22 : decode cX8_init 22 = .ok (.aload_n 0, 1) := by decide +kernel
theorem dX8_init_23 : decode cX8_init 23 = .ok (.sipush 30200, 3) := by decide +kernel
theorem dX8_init_26 : decode cX8_init 26 = .ok (.newarray .int, 2) := by decide +kernel
theorem dX8_init_28 : decode cX8_init 28 = .ok (.putfield 20, 3) := by decide +kernel
theorem dX8_init_31 : decode cX8_init 31 = .ok (.aload_n 0, 1) := by decide +kernel
theorem dX8_init_32 : decode cX8_init 32 = .ok (.sipush 30200, 3) := by decide +kernel
theorem dX8_init_35 : decode cX8_init 35 = .ok (.newarray .int, 2) := by decide +kernel
theorem dX8_init_37 : decode cX8_init 37 = .ok (.putfield 24, 3) := by decide +kernel
theorem dX8_init_40 : decode cX8_init 40 = .ok (.aload_n 0, 1) := by decide +kernel
theorem dX8_init_41 : decode cX8_init 41 = .ok (.sipush 264, 3) := by decide +kernel
theorem dX8_init_44 : decode cX8_init 44 = .ok (.newarray .long, 2) := by decide +kernel
theorem dX8_init_46 : decode cX8_init 46 = .ok (.putfield 29, 3) := by decide +kernel
theorem dX8_init_49 : decode cX8_init 49 = .ok (.aload_n 0, 1) := by decide +kernel
theorem dX8_init_50 : decode cX8_init 50 = .ok (.sipush 2480, 3) := by decide +kernel
theorem dX8_init_53 : decode cX8_init 53 = .ok (.newarray .long, 2) := by decide +kernel
theorem dX8_init_55 : decode cX8_init 55 = .ok (.putfield 32, 3) := by decide +kernel
theorem dX8_init_58 : decode cX8_init 58 = .ok (.aload_n 0, 1) := by decide +kernel
theorem dX8_init_59 : decode cX8_init 59 = .ok (.sipush 992, 3) := by decide +kernel
theorem dX8_init_62 : decode cX8_init 62 = .ok (.newarray .long, 2) := by decide +kernel
theorem dX8_init_64 : decode cX8_init 64 = .ok (.putfield 35, 3) := by decide +kernel
theorem dX8_init_67 : decode cX8_init 67 = .ok (.aload_n 0, 1) := by decide +kernel
theorem dX8_init_68 : decode cX8_init 68 = .ok (.bipush 31, 2) := by decide +kernel
theorem dX8_init_70 : decode cX8_init 70 = .ok (.newarray .int, 2) := by decide +kernel
theorem dX8_init_72 : decode cX8_init 72 = .ok (.putfield 38, 3) := by decide +kernel
theorem dX8_init_75 : decode cX8_init 75 = .ok (.aload_n 0, 1) := by decide +kernel
theorem dX8_init_76 : decode cX8_init 76 = .ok (.iconst 0, 1) := by decide +kernel
theorem dX8_init_77 : decode cX8_init 77 = .ok (.putfield 41, 3) := by decide +kernel
theorem dX8_init_80 : decode cX8_init 80 = .ok (.aload_n 0, 1) := by decide +kernel
theorem dX8_init_81 : decode cX8_init 81 = .ok (.iconst 0, 1) := by decide +kernel
theorem dX8_init_82 : decode cX8_init 82 = .ok (.putfield 45, 3) := by decide +kernel
theorem dX8_init_85 : decode cX8_init 85 = .ok (.aload_n 0, 1) := by decide +kernel
theorem dX8_init_86 : decode cX8_init 86 = .ok (.iconst 0, 1) := by decide +kernel
theorem dX8_init_87 : decode cX8_init 87 = .ok (.putfield 48, 3) := by decide +kernel
theorem dX8_init_90 : decode cX8_init 90 = .ok (.return_, 1) := by decide +kernel
theorem dX8_clear_0 : decode cX8_clear 0 = .ok (.aload_n 0, 1) := by decide +kernel
theorem dX8_clear_1 : decode cX8_clear 1 = .ok (.iconst 0, 1) := by decide +kernel
theorem dX8_clear_2 : decode cX8_clear 2 = .ok (.putfield 41, 3) := by decide +kernel
theorem dX8_clear_5 : decode cX8_clear 5 = .ok (.aload_n 0, 1) := by decide +kernel
theorem dX8_clear_6 : decode cX8_clear 6 = .ok (.iconst 0, 1) := by decide +kernel
theorem dX8_clear_7 : decode cX8_clear 7 = .ok (.putfield 45, 3) := by decide +kernel
theorem dX8_clear_10 : decode cX8_clear 10 = .ok (.aload_n 0, 1) := by decide +kernel
theorem dX8_clear_11 : decode cX8_clear 11 = .ok (.iconst 0, 1) := by decide +kernel
theorem dX8_clear_12 : decode cX8_clear 12 = .ok (.putfield 48, 3) := by decide +kernel
theorem dX8_clear_15 : decode cX8_clear 15 = .ok (.return_, 1) := by decide +kernel
theorem dX8_push_0 : decode cX8_push 0 = .ok (.aload_n 0, 1) := by decide +kernel
theorem dX8_push_1 : decode cX8_push 1 = .ok (.getfield 45, 3) := by decide +kernel
theorem dX8_push_4 : decode cX8_push 4 = .ok (.aload_n 0, 1) := by decide +kernel
theorem dX8_push_5 : decode cX8_push 5 = .ok (.getfield 32, 3) := by decide +kernel
theorem dX8_push_8 : decode cX8_push 8 = .ok (.arraylength, 1) := by decide +kernel
theorem dX8_push_9 : decode cX8_push 9 = .ok (.if_icmp .ge 23, 3) := by decide +kernel
theorem dX8_push_12 : decode cX8_push 12 = .ok (.aload_n 0, 1) := by decide +kernel
theorem dX8_push_13 : decode cX8_push 13 = .ok (.getfield 32, 3) := by decide +kernel
theorem dX8_push_16 : decode cX8_push 16 = .ok (.aload_n 0, 1) := by decide +kernel
theorem dX8_push_17 : decode cX8_push 17 = .ok (.getfield 45, 3) := by decide +kernel
theorem dX8_push_20 : decode cX8_push 20 = .ok (.lload_n 1, 1) := by decide +kernel
theorem dX8_push_21 : decode cX8_push 21 = .ok (.lastore, 1) := by decide +kernel
theorem dX8_push_22 : decode cX8_push 22 = .ok (.aload_n 0, 1) := by decide +kernel
theorem dX8_push_23 : decode cX8_push 23 = .ok (.dup, 1) := by decide +kernel
theorem dX8_push_24 : decode cX8_push 24 = .ok (.getfield 45, 3) := by decide +kernel
theorem dX8_push_27 : decode cX8_push 27 = .ok (.iconst 1, 1) := by decide +kernel
theorem dX8_push_28 : decode cX8_push 28 = .ok (.iadd, 1) := by decide +kernel
theorem dX8_push_29 : decode cX8_push 29 = .ok (.putfield 45, 3) := by decide +kernel
theorem dX8_push_32 : decode cX8_push 32 = .ok (.return_, 1) := by decide +kernel
theorem dX8_pop_0 : decode cX8_pop 0 = .ok (.aload_n 0, 1) := by decide +kernel
theorem dX8_pop_1 : decode cX8_pop 1 = .ok (.getfield 45, 3) := by decide +kernel
theorem dX8_pop_4 : decode cX8_pop 4 = .ok (.iconst 1, 1) := by decide +kernel
theorem dX8_pop_5 : decode cX8_pop 5 = .ok (.if_icmp .ge 5, 3) := by decide +kernel
theorem dX8_pop_8 : decode cX8_pop 8 = .ok (.lconst 0, 1) := by decide +kernel
theorem dX8_pop_9 : decode cX8_pop 9 = .ok (.lreturn, 1) := by decide +kernel
theorem dX8_pop_10 : decode cX8_pop 10 = .ok (.aload_n 0, 1) := by decide +kernel
theorem dX8_pop_11 : decode cX8_pop 11 = .ok (.dup, 1) := by decide +kernel
theorem dX8_pop_12 : decode cX8_pop 12 = .ok (.getfield 45, 3) := by decide +kernel
theorem dX8_pop_15 : decode cX8_pop 15 = .ok (.iconst 1, 1) := by decide +kernel
theorem dX8_pop_16 : decode cX8_pop 16 = .ok (.isub, 1) := by decide +kernel
theorem dX8_pop_17 : decode cX8_pop 17 = .ok (.putfield 45, 3) := by decide +kernel
theorem dX8_pop_20 : decode cX8_pop 20 = .ok (.aload_n 0, 1) := by decide +kernel
theorem dX8_pop_21 : decode cX8_pop 21 = .ok (.getfield 32, 3) := by decide +kernel
theorem dX8_pop_24 : decode cX8_pop 24 = .ok (.aload_n 0, 1) := by decide +kernel
theorem dX8_pop_25 : decode cX8_pop 25 = .ok (.getfield 45, 3) := by decide +kernel
theorem dX8_pop_28 : decode cX8_pop 28 = .ok (.laload, 1) := by decide +kernel
theorem dX8_pop_29 : decode cX8_pop 29 = .ok (.lreturn, 1) := by decide +kernel
theorem dX8_popNum_0 : decode cX8_popNum 0 = .ok (.aload_n 0, 1) := by decide +kernel
theorem dX8_popNum_1 : decode cX8_popNum 1 = .ok (.aload_n 0, 1) := by decide +kernel
theorem dX8_popNum_2 : decode cX8_popNum 2 = .ok (.invokevirtual 53, 3) := by decide +kernel
theorem dX8_popNum_5 : decode cX8_popNum 5 = .ok (.invokevirtual 57, 3) := by decide +kernel
theorem dX8_popNum_8 : decode cX8_popNum 8 = .ok (.lreturn, 1) := by decide +kernel
theorem dX8_drop_0 : decode cX8_drop 0 = .ok (.aload_n 0, 1) := by decide +kernel
theorem dX8_drop_1 : decode cX8_drop 1 = .ok (.iconst 0, 1) := by decide +kernel
theorem dX8_drop_2 : decode cX8_drop 2 = .ok (.aload_n 0, 1) := by decide +kernel
theorem dX8_drop_3 : decode cX8_drop 3 = .ok (.getfield 45, 3) := by decide +kernel
theorem dX8_drop_6 : decode cX8_drop 6 = .ok (.iload_n 1, 1) := by decide +kernel
theorem dX8_drop_7 : decode cX8_drop 7 = .ok (.isub, 1) := by decide +kernel
theorem dX8_drop_8 : decode cX8_drop 8 = .ok (.invokestatic 61, 3) := by decide +kernel
theorem dX8_drop_11 : decode cX8_drop 11 = .ok (.putfield 45, 3) := by decide +kernel
theorem dX8_drop_14 : decode cX8_drop 14 = .ok (.return_, 1) := by decide +kernel
theorem dX8_fromTop_0 : decode cX8_fromTop 0 = .ok (.aload_n 0, 1) := by decide +kernel
theorem dX8_fromTop_1 : decode cX8_fromTop 1 = .ok (.getfield 45, 3) := by decide +kernel
theorem dX8_fromTop_4 : decode cX8_fromTop 4 = .ok (.iconst 1, 1) := by decide +kernel
theorem dX8_fromTop_5 : decode cX8_fromTop 5 = .ok (.isub, 1) := by decide +kernel
theorem dX8_fromTop_6 : decode cX8_fromTop 6 = .ok (.iload_n 1, 1) := by decide +kernel
theorem dX8_fromTop_7 : decode cX8_fromTop 7 = .ok (.isub, 1) := by decide +kernel
theorem dX8_fromTop_8 : decode cX8_fromTop 8 = .ok (.istore_n 2, 1) := by decide +kernel
theorem dX8_fromTop_9 : decode cX8_fromTop 9 = .ok (.iload_n 2, 1) := by decide +kernel
theorem dX8_fromTop_10 : decode cX8_fromTop 10 = .ok (.ifCond .lt 20, 3) := by decide +kernel
theorem dX8_fromTop_13 : decode cX8_fromTop 13 = .ok (.iload_n 2, 1) := by decide +kernel
theorem dX8_fromTop_14 : decode cX8_fromTop 14 = .ok (.aload_n 0, 1) := by decide +kernel
theorem dX8_fromTop_15 : decode cX8_fromTop 15 = .ok (.getfield 45, 3) := by decide +kernel
theorem dX8_fromTop_18 : decode cX8_fromTop 18 = .ok (.if_icmp .ge 12, 3) := by decide +kernel
theorem dX8_fromTop_21 : decode cX8_fromTop 21 = .ok (.aload_n 0, 1) := by decide +kernel
theorem dX8_fromTop_22 : decode cX8_fromTop 22 = .ok (.getfield 32, 3) := by decide +kernel
theorem dX8_fromTop_25 : decode cX8_fromTop 25 = .ok (.iload_n 2, 1) := by decide +kernel
theorem dX8_fromTop_26 : decode cX8_fromTop 26 = .ok (.laload, 1) := by decide +kernel
theorem dX8_fromTop_27 : decode cX8_fromTop 27 = .ok (.goto 4, 3) := by decide +kernel
theorem dX8_fromTop_30 : decode cX8_fromTop 30 = .ok (.lconst 0, 1) := by decide +kernel
theorem dX8_fromTop_31 : decode cX8_fromTop 31 = .ok (.lreturn, 1) := by decide +kernel
theorem dX8_bindArguments_0 : decode cX8_bindArguments 0 = .ok (.iload_n 1, 1) := by decide +kernel
theorem dX8_bindArguments_1 : decode cX8_bindArguments 1 = .ok (.iconst 1, 1) := by decide +kernel
theorem dX8_bindArguments_2 : decode cX8_bindArguments 2 = .ok (.isub, 1) := by decide +kernel
theorem dX8_bindArguments_3 : decode cX8_bindArguments 3 = .ok (.istore_n 2, 1) := by decide +kernel
theorem dX8_bindArguments_4 : decode cX8_bindArguments 4 = .ok (.iload_n 2, 1) := by decide +kernel
theorem dX8_bindArguments_5 : decode cX8_bindArguments 5 = .ok (.ifCond .lt 18, 3) := by decide +kernel
theorem dX8_bindArguments_8 : decode cX8_bindArguments 8 = .ok (.aload_n 0, 1) := by decide +kernel
theorem dX8_bindArguments_9 : decode cX8_bindArguments 9 = .ok (.iload_n 2, 1) := by decide +kernel
theorem dX8_bindArguments_10 : decode cX8_bindArguments 10 = .ok (.aload_n 0, 1) := by decide +kernel
theorem dX8_bindArguments_11 : decode cX8_bindArguments 11 = .ok (.invokevirtual 53, 3) := by decide +kernel
theorem dX8_bindArguments_14 : decode cX8_bindArguments 14 = .ok (.invokevirtual 67, 3) := by decide +kernel
theorem dX8_bindArguments_17 : decode cX8_bindArguments 17 = .ok (.iinc 2 (-1), 3) := by decide +kernel
theorem dX8_bindArguments_20 : decode cX8_bindArguments 20 = .ok (.goto (-16), 3) := by decide +kernel
theorem dX8_bindArguments_23 : decode cX8_bindArguments 23 = .ok (.return_, 1) := by decide +kernel
theorem dX8_varAt_0 : decode cX8_varAt 0 = .ok (.aload_n 0, 1) := by decide +kernel
theorem dX8_varAt_1 : decode cX8_varAt 1 = .ok (.getfield 48, 3) := by decide +kernel
theorem dX8_varAt_4 : decode cX8_varAt 4 = .ok (.bipush 32, 2) := by decide +kernel
theorem dX8_varAt_6 : decode cX8_varAt 6 = .ok (.imul, 1) := by decide +kernel
theorem dX8_varAt_7 : decode cX8_varAt 7 = .ok (.iload_n 1, 1) := by decide +kernel
theorem dX8_varAt_8 : decode cX8_varAt 8 = .ok (.iadd, 1) := by decide +kernel
theorem dX8_varAt_9 : decode cX8_varAt 9 = .ok (.istore_n 2, 1) := by decide +kernel
theorem dX8_varAt_10 : decode cX8_varAt 10 = .ok (.iload_n 2, 1) := by decide +kernel
theorem dX8_varAt_11 : decode cX8_varAt 11 = .ok (.ifCond .lt 21, 3) := by decide +kernel
theorem dX8_varAt_14 : decode cX8_varAt 14 = .ok (.iload_n 2, 1) := by decide +kernel
theorem dX8_varAt_15 : decode cX8_varAt 15 = .ok (.aload_n 0, 1) := by decide +kernel
theorem dX8_varAt_16 : decode cX8_varAt 16 = .ok (.getfield 35, 3) := by decide +kernel
theorem dX8_varAt_19 : decode cX8_varAt 19 = .ok (.arraylength, 1) := by decide +kernel
theorem dX8_varAt_20 : decode cX8_varAt 20 = .ok (.if_icmp .ge 12, 3) := by decide +kernel
theorem dX8_varAt_23 : decode cX8_varAt 23 = .ok (.aload_n 0, 1) := by decide +kernel
theorem dX8_varAt_24 : decode cX8_varAt 24 = .ok (.getfield 35, 3) := by decide +kernel
theorem dX8_varAt_27 : decode cX8_varAt 27 = .ok (.iload_n 2, 1) := by decide +kernel
theorem dX8_varAt_28 : decode cX8_varAt 28 = .ok (.laload, 1) := by decide +kernel
theorem dX8_varAt_29 : decode cX8_varAt 29 = .ok (.goto 4, 3) := by decide +kernel
theorem dX8_varAt_32 : decode cX8_varAt 32 = .ok (.lconst 0, 1) := by decide +kernel
theorem dX8_varAt_33 : decode cX8_varAt 33 = .ok (.lreturn, 1) := by decide +kernel
theorem dX8_setVar_0 : decode cX8_setVar 0 = .ok (.aload_n 0, 1) := by decide +kernel
theorem dX8_setVar_1 : decode cX8_setVar 1 = .ok (.getfield 48, 3) := by decide +kernel
theorem dX8_setVar_4 : decode cX8_setVar 4 = .ok (.bipush 32, 2) := by decide +kernel
theorem dX8_setVar_6 : decode cX8_setVar 6 = .ok (.imul, 1) := by decide +kernel
theorem dX8_setVar_7 : decode cX8_setVar 7 = .ok (.iload_n 1, 1) := by decide +kernel
theorem dX8_setVar_8 : decode cX8_setVar 8 = .ok (.iadd, 1) := by decide +kernel
theorem dX8_setVar_9 : decode cX8_setVar 9 = .ok (.istore 4, 2) := by decide +kernel
theorem dX8_setVar_11 : decode cX8_setVar 11 = .ok (.iload 4, 2) := by decide +kernel
theorem dX8_setVar_13 : decode cX8_setVar 13 = .ok (.ifCond .lt 21, 3) := by decide +kernel
theorem dX8_setVar_16 : decode cX8_setVar 16 = .ok (.iload 4, 2) := by decide +kernel
theorem dX8_setVar_18 : decode cX8_setVar 18 = .ok (.aload_n 0, 1) := by decide +kernel
theorem dX8_setVar_19 : decode cX8_setVar 19 = .ok (.getfield 35, 3) := by decide +kernel
theorem dX8_setVar_22 : decode cX8_setVar 22 = .ok (.arraylength, 1) := by decide +kernel
theorem dX8_setVar_23 : decode cX8_setVar 23 = .ok (.if_icmp .ge 11, 3) := by decide +kernel
theorem dX8_setVar_26 : decode cX8_setVar 26 = .ok (.aload_n 0, 1) := by decide +kernel
theorem dX8_setVar_27 : decode cX8_setVar 27 = .ok (.getfield 35, 3) := by decide +kernel
theorem dX8_setVar_30 : decode cX8_setVar 30 = .ok (.iload 4, 2) := by decide +kernel
theorem dX8_setVar_32 : decode cX8_setVar 32 = .ok (.lload_n 2, 1) := by decide +kernel
theorem dX8_setVar_33 : decode cX8_setVar 33 = .ok (.lastore, 1) := by decide +kernel
theorem dX8_setVar_34 : decode cX8_setVar 34 = .ok (.return_, 1) := by decide +kernel
theorem dX8_openFrame_0 : decode cX8_openFrame 0 = .ok (.aload_n 0, 1) := by decide +kernel
theorem dX8_openFrame_1 : decode cX8_openFrame 1 = .ok (.getfield 48, 3) := by decide +kernel
theorem dX8_openFrame_4 : decode cX8_openFrame 4 = .ok (.iconst 1, 1) := by decide +kernel
theorem dX8_openFrame_5 : decode cX8_openFrame 5 = .ok (.iadd, 1) := by decide +kernel
theorem dX8_openFrame_6 : decode cX8_openFrame 6 = .ok (.bipush 31, 2) := by decide +kernel
theorem dX8_openFrame_8 : decode cX8_openFrame 8 = .ok (.if_icmp .lt 4, 3) := by decide +kernel
theorem dX8_openFrame_11 : decode cX8_openFrame 11 = .ok (.return_, 1) := by decide +kernel
theorem dX8_openFrame_12 : decode cX8_openFrame 12 = .ok (.aload_n 0, 1) := by decide +kernel
theorem dX8_openFrame_13 : decode cX8_openFrame 13 = .ok (.dup, 1) := by decide +kernel
theorem dX8_openFrame_14 : decode cX8_openFrame 14 = .ok (.getfield 48, 3) := by decide +kernel
theorem dX8_openFrame_17 : decode cX8_openFrame 17 = .ok (.iconst 1, 1) := by decide +kernel
theorem dX8_openFrame_18 : decode cX8_openFrame 18 = .ok (.iadd, 1) := by decide +kernel
theorem dX8_openFrame_19 : decode cX8_openFrame 19 = .ok (.putfield 48, 3) := by decide +kernel
theorem dX8_openFrame_22 : decode cX8_openFrame 22 = .ok (.aload_n 0, 1) := by decide +kernel
theorem dX8_openFrame_23 : decode cX8_openFrame 23 = .ok (.getfield 38, 3) := by decide +kernel
theorem dX8_openFrame_26 : decode cX8_openFrame 26 = .ok (.aload_n 0, 1) := by decide +kernel
theorem dX8_openFrame_27 : decode cX8_openFrame 27 = .ok (.getfield 48, 3) := by decide +kernel
theorem dX8_openFrame_30 : decode cX8_openFrame 30 = .ok (.iload_n 2, 1) := by decide +kernel
theorem dX8_openFrame_31 : decode cX8_openFrame 31 = .ok (.iastore, 1) := by decide +kernel
theorem dX8_openFrame_32 : decode cX8_openFrame 32 = .ok (.aload_n 0, 1) := by decide +kernel
theorem dX8_openFrame_33 : decode cX8_openFrame 33 = .ok (.iload_n 1, 1) := by decide +kernel
theorem dX8_openFrame_34 : decode cX8_openFrame 34 = .ok (.invokevirtual 71, 3) := by decide +kernel
theorem dX8_openFrame_37 : decode cX8_openFrame 37 = .ok (.return_, 1) := by decide +kernel
theorem dX8_closeFrame_0 : decode cX8_closeFrame 0 = .ok (.aload_n 0, 1) := by decide +kernel
theorem dX8_closeFrame_1 : decode cX8_closeFrame 1 = .ok (.getfield 48, 3) := by decide +kernel
theorem dX8_closeFrame_4 : decode cX8_closeFrame 4 = .ok (.iconst 1, 1) := by decide +kernel
theorem dX8_closeFrame_5 : decode cX8_closeFrame 5 = .ok (.if_icmp .ge 5, 3) := by decide +kernel
theorem dX8_closeFrame_8 : decode cX8_closeFrame 8 = .ok (.iconst (-1), 1) := by decide +kernel
theorem dX8_closeFrame_9 : decode cX8_closeFrame 9 = .ok (.ireturn, 1) := by decide +kernel
theorem dX8_closeFrame_10 : decode cX8_closeFrame 10 = .ok (.aload_n 0, 1) := by decide +kernel
theorem dX8_closeFrame_11 : decode cX8_closeFrame 11 = .ok (.dup, 1) := by decide +kernel
theorem dX8_closeFrame_12 : decode cX8_closeFrame 12 = .ok (.getfield 48, 3) := by decide +kernel
theorem dX8_closeFrame_15 : decode cX8_closeFrame 15 = .ok (.iconst 1, 1) := by decide +kernel
theorem dX8_closeFrame_16 : decode cX8_closeFrame 16 = .ok (.isub, 1) := by decide +kernel
theorem dX8_closeFrame_17 : decode cX8_closeFrame 17 = .ok (.putfield 48, 3) := by decide +kernel
theorem dX8_closeFrame_20 : decode cX8_closeFrame 20 = .ok (.aload_n 0, 1) := by decide +kernel
theorem dX8_closeFrame_21 : decode cX8_closeFrame 21 = .ok (.getfield 38, 3) := by decide +kernel
theorem dX8_closeFrame_24 : decode cX8_closeFrame 24 = .ok (.aload_n 0, 1) := by decide +kernel
theorem dX8_closeFrame_25 : decode cX8_closeFrame 25 = .ok (.getfield 48, 3) := by decide +kernel
theorem dX8_closeFrame_28 : decode cX8_closeFrame 28 = .ok (.iconst 1, 1) := by decide +kernel
theorem dX8_closeFrame_29 : decode cX8_closeFrame 29 = .ok (.iadd, 1) := by decide +kernel
theorem dX8_closeFrame_30 : decode cX8_closeFrame 30 = .ok (.iaload, 1) := by decide +kernel
theorem dX8_closeFrame_31 : decode cX8_closeFrame 31 = .ok (.ireturn, 1) := by decide +kernel
theorem dX8_pair_0 : decode cX8_pair 0 = .ok (.aload_n 0, 1) := by decide +kernel
theorem dX8_pair_1 : decode cX8_pair 1 = .ok (.getfield 41, 3) := by decide +kernel
theorem dX8_pair_4 : decode cX8_pair 4 = .ok (.sipush 30200, 3) := by decide +kernel
theorem dX8_pair_7 : decode cX8_pair 7 = .ok (.if_icmp .lt 5, 3) := by decide +kernel
theorem dX8_pair_10 : decode cX8_pair 10 = .ok (.lconst 0, 1) := by decide +kernel
theorem dX8_pair_11 : decode cX8_pair 11 = .ok (.lreturn, 1) := by decide +kernel
theorem dX8_pair_12 : decode cX8_pair 12 = .ok (.aload_n 0, 1) := by decide +kernel
theorem dX8_pair_13 : decode cX8_pair 13 = .ok (.getfield 13, 3) := by decide +kernel
theorem dX8_pair_16 : decode cX8_pair 16 = .ok (.aload_n 0, 1) := by decide +kernel
theorem dX8_pair_17 : decode cX8_pair 17 = .ok (.getfield 41, 3) := by decide +kernel
theorem dX8_pair_20 : decode cX8_pair 20 = .ok (.lload_n 1, 1) := by decide +kernel
theorem dX8_pair_21 : decode cX8_pair 21 = .ok (.lastore, 1) := by decide +kernel
theorem dX8_pair_22 : decode cX8_pair 22 = .ok (.aload_n 0, 1) := by decide +kernel
theorem dX8_pair_23 : decode cX8_pair 23 = .ok (.getfield 17, 3) := by decide +kernel
theorem dX8_pair_26 : decode cX8_pair 26 = .ok (.aload_n 0, 1) := by decide +kernel
theorem dX8_pair_27 : decode cX8_pair 27 = .ok (.getfield 41, 3) := by decide +kernel
theorem dX8_pair_30 : decode cX8_pair 30 = .ok (.lload_n 3, 1) := by decide +kernel
theorem dX8_pair_31 : decode cX8_pair 31 = .ok (.lastore, 1) := by decide +kernel
theorem dX8_pair_32 : decode cX8_pair 32 = .ok (.aload_n 0, 1) := by decide +kernel
theorem dX8_pair_33 : decode cX8_pair 33 = .ok (.getfield 20, 3) := by decide +kernel
theorem dX8_pair_36 : decode cX8_pair 36 = .ok (.aload_n 0, 1) := by decide +kernel
theorem dX8_pair_37 : decode cX8_pair 37 = .ok (.getfield 41, 3) := by decide +kernel
theorem dX8_pair_40 : decode cX8_pair 40 = .ok (.iconst 1, 1) := by decide +kernel
theorem dX8_pair_41 : decode cX8_pair 41 = .ok (.aload_n 0, 1) := by decide +kernel
theorem dX8_pair_42 : decode cX8_pair 42 = .ok (.lload_n 1, 1) := by decide +kernel
theorem dX8_pair_43 : decode cX8_pair 43 = .ok (.invokevirtual 75, 3) := by decide +kernel
theorem dX8_pair_46 : decode cX8_pair 46 = .ok (.iadd, 1) := by decide +kernel
theorem dX8_pair_47 : decode cX8_pair 47 = .ok (.aload_n 0, 1) := by decide +kernel
theorem dX8_pair_48 : decode cX8_pair 48 = .ok (.lload_n 3, 1) := by decide +kernel
theorem dX8_pair_49 : decode cX8_pair 49 = .ok (.invokevirtual 75, 3) := by decide +kernel
theorem dX8_pair_52 : decode cX8_pair 52 = .ok (.iadd, 1) := by decide +kernel
theorem dX8_pair_53 : decode cX8_pair 53 = .ok (.iastore, 1) := by decide +kernel
theorem dX8_pair_54 : decode cX8_pair 54 = .ok (.aload_n 0, 1) := by decide +kernel
theorem dX8_pair_55 : decode cX8_pair 55 = .ok (.getfield 24, 3) := by decide +kernel
theorem dX8_pair_58 : decode cX8_pair 58 = .ok (.aload_n 0, 1) := by decide +kernel
theorem dX8_pair_59 : decode cX8_pair 59 = .ok (.getfield 41, 3) := by decide +kernel
theorem dX8_pair_62 : decode cX8_pair 62 = .ok (.iconst 1, 1) := by decide +kernel
theorem dX8_pair_63 : decode cX8_pair 63 = .ok (.aload_n 0, 1) := by decide +kernel
theorem dX8_pair_64 : decode cX8_pair 64 = .ok (.lload_n 1, 1) := by decide +kernel
theorem dX8_pair_65 : decode cX8_pair 65 = .ok (.invokevirtual 79, 3) := by decide +kernel
theorem dX8_pair_68 : decode cX8_pair 68 = .ok (.aload_n 0, 1) := by decide +kernel
theorem dX8_pair_69 : decode cX8_pair 69 = .ok (.lload_n 3, 1) := by decide +kernel
theorem dX8_pair_70 : decode cX8_pair 70 = .ok (.invokevirtual 79, 3) := by decide +kernel
theorem dX8_pair_73 : decode cX8_pair 73 = .ok (.invokestatic 61, 3) := by decide +kernel
theorem dX8_pair_76 : decode cX8_pair 76 = .ok (.iadd, 1) := by decide +kernel
theorem dX8_pair_77 : decode cX8_pair 77 = .ok (.iastore, 1) := by decide +kernel
theorem dX8_pair_78 : decode cX8_pair 78 = .ok (.aload_n 0, 1) := by decide +kernel
theorem dX8_pair_79 : decode cX8_pair 79 = .ok (.dup, 1) := by decide +kernel
theorem dX8_pair_80 : decode cX8_pair 80 = .ok (.getfield 41, 3) := by decide +kernel
theorem dX8_pair_83 : decode cX8_pair 83 = .ok (.iconst 1, 1) := by decide +kernel
theorem dX8_pair_84 : decode cX8_pair 84 = .ok (.iadd, 1) := by decide +kernel
theorem dX8_pair_85 : decode cX8_pair 85 = .ok (.putfield 41, 3) := by decide +kernel
theorem dX8_pair_88 : decode cX8_pair 88 = .ok (.iconst 2, 1) := by decide +kernel
theorem dX8_pair_89 : decode cX8_pair 89 = .ok (.aload_n 0, 1) := by decide +kernel
theorem dX8_pair_90 : decode cX8_pair 90 = .ok (.getfield 41, 3) := by decide +kernel
theorem dX8_pair_93 : decode cX8_pair 93 = .ok (.iconst 1, 1) := by decide +kernel
theorem dX8_pair_94 : decode cX8_pair 94 = .ok (.isub, 1) := by decide +kernel
theorem dX8_pair_95 : decode cX8_pair 95 = .ok (.invokestatic 82, 3) := by decide +kernel
theorem dX8_pair_98 : decode cX8_pair 98 = .ok (.lreturn, 1) := by decide +kernel
theorem dX8_isPair_0 : decode cX8_isPair 0 = .ok (.lload_n 1, 1) := by decide +kernel
theorem dX8_isPair_1 : decode cX8_isPair 1 = .ok (.bipush 32, 2) := by decide +kernel
theorem dX8_isPair_3 : decode cX8_isPair 3 = .ok (.lushr, 1) := by decide +kernel
theorem dX8_isPair_4 : decode cX8_isPair 4 = .ok (.ldc2_w 86, 3) := by decide +kernel
theorem dX8_isPair_7 : decode cX8_isPair 7 = .ok (.lcmp, 1) := by decide +kernel
theorem dX8_isPair_8 : decode cX8_isPair 8 = .ok (.ifCond .ne 21, 3) := by decide +kernel
theorem dX8_isPair_11 : decode cX8_isPair 11 = .ok (.lload_n 1, 1) := by decide +kernel
theorem dX8_isPair_12 : decode cX8_isPair 12 = .ok (.l2i, 1) := by decide +kernel
theorem dX8_isPair_13 : decode cX8_isPair 13 = .ok (.ifCond .lt 16, 3) := by decide +kernel
theorem dX8_isPair_16 : decode cX8_isPair 16 = .ok (.lload_n 1, 1) := by decide +kernel
theorem dX8_isPair_17 : decode cX8_isPair 17 = .ok (.l2i, 1) := by decide +kernel
theorem dX8_isPair_18 : decode cX8_isPair 18 = .ok (.aload_n 0, 1) := by decide +kernel
theorem dX8_isPair_19 : decode cX8_isPair 19 = .ok (.getfield 41, 3) := by decide +kernel
theorem dX8_isPair_22 : decode cX8_isPair 22 = .ok (.if_icmp .ge 7, 3) := by decide +kernel
theorem dX8_isPair_25 : decode cX8_isPair 25 = .ok (.iconst 1, 1) := by decide +kernel
theorem dX8_isPair_26 : decode cX8_isPair 26 = .ok (.goto 4, 3) := by decide +kernel
theorem dX8_isPair_29 : decode cX8_isPair 29 = .ok (.iconst 0, 1) := by decide +kernel
theorem dX8_isPair_30 : decode cX8_isPair 30 = .ok (.ireturn, 1) := by decide +kernel
theorem dX8_isTooHeavy_0 : decode cX8_isTooHeavy 0 = .ok (.iconst 1, 1) := by decide +kernel
theorem dX8_isTooHeavy_1 : decode cX8_isTooHeavy 1 = .ok (.aload_n 0, 1) := by decide +kernel
theorem dX8_isTooHeavy_2 : decode cX8_isTooHeavy 2 = .ok (.lload_n 1, 1) := by decide +kernel
theorem dX8_isTooHeavy_3 : decode cX8_isTooHeavy 3 = .ok (.invokevirtual 75, 3) := by decide +kernel
theorem dX8_isTooHeavy_6 : decode cX8_isTooHeavy 6 = .ok (.iadd, 1) := by decide +kernel
theorem dX8_isTooHeavy_7 : decode cX8_isTooHeavy 7 = .ok (.aload_n 0, 1) := by decide +kernel
theorem dX8_isTooHeavy_8 : decode cX8_isTooHeavy 8 = .ok (.lload_n 3, 1) := by decide +kernel
theorem dX8_isTooHeavy_9 : decode cX8_isTooHeavy 9 = .ok (.invokevirtual 75, 3) := by decide +kernel
theorem dX8_isTooHeavy_12 : decode cX8_isTooHeavy 12 = .ok (.iadd, 1) := by decide +kernel
theorem dX8_isTooHeavy_13 : decode cX8_isTooHeavy 13 = .ok (.bipush 40, 2) := by decide +kernel
theorem dX8_isTooHeavy_15 : decode cX8_isTooHeavy 15 = .ok (.if_icmp .le 7, 3) := by decide +kernel
theorem dX8_isTooHeavy_18 : decode cX8_isTooHeavy 18 = .ok (.iconst 1, 1) := by decide +kernel
theorem dX8_isTooHeavy_19 : decode cX8_isTooHeavy 19 = .ok (.goto 4, 3) := by decide +kernel
theorem dX8_isTooHeavy_22 : decode cX8_isTooHeavy 22 = .ok (.iconst 0, 1) := by decide +kernel
theorem dX8_isTooHeavy_23 : decode cX8_isTooHeavy 23 = .ok (.ireturn, 1) := by decide +kernel
theorem dX8_weightOf_0 : decode cX8_weightOf 0 = .ok (.aload_n 0, 1) := by decide +kernel
theorem dX8_weightOf_1 : decode cX8_weightOf 1 = .ok (.lload_n 1, 1) := by decide +kernel
theorem dX8_weightOf_2 : decode cX8_weightOf 2 = .ok (.invokevirtual 88, 3) := by decide +kernel
theorem dX8_weightOf_5 : decode cX8_weightOf 5 = .ok (.ifCond .eq 15, 3) := by decide +kernel
theorem dX8_weightOf_8 : decode cX8_weightOf 8 = .ok (.aload_n 0, 1) := by decide +kernel
theorem dX8_weightOf_9 : decode cX8_weightOf 9 = .ok (.getfield 20, 3) := by decide +kernel
theorem dX8_weightOf_12 : decode cX8_weightOf 12 = .ok (.lload_n 1, 1) := by decide +kernel
theorem dX8_weightOf_13 : decode cX8_weightOf 13 = .ok (.invokestatic 92, 3) := by decide +kernel
theorem dX8_weightOf_16 : decode cX8_weightOf 16 = .ok (.iaload, 1) := by decide +kernel
theorem dX8_weightOf_17 : decode cX8_weightOf 17 = .ok (.goto 4, 3) := by decide +kernel
theorem dX8_weightOf_20 : decode cX8_weightOf 20 = .ok (.iconst 1, 1) := by decide +kernel
theorem dX8_weightOf_21 : decode cX8_weightOf 21 = .ok (.ireturn, 1) := by decide +kernel
theorem dX8_deepOf_0 : decode cX8_deepOf 0 = .ok (.aload_n 0, 1) := by decide +kernel
theorem dX8_deepOf_1 : decode cX8_deepOf 1 = .ok (.lload_n 1, 1) := by decide +kernel
theorem dX8_deepOf_2 : decode cX8_deepOf 2 = .ok (.invokevirtual 88, 3) := by decide +kernel
theorem dX8_deepOf_5 : decode cX8_deepOf 5 = .ok (.ifCond .eq 15, 3) := by decide +kernel
theorem dX8_deepOf_8 : decode cX8_deepOf 8 = .ok (.aload_n 0, 1) := by decide +kernel
theorem dX8_deepOf_9 : decode cX8_deepOf 9 = .ok (.getfield 24, 3) := by decide +kernel
theorem dX8_deepOf_12 : decode cX8_deepOf 12 = .ok (.lload_n 1, 1) := by decide +kernel
theorem dX8_deepOf_13 : decode cX8_deepOf 13 = .ok (.invokestatic 92, 3) := by decide +kernel
theorem dX8_deepOf_16 : decode cX8_deepOf 16 = .ok (.iaload, 1) := by decide +kernel
theorem dX8_deepOf_17 : decode cX8_deepOf 17 = .ok (.goto 4, 3) := by decide +kernel
theorem dX8_deepOf_20 : decode cX8_deepOf 20 = .ok (.iconst 0, 1) := by decide +kernel
theorem dX8_deepOf_21 : decode cX8_deepOf 21 = .ok (.ireturn, 1) := by decide +kernel
theorem dX8_firstOf_0 : decode cX8_firstOf 0 = .ok (.aload_n 0, 1) := by decide +kernel
theorem dX8_firstOf_1 : decode cX8_firstOf 1 = .ok (.lload_n 1, 1) := by decide +kernel
theorem dX8_firstOf_2 : decode cX8_firstOf 2 = .ok (.invokevirtual 88, 3) := by decide +kernel
theorem dX8_firstOf_5 : decode cX8_firstOf 5 = .ok (.ifCond .eq 15, 3) := by decide +kernel
theorem dX8_firstOf_8 : decode cX8_firstOf 8 = .ok (.aload_n 0, 1) := by decide +kernel
theorem dX8_firstOf_9 : decode cX8_firstOf 9 = .ok (.getfield 13, 3) := by decide +kernel
theorem dX8_firstOf_12 : decode cX8_firstOf 12 = .ok (.lload_n 1, 1) := by decide +kernel
theorem dX8_firstOf_13 : decode cX8_firstOf 13 = .ok (.invokestatic 92, 3) := by decide +kernel
theorem dX8_firstOf_16 : decode cX8_firstOf 16 = .ok (.laload, 1) := by decide +kernel
theorem dX8_firstOf_17 : decode cX8_firstOf 17 = .ok (.goto 4, 3) := by decide +kernel
theorem dX8_firstOf_20 : decode cX8_firstOf 20 = .ok (.lload_n 1, 1) := by decide +kernel
theorem dX8_firstOf_21 : decode cX8_firstOf 21 = .ok (.lreturn, 1) := by decide +kernel
theorem dX8_secondOf_0 : decode cX8_secondOf 0 = .ok (.aload_n 0, 1) := by decide +kernel
theorem dX8_secondOf_1 : decode cX8_secondOf 1 = .ok (.lload_n 1, 1) := by decide +kernel
theorem dX8_secondOf_2 : decode cX8_secondOf 2 = .ok (.invokevirtual 88, 3) := by decide +kernel
theorem dX8_secondOf_5 : decode cX8_secondOf 5 = .ok (.ifCond .eq 15, 3) := by decide +kernel
theorem dX8_secondOf_8 : decode cX8_secondOf 8 = .ok (.aload_n 0, 1) := by decide +kernel
theorem dX8_secondOf_9 : decode cX8_secondOf 9 = .ok (.getfield 17, 3) := by decide +kernel
theorem dX8_secondOf_12 : decode cX8_secondOf 12 = .ok (.lload_n 1, 1) := by decide +kernel
theorem dX8_secondOf_13 : decode cX8_secondOf 13 = .ok (.invokestatic 92, 3) := by decide +kernel
theorem dX8_secondOf_16 : decode cX8_secondOf 16 = .ok (.laload, 1) := by decide +kernel
