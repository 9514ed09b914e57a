theorem dX12_operand_0 : decode cX12_operand 0 = .ok (.aload_n 0, 1) := by decide +kernel
theorem dX12_operand_1 : decode cX12_operand 1 = .ok (.getfield 175, 3) := by decide +kernel
theorem dX12_operand_4 : decode cX12_operand 4 = .ok (.aload_n 0, 1) := by decide +kernel
theorem dX12_operand_5 : decode cX12_operand 5 = .ok (.getfield 685, 3) := by decide +kernel
theorem dX12_operand_8 : decode cX12_operand 8 = .ok (.aload_n 0, 1) := by decide +kernel
theorem dX12_operand_9 : decode cX12_operand 9 = .ok (.getfield 106, 3) := by decide +kernel
theorem dX12_operand_12 : decode cX12_operand 12 = .ok (.iload_n 2, 1) := by decide +kernel
theorem dX12_operand_13 : decode cX12_operand 13 = .ok (.iaload, 1) := by decide +kernel
theorem dX12_operand_14 : decode cX12_operand 14 = .ok (.iastore, 1) := by decide +kernel
theorem dX12_operand_15 : decode cX12_operand 15 = .ok (.aload_n 0, 1) := by decide +kernel
theorem dX12_operand_16 : decode cX12_operand 16 = .ok (.getfield 178, 3) := by decide +kernel
theorem dX12_operand_19 : decode cX12_operand 19 = .ok (.aload_n 0, 1) := by decide +kernel
theorem dX12_operand_20 : decode cX12_operand 20 = .ok (.getfield 685, 3) := by decide +kernel
theorem dX12_operand_23 : decode cX12_operand 23 = .ok (.aload_n 0, 1) := by decide +kernel
theorem dX12_operand_24 : decode cX12_operand 24 = .ok (.getfield 109, 3) := by decide +kernel
theorem dX12_operand_27 : decode cX12_operand 27 = .ok (.iload_n 2, 1) := by decide +kernel
theorem dX12_operand_28 : decode cX12_operand 28 = .ok (.iaload, 1) := by decide +kernel
theorem dX12_operand_29 : decode cX12_operand 29 = .ok (.iastore, 1) := by decide +kernel
theorem dX12_operand_30 : decode cX12_operand 30 = .ok (.aload_n 0, 1) := by decide +kernel
theorem dX12_operand_31 : decode cX12_operand 31 = .ok (.dup, 1) := by decide +kernel
theorem dX12_operand_32 : decode cX12_operand 32 = .ok (.getfield 685, 3) := by decide +kernel
theorem dX12_operand_35 : decode cX12_operand 35 = .ok (.iconst 1, 1) := by decide +kernel
theorem dX12_operand_36 : decode cX12_operand 36 = .ok (.iadd, 1) := by decide +kernel
theorem dX12_operand_37 : decode cX12_operand 37 = .ok (.putfield 685, 3) := by decide +kernel
theorem dX12_operand_40 : decode cX12_operand 40 = .ok (.aload_n 0, 1) := by decide +kernel
theorem dX12_operand_41 : decode cX12_operand 41 = .ok (.getfield 172, 3) := by decide +kernel
theorem dX12_operand_44 : decode cX12_operand 44 = .ok (.iload_n 1, 1) := by decide +kernel
theorem dX12_operand_45 : decode cX12_operand 45 = .ok (.dup2, 1) := by decide +kernel
theorem dX12_operand_46 : decode cX12_operand 46 = .ok (.iaload, 1) := by decide +kernel
theorem dX12_operand_47 : decode cX12_operand 47 = .ok (.iconst 1, 1) := by decide +kernel
theorem dX12_operand_48 : decode cX12_operand 48 = .ok (.iadd, 1) := by decide +kernel
theorem dX12_operand_49 : decode cX12_operand 49 = .ok (.iastore, 1) := by decide +kernel
theorem dX12_operand_50 : decode cX12_operand 50 = .ok (.return_, 1) := by decide +kernel
theorem dX12_countInstruction_0 : decode cX12_countInstruction 0 = .ok (.aload_n 0, 1) := by decide +kernel
theorem dX12_countInstruction_1 : decode cX12_countInstruction 1 = .ok (.getfield 688, 3) := by decide +kernel
theorem dX12_countInstruction_4 : decode cX12_countInstruction 4 = .ok (.sipush 300, 3) := by decide +kernel
theorem dX12_countInstruction_7 : decode cX12_countInstruction 7 = .ok (.if_icmp .ne 10, 3) := by decide +kernel
theorem dX12_countInstruction_10 : decode cX12_countInstruction 10 = .ok (.aload_n 0, 1) := by decide +kernel
theorem dX12_countInstruction_11 : decode cX12_countInstruction 11 = .ok (.bipush (-2), 2) := by decide +kernel
theorem dX12_countInstruction_13 : decode cX12_countInstruction 13 = .ok (.putfield 557, 3) := by decide +kernel
theorem dX12_countInstruction_16 : decode cX12_countInstruction 16 = .ok (.return_, 1) := by decide +kernel
theorem dX12_countInstruction_17 : decode cX12_countInstruction 17 = .ok (.aload_n 0, 1) := by decide +kernel
theorem dX12_countInstruction_18 : decode cX12_countInstruction 18 = .ok (.dup, 1) := by decide +kernel
theorem dX12_countInstruction_19 : decode cX12_countInstruction 19 = .ok (.getfield 688, 3) := by decide +kernel
theorem dX12_countInstruction_22 : decode cX12_countInstruction 22 = .ok (.iconst 1, 1) := by decide +kernel
theorem dX12_countInstruction_23 : decode cX12_countInstruction 23 = .ok (.iadd, 1) := by decide +kernel
theorem dX12_countInstruction_24 : decode cX12_countInstruction 24 = .ok (.putfield 688, 3) := by decide +kernel
theorem dX12_countInstruction_27 : decode cX12_countInstruction 27 = .ok (.iload_n 2, 1) := by decide +kernel
theorem dX12_countInstruction_28 : decode cX12_countInstruction 28 = .ok (.ifCond .ne 4, 3) := by decide +kernel
theorem dX12_countInstruction_31 : decode cX12_countInstruction 31 = .ok (.return_, 1) := by decide +kernel
theorem dX12_countInstruction_32 : decode cX12_countInstruction 32 = .ok (.aload_n 0, 1) := by decide +kernel
theorem dX12_countInstruction_33 : decode cX12_countInstruction 33 = .ok (.getfield 157, 3) := by decide +kernel
theorem dX12_countInstruction_36 : decode cX12_countInstruction 36 = .ok (.iload_n 1, 1) := by decide +kernel
theorem dX12_countInstruction_37 : decode cX12_countInstruction 37 = .ok (.aload_n 0, 1) := by decide +kernel
theorem dX12_countInstruction_38 : decode cX12_countInstruction 38 = .ok (.getfield 691, 3) := by decide +kernel
theorem dX12_countInstruction_41 : decode cX12_countInstruction 41 = .ok (.iastore, 1) := by decide +kernel
theorem dX12_countInstruction_42 : decode cX12_countInstruction 42 = .ok (.aload_n 0, 1) := by decide +kernel
theorem dX12_countInstruction_43 : decode cX12_countInstruction 43 = .ok (.dup, 1) := by decide +kernel
theorem dX12_countInstruction_44 : decode cX12_countInstruction 44 = .ok (.getfield 691, 3) := by decide +kernel
theorem dX12_countInstruction_47 : decode cX12_countInstruction 47 = .ok (.iconst 1, 1) := by decide +kernel
theorem dX12_countInstruction_48 : decode cX12_countInstruction 48 = .ok (.iadd, 1) := by decide +kernel
theorem dX12_countInstruction_49 : decode cX12_countInstruction 49 = .ok (.putfield 691, 3) := by decide +kernel
theorem dX12_countInstruction_52 : decode cX12_countInstruction 52 = .ok (.return_, 1) := by decide +kernel
theorem dX12_instruction_0 : decode cX12_instruction 0 = .ok (.aload_n 0, 1) := by decide +kernel
theorem dX12_instruction_1 : decode cX12_instruction 1 = .ok (.iload_n 1, 1) := by decide +kernel
theorem dX12_instruction_2 : decode cX12_instruction 2 = .ok (.invokevirtual 606, 3) := by decide +kernel
theorem dX12_instruction_5 : decode cX12_instruction 5 = .ok (.istore_n 3, 1) := by decide +kernel
theorem dX12_instruction_6 : decode cX12_instruction 6 = .ok (.aload_n 0, 1) := by decide +kernel
theorem dX12_instruction_7 : decode cX12_instruction 7 = .ok (.iload_n 3, 1) := by decide +kernel
theorem dX12_instruction_8 : decode cX12_instruction 8 = .ok (.iload_n 2, 1) := by decide +kernel
theorem dX12_instruction_9 : decode cX12_instruction 9 = .ok (.invokevirtual 694, 3) := by decide +kernel
theorem dX12_instruction_12 : decode cX12_instruction 12 = .ok (.iload_n 3, 1) := by decide +kernel
theorem dX12_instruction_13 : decode cX12_instruction 13 = .ok (.ireturn, 1) := by decide +kernel
theorem dX12_registerOf_0 : decode cX12_registerOf 0 = .ok (.aload_n 0, 1) := by decide +kernel
theorem dX12_registerOf_1 : decode cX12_registerOf 1 = .ok (.iconst 3, 1) := by decide +kernel
theorem dX12_registerOf_2 : decode cX12_registerOf 2 = .ok (.aload_n 0, 1) := by decide +kernel
theorem dX12_registerOf_3 : decode cX12_registerOf 3 = .ok (.getfield 157, 3) := by decide +kernel
theorem dX12_registerOf_6 : decode cX12_registerOf 6 = .ok (.iload_n 1, 1) := by decide +kernel
theorem dX12_registerOf_7 : decode cX12_registerOf 7 = .ok (.iaload, 1) := by decide +kernel
theorem dX12_registerOf_8 : decode cX12_registerOf 8 = .ok (.invokevirtual 527, 3) := by decide +kernel
theorem dX12_registerOf_11 : decode cX12_registerOf 11 = .ok (.ireturn, 1) := by decide +kernel
theorem dX12_lift_0 : decode cX12_lift 0 = .ok (.iconst 0, 1) := by decide +kernel
theorem dX12_lift_1 : decode cX12_lift 1 = .ok (.istore_n 2, 1) := by decide +kernel
theorem dX12_lift_2 : decode cX12_lift 2 = .ok (.iconst 1, 1) := by decide +kernel
theorem dX12_lift_3 : decode cX12_lift 3 = .ok (.istore_n 3, 1) := by decide +kernel
theorem dX12_lift_4 : decode cX12_lift 4 = .ok (.aload_n 0, 1) := by decide +kernel
theorem dX12_lift_5 : decode cX12_lift 5 = .ok (.getfield 181, 3) := by decide +kernel
theorem dX12_lift_8 : decode cX12_lift 8 = .ok (.iconst 0, 1) := by decide +kernel
theorem dX12_lift_9 : decode cX12_lift 9 = .ok (.iload_n 1, 1) := by decide +kernel
theorem dX12_lift_10 : decode cX12_lift 10 = .ok (.iastore, 1) := by decide +kernel
theorem dX12_lift_11 : decode cX12_lift 11 = .ok (.iload_n 3, 1) := by decide +kernel
theorem dX12_lift_12 : decode cX12_lift 12 = .ok (.ifCond .le 127, 3) := by decide +kernel
theorem dX12_lift_15 : decode cX12_lift 15 = .ok (.aload_n 0, 1) := by decide +kernel
theorem dX12_lift_16 : decode cX12_lift 16 = .ok (.getfield 557, 3) := by decide +kernel
theorem dX12_lift_19 : decode cX12_lift 19 = .ok (.ifCond .ne 120, 3) := by decide +kernel
theorem dX12_lift_22 : decode cX12_lift 22 = .ok (.iinc 3 (-1), 3) := by decide +kernel
theorem dX12_lift_25 : decode cX12_lift 25 = .ok (.aload_n 0, 1) := by decide +kernel
theorem dX12_lift_26 : decode cX12_lift 26 = .ok (.getfield 181, 3) := by decide +kernel
theorem dX12_lift_29 : decode cX12_lift 29 = .ok (.iload_n 3, 1) := by decide +kernel
theorem dX12_lift_30 : decode cX12_lift 30 = .ok (.iaload, 1) := by decide +kernel
theorem dX12_lift_31 : decode cX12_lift 31 = .ok (.istore 4, 2) := by decide +kernel
theorem dX12_lift_33 : decode cX12_lift 33 = .ok (.iload 4, 2) := by decide +kernel
theorem dX12_lift_35 : decode cX12_lift 35 = .ok (.ifCond .ge 36, 3) := by decide +kernel
theorem dX12_lift_38 : decode cX12_lift 38 = .ok (.iinc 2 (-2), 3) := by decide +kernel
theorem dX12_lift_41 : decode cX12_lift 41 = .ok (.aload_n 0, 1) := by decide +kernel
theorem dX12_lift_42 : decode cX12_lift 42 = .ok (.getfield 184, 3) := by decide +kernel
theorem dX12_lift_45 : decode cX12_lift 45 = .ok (.iload_n 2, 1) := by decide +kernel
theorem dX12_lift_46 : decode cX12_lift 46 = .ok (.aload_n 0, 1) := by decide +kernel
theorem dX12_lift_47 : decode cX12_lift 47 = .ok (.aload_n 0, 1) := by decide +kernel
theorem dX12_lift_48 : decode cX12_lift 48 = .ok (.getfield 184, 3) := by decide +kernel
theorem dX12_lift_51 : decode cX12_lift 51 = .ok (.iload_n 2, 1) := by decide +kernel
theorem dX12_lift_52 : decode cX12_lift 52 = .ok (.iaload, 1) := by decide +kernel
theorem dX12_lift_53 : decode cX12_lift 53 = .ok (.aload_n 0, 1) := by decide +kernel
theorem dX12_lift_54 : decode cX12_lift 54 = .ok (.getfield 184, 3) := by decide +kernel
theorem dX12_lift_57 : decode cX12_lift 57 = .ok (.iload_n 2, 1) := by decide +kernel
theorem dX12_lift_58 : decode cX12_lift 58 = .ok (.iconst 1, 1) := by decide +kernel
theorem dX12_lift_59 : decode cX12_lift 59 = .ok (.iadd, 1) := by decide +kernel
theorem dX12_lift_60 : decode cX12_lift 60 = .ok (.iaload, 1) := by decide +kernel
theorem dX12_lift_61 : decode cX12_lift 61 = .ok (.invokevirtual 698, 3) := by decide +kernel
theorem dX12_lift_64 : decode cX12_lift 64 = .ok (.iastore, 1) := by decide +kernel
theorem dX12_lift_65 : decode cX12_lift 65 = .ok (.iinc 2 1, 3) := by decide +kernel
theorem dX12_lift_68 : decode cX12_lift 68 = .ok (.goto 68, 3) := by decide +kernel
theorem dX12_lift_71 : decode cX12_lift 71 = .ok (.aload_n 0, 1) := by decide +kernel
theorem dX12_lift_72 : decode cX12_lift 72 = .ok (.getfield 106, 3) := by decide +kernel
theorem dX12_lift_75 : decode cX12_lift 75 = .ok (.iload 4, 2) := by decide +kernel
theorem dX12_lift_77 : decode cX12_lift 77 = .ok (.iaload, 1) := by decide +kernel
theorem dX12_lift_78 : decode cX12_lift 78 = .ok (.iconst 2, 1) := by decide +kernel
theorem dX12_lift_79 : decode cX12_lift 79 = .ok (.if_icmp .ne 46, 3) := by decide +kernel
theorem dX12_lift_82 : decode cX12_lift 82 = .ok (.aload_n 0, 1) := by decide +kernel
theorem dX12_lift_83 : decode cX12_lift 83 = .ok (.getfield 181, 3) := by decide +kernel
theorem dX12_lift_86 : decode cX12_lift 86 = .ok (.iload_n 3, 1) := by decide +kernel
theorem dX12_lift_87 : decode cX12_lift 87 = .ok (.iconst (-1), 1) := by decide +kernel
theorem dX12_lift_88 : decode cX12_lift 88 = .ok (.iastore, 1) := by decide +kernel
theorem dX12_lift_89 : decode cX12_lift 89 = .ok (.aload_n 0, 1) := by decide +kernel
theorem dX12_lift_90 : decode cX12_lift 90 = .ok (.getfield 181, 3) := by decide +kernel
theorem dX12_lift_93 : decode cX12_lift 93 = .ok (.iload_n 3, 1) := by decide +kernel
theorem dX12_lift_94 : decode cX12_lift 94 = .ok (.iconst 1, 1) := by decide +kernel
theorem dX12_lift_95 : decode cX12_lift 95 = .ok (.iadd, 1) := by decide +kernel
theorem dX12_lift_96 : decode cX12_lift 96 = .ok (.aload_n 0, 1) := by decide +kernel
theorem dX12_lift_97 : decode cX12_lift 97 = .ok (.getfield 112, 3) := by decide +kernel
theorem dX12_lift_100 : decode cX12_lift 100 = .ok (.iload 4, 2) := by decide +kernel
theorem dX12_lift_102 : decode cX12_lift 102 = .ok (.iaload, 1) := by decide +kernel
theorem dX12_lift_103 : decode cX12_lift 103 = .ok (.iastore, 1) := by decide +kernel
theorem dX12_lift_104 : decode cX12_lift 104 = .ok (.aload_n 0, 1) := by decide +kernel
theorem dX12_lift_105 : decode cX12_lift 105 = .ok (.getfield 181, 3) := by decide +kernel
theorem dX12_lift_108 : decode cX12_lift 108 = .ok (.iload_n 3, 1) := by decide +kernel
theorem dX12_lift_109 : decode cX12_lift 109 = .ok (.iconst 2, 1) := by decide +kernel
theorem dX12_lift_110 : decode cX12_lift 110 = .ok (.iadd, 1) := by decide +kernel
theorem dX12_lift_111 : decode cX12_lift 111 = .ok (.aload_n 0, 1) := by decide +kernel
theorem dX12_lift_112 : decode cX12_lift 112 = .ok (.getfield 109, 3) := by decide +kernel
theorem dX12_lift_115 : decode cX12_lift 115 = .ok (.iload 4, 2) := by decide +kernel
theorem dX12_lift_117 : decode cX12_lift 117 = .ok (.iaload, 1) := by decide +kernel
theorem dX12_lift_118 : decode cX12_lift 118 = .ok (.iastore, 1) := by decide +kernel
theorem dX12_lift_119 : decode cX12_lift 119 = .ok (.iinc 3 3, 3) := by decide +kernel
theorem dX12_lift_122 : decode cX12_lift 122 = .ok (.goto 14, 3) := by decide +kernel
theorem dX12_lift_125 : decode cX12_lift 125 = .ok (.aload_n 0, 1) := by decide +kernel
theorem dX12_lift_126 : decode cX12_lift 126 = .ok (.getfield 184, 3) := by decide +kernel
theorem dX12_lift_129 : decode cX12_lift 129 = .ok (.iload_n 2, 1) := by decide +kernel
theorem dX12_lift_130 : decode cX12_lift 130 = .ok (.iload 4, 2) := by decide +kernel
theorem dX12_lift_132 : decode cX12_lift 132 = .ok (.iastore, 1) := by decide +kernel
theorem dX12_lift_133 : decode cX12_lift 133 = .ok (.iinc 2 1, 3) := by decide +kernel
theorem dX12_lift_136 : decode cX12_lift 136 = .ok (.goto (-125), 3) := by decide +kernel
theorem dX12_lift_139 : decode cX12_lift 139 = .ok (.aload_n 0, 1) := by decide +kernel
theorem dX12_lift_140 : decode cX12_lift 140 = .ok (.getfield 557, 3) := by decide +kernel
theorem dX12_lift_143 : decode cX12_lift 143 = .ok (.ifCond .ne 12, 3) := by decide +kernel
theorem dX12_lift_146 : decode cX12_lift 146 = .ok (.aload_n 0, 1) := by decide +kernel
theorem dX12_lift_147 : decode cX12_lift 147 = .ok (.getfield 184, 3) := by decide +kernel
theorem dX12_lift_150 : decode cX12_lift 150 = .ok (.iconst 0, 1) := by decide +kernel
theorem dX12_lift_151 : decode cX12_lift 151 = .ok (.iaload, 1) := by decide +kernel
theorem dX12_lift_152 : decode cX12_lift 152 = .ok (.goto 4, 3) := by decide +kernel
theorem dX12_lift_155 : decode cX12_lift 155 = .ok (.iload_n 1, 1) := by decide +kernel
theorem dX12_lift_156 : decode cX12_lift 156 = .ok (.ireturn, 1) := by decide +kernel
theorem dX12_liftPair_0 : decode cX12_liftPair 0 = .ok (.aload_n 0, 1) := by decide +kernel
theorem dX12_liftPair_1 : decode cX12_liftPair 1 = .ok (.bipush 10, 2) := by decide +kernel
theorem dX12_liftPair_3 : decode cX12_liftPair 3 = .ok (.iconst 1, 1) := by decide +kernel
theorem dX12_liftPair_4 : decode cX12_liftPair 4 = .ok (.invokevirtual 639, 3) := by decide +kernel
theorem dX12_liftPair_7 : decode cX12_liftPair 7 = .ok (.istore_n 3, 1) := by decide +kernel
theorem dX12_liftPair_8 : decode cX12_liftPair 8 = .ok (.aload_n 0, 1) := by decide +kernel
theorem dX12_liftPair_9 : decode cX12_liftPair 9 = .ok (.getfield 557, 3) := by decide +kernel
theorem dX12_liftPair_12 : decode cX12_liftPair 12 = .ok (.ifCond .eq 5, 3) := by decide +kernel
theorem dX12_liftPair_15 : decode cX12_liftPair 15 = .ok (.iload_n 1, 1) := by decide +kernel
theorem dX12_liftPair_16 : decode cX12_liftPair 16 = .ok (.ireturn, 1) := by decide +kernel
theorem dX12_liftPair_17 : decode cX12_liftPair 17 = .ok (.aload_n 0, 1) := by decide +kernel
theorem dX12_liftPair_18 : decode cX12_liftPair 18 = .ok (.iload_n 3, 1) := by decide +kernel
theorem dX12_liftPair_19 : decode cX12_liftPair 19 = .ok (.iload_n 1, 1) := by decide +kernel
theorem dX12_liftPair_20 : decode cX12_liftPair 20 = .ok (.invokevirtual 609, 3) := by decide +kernel
theorem dX12_liftPair_23 : decode cX12_liftPair 23 = .ok (.aload_n 0, 1) := by decide +kernel
theorem dX12_liftPair_24 : decode cX12_liftPair 24 = .ok (.iload_n 3, 1) := by decide +kernel
theorem dX12_liftPair_25 : decode cX12_liftPair 25 = .ok (.iload_n 2, 1) := by decide +kernel
theorem dX12_liftPair_26 : decode cX12_liftPair 26 = .ok (.invokevirtual 609, 3) := by decide +kernel
theorem dX12_liftPair_29 : decode cX12_liftPair 29 = .ok (.aload_n 0, 1) := by decide +kernel
theorem dX12_liftPair_30 : decode cX12_liftPair 30 = .ok (.iload_n 3, 1) := by decide +kernel
theorem dX12_liftPair_31 : decode cX12_liftPair 31 = .ok (.invokevirtual 643, 3) := by decide +kernel
theorem dX12_liftPair_34 : decode cX12_liftPair 34 = .ok (.ireturn, 1) := by decide +kernel
theorem dX12_mark_0 : decode cX12_mark 0 = .ok (.aload_n 0, 1) := by decide +kernel
theorem dX12_mark_1 : decode cX12_mark 1 = .ok (.aload_n 0, 1) := by decide +kernel
theorem dX12_mark_2 : decode cX12_mark 2 = .ok (.invokevirtual 594, 3) := by decide +kernel
theorem dX12_mark_5 : decode cX12_mark 5 = .ok (.invokevirtual 701, 3) := by decide +kernel
theorem dX12_mark_8 : decode cX12_mark 8 = .ok (.istore_n 3, 1) := by decide +kernel
theorem dX12_mark_9 : decode cX12_mark 9 = .ok (.aload_n 0, 1) := by decide +kernel
theorem dX12_mark_10 : decode cX12_mark 10 = .ok (.getfield 557, 3) := by decide +kernel
theorem dX12_mark_13 : decode cX12_mark 13 = .ok (.ifCond .eq 5, 3) := by decide +kernel
theorem dX12_mark_16 : decode cX12_mark 16 = .ok (.iload_n 3, 1) := by decide +kernel
theorem dX12_mark_17 : decode cX12_mark 17 = .ok (.ireturn, 1) := by decide +kernel
theorem dX12_mark_18 : decode cX12_mark 18 = .ok (.aload_n 0, 1) := by decide +kernel
theorem dX12_mark_19 : decode cX12_mark 19 = .ok (.iload_n 1, 1) := by decide +kernel
theorem dX12_mark_20 : decode cX12_mark 20 = .ok (.invokevirtual 606, 3) := by decide +kernel
theorem dX12_mark_23 : decode cX12_mark 23 = .ok (.istore 4, 2) := by decide +kernel
theorem dX12_mark_25 : decode cX12_mark 25 = .ok (.aload_n 0, 1) := by decide +kernel
theorem dX12_mark_26 : decode cX12_mark 26 = .ok (.getfield 160, 3) := by decide +kernel
theorem dX12_mark_29 : decode cX12_mark 29 = .ok (.iload 4, 2) := by decide +kernel
theorem dX12_mark_31 : decode cX12_mark 31 = .ok (.iload_n 2, 1) := by decide +kernel
theorem dX12_mark_32 : decode cX12_mark 32 = .ok (.iastore, 1) := by decide +kernel
theorem dX12_mark_33 : decode cX12_mark 33 = .ok (.aload_n 0, 1) := by decide +kernel
theorem dX12_mark_34 : decode cX12_mark 34 = .ok (.iload 4, 2) := by decide +kernel
theorem dX12_mark_36 : decode cX12_mark 36 = .ok (.iload_n 3, 1) := by decide +kernel
theorem dX12_mark_37 : decode cX12_mark 37 = .ok (.invokevirtual 609, 3) := by decide +kernel
theorem dX12_mark_40 : decode cX12_mark 40 = .ok (.iload_n 3, 1) := by decide +kernel
theorem dX12_mark_41 : decode cX12_mark 41 = .ok (.ireturn, 1) := by decide +kernel
theorem dX12_otherwise_0 : decode cX12_otherwise 0 = .ok (.aload_n 0, 1) := by decide +kernel
theorem dX12_otherwise_1 : decode cX12_otherwise 1 = .ok (.bipush 13, 2) := by decide +kernel
theorem dX12_otherwise_3 : decode cX12_otherwise 3 = .ok (.iload_n 1, 1) := by decide +kernel
theorem dX12_otherwise_4 : decode cX12_otherwise 4 = .ok (.invokevirtual 704, 3) := by decide +kernel
theorem dX12_otherwise_7 : decode cX12_otherwise 7 = .ok (.istore_n 3, 1) := by decide +kernel
theorem dX12_otherwise_8 : decode cX12_otherwise 8 = .ok (.aload_n 0, 1) := by decide +kernel
theorem dX12_otherwise_9 : decode cX12_otherwise 9 = .ok (.getfield 557, 3) := by decide +kernel
theorem dX12_otherwise_12 : decode cX12_otherwise 12 = .ok (.ifCond .eq 4, 3) := by decide +kernel
theorem dX12_otherwise_15 : decode cX12_otherwise 15 = .ok (.return_, 1) := by decide +kernel
theorem dX12_otherwise_16 : decode cX12_otherwise 16 = .ok (.aload_n 0, 1) := by decide +kernel
theorem dX12_otherwise_17 : decode cX12_otherwise 17 = .ok (.getfield 163, 3) := by decide +kernel
theorem dX12_otherwise_20 : decode cX12_otherwise 20 = .ok (.iload_n 1, 1) := by decide +kernel
theorem dX12_otherwise_21 : decode cX12_otherwise 21 = .ok (.aload_n 0, 1) := by decide +kernel
theorem dX12_otherwise_22 : decode cX12_otherwise 22 = .ok (.getfield 682, 3) := by decide +kernel
theorem dX12_otherwise_25 : decode cX12_otherwise 25 = .ok (.iconst 1, 1) := by decide +kernel
theorem dX12_otherwise_26 : decode cX12_otherwise 26 = .ok (.isub, 1) := by decide +kernel
theorem dX12_otherwise_27 : decode cX12_otherwise 27 = .ok (.iastore, 1) := by decide +kernel
theorem dX12_otherwise_28 : decode cX12_otherwise 28 = .ok (.aload_n 0, 1) := by decide +kernel
theorem dX12_otherwise_29 : decode cX12_otherwise 29 = .ok (.bipush 7, 2) := by decide +kernel
theorem dX12_otherwise_31 : decode cX12_otherwise 31 = .ok (.iload_n 1, 1) := by decide +kernel
theorem dX12_otherwise_32 : decode cX12_otherwise 32 = .ok (.iload_n 3, 1) := by decide +kernel
theorem dX12_otherwise_33 : decode cX12_otherwise 33 = .ok (.invokevirtual 588, 3) := by decide +kernel
theorem dX12_otherwise_36 : decode cX12_otherwise 36 = .ok (.aload_n 0, 1) := by decide +kernel
theorem dX12_otherwise_37 : decode cX12_otherwise 37 = .ok (.iconst 0, 1) := by decide +kernel
theorem dX12_otherwise_38 : decode cX12_otherwise 38 = .ok (.iload_n 2, 1) := by decide +kernel
theorem dX12_otherwise_39 : decode cX12_otherwise 39 = .ok (.iconst 0, 1) := by decide +kernel
theorem dX12_otherwise_40 : decode cX12_otherwise 40 = .ok (.invokevirtual 588, 3) := by decide +kernel
theorem dX12_otherwise_43 : decode cX12_otherwise 43 = .ok (.return_, 1) := by decide +kernel
theorem dX12_whole_0 : decode cX12_whole 0 = .ok (.aload_n 0, 1) := by decide +kernel
theorem dX12_whole_1 : decode cX12_whole 1 = .ok (.getfield 133, 3) := by decide +kernel
theorem dX12_whole_4 : decode cX12_whole 4 = .ok (.aload_n 0, 1) := by decide +kernel
theorem dX12_whole_5 : decode cX12_whole 5 = .ok (.getfield 545, 3) := by decide +kernel
theorem dX12_whole_8 : decode cX12_whole 8 = .ok (.iaload, 1) := by decide +kernel
theorem dX12_whole_9 : decode cX12_whole 9 = .ok (.istore_n 2, 1) := by decide +kernel
theorem dX12_whole_10 : decode cX12_whole 10 = .ok (.aload_n 0, 1) := by decide +kernel
theorem dX12_whole_11 : decode cX12_whole 11 = .ok (.bipush 14, 2) := by decide +kernel
theorem dX12_whole_13 : decode cX12_whole 13 = .ok (.iload_n 1, 1) := by decide +kernel
theorem dX12_whole_14 : decode cX12_whole 14 = .ok (.invokevirtual 704, 3) := by decide +kernel
theorem dX12_whole_17 : decode cX12_whole 17 = .ok (.istore_n 3, 1) := by decide +kernel
theorem dX12_whole_18 : decode cX12_whole 18 = .ok (.aload_n 0, 1) := by decide +kernel
theorem dX12_whole_19 : decode cX12_whole 19 = .ok (.getfield 557, 3) := by decide +kernel
theorem dX12_whole_22 : decode cX12_whole 22 = .ok (.ifCond .ne 9, 3) := by decide +kernel
theorem dX12_whole_25 : decode cX12_whole 25 = .ok (.aload_n 0, 1) := by decide +kernel
theorem dX12_whole_26 : decode cX12_whole 26 = .ok (.iload_n 1, 1) := by decide +kernel
theorem dX12_whole_27 : decode cX12_whole 27 = .ok (.iconst 1, 1) := by decide +kernel
theorem dX12_whole_28 : decode cX12_whole 28 = .ok (.invokevirtual 694, 3) := by decide +kernel
theorem dX12_whole_31 : decode cX12_whole 31 = .ok (.aload_n 0, 1) := by decide +kernel
theorem dX12_whole_32 : decode cX12_whole 32 = .ok (.getfield 557, 3) := by decide +kernel
theorem dX12_whole_35 : decode cX12_whole 35 = .ok (.ifCond .eq 4, 3) := by decide +kernel
theorem dX12_whole_38 : decode cX12_whole 38 = .ok (.return_, 1) := by decide +kernel
theorem dX12_whole_39 : decode cX12_whole 39 = .ok (.aload_n 0, 1) := by decide +kernel
theorem dX12_whole_40 : decode cX12_whole 40 = .ok (.getfield 166, 3) := by decide +kernel
theorem dX12_whole_43 : decode cX12_whole 43 = .ok (.iload_n 1, 1) := by decide +kernel
theorem dX12_whole_44 : decode cX12_whole 44 = .ok (.aload_n 0, 1) := by decide +kernel
theorem dX12_whole_45 : decode cX12_whole 45 = .ok (.getfield 682, 3) := by decide +kernel
theorem dX12_whole_48 : decode cX12_whole 48 = .ok (.iconst 1, 1) := by decide +kernel
theorem dX12_whole_49 : decode cX12_whole 49 = .ok (.isub, 1) := by decide +kernel
theorem dX12_whole_50 : decode cX12_whole 50 = .ok (.iastore, 1) := by decide +kernel
theorem dX12_whole_51 : decode cX12_whole 51 = .ok (.aload_n 0, 1) := by decide +kernel
theorem dX12_whole_52 : decode cX12_whole 52 = .ok (.dup, 1) := by decide +kernel
theorem dX12_whole_53 : decode cX12_whole 53 = .ok (.getfield 612, 3) := by decide +kernel
theorem dX12_whole_56 : decode cX12_whole 56 = .ok (.iconst 1, 1) := by decide +kernel
theorem dX12_whole_57 : decode cX12_whole 57 = .ok (.isub, 1) := by decide +kernel
theorem dX12_whole_58 : decode cX12_whole 58 = .ok (.putfield 612, 3) := by decide +kernel
theorem dX12_whole_61 : decode cX12_whole 61 = .ok (.aload_n 0, 1) := by decide +kernel
theorem dX12_whole_62 : decode cX12_whole 62 = .ok (.iload_n 2, 1) := by decide +kernel
theorem dX12_whole_63 : decode cX12_whole 63 = .ok (.invokevirtual 600, 3) := by decide +kernel
theorem dX12_whole_66 : decode cX12_whole 66 = .ok (.ifCond .eq 37, 3) := by decide +kernel
theorem dX12_whole_69 : decode cX12_whole 69 = .ok (.aload_n 0, 1) := by decide +kernel
theorem dX12_whole_70 : decode cX12_whole 70 = .ok (.getfield 106, 3) := by decide +kernel
theorem dX12_whole_73 : decode cX12_whole 73 = .ok (.iload_n 2, 1) := by decide +kernel
theorem dX12_whole_74 : decode cX12_whole 74 = .ok (.iaload, 1) := by decide +kernel
theorem dX12_whole_75 : decode cX12_whole 75 = .ok (.aload_n 0, 1) := by decide +kernel
theorem dX12_whole_76 : decode cX12_whole 76 = .ok (.getfield 106, 3) := by decide +kernel
theorem dX12_whole_79 : decode cX12_whole 79 = .ok (.iload_n 3, 1) := by decide +kernel
theorem dX12_whole_80 : decode cX12_whole 80 = .ok (.iaload, 1) := by decide +kernel
theorem dX12_whole_81 : decode cX12_whole 81 = .ok (.if_icmp .ne 22, 3) := by decide +kernel
theorem dX12_whole_84 : decode cX12_whole 84 = .ok (.aload_n 0, 1) := by decide +kernel
theorem dX12_whole_85 : decode cX12_whole 85 = .ok (.getfield 109, 3) := by decide +kernel
theorem dX12_whole_88 : decode cX12_whole 88 = .ok (.iload_n 2, 1) := by decide +kernel
theorem dX12_whole_89 : decode cX12_whole 89 = .ok (.iaload, 1) := by decide +kernel
theorem dX12_whole_90 : decode cX12_whole 90 = .ok (.aload_n 0, 1) := by decide +kernel
theorem dX12_whole_91 : decode cX12_whole 91 = .ok (.getfield 109, 3) := by decide +kernel
theorem dX12_whole_94 : decode cX12_whole 94 = .ok (.iload_n 3, 1) := by decide +kernel
theorem dX12_whole_95 : decode cX12_whole 95 = .ok (.iaload, 1) := by decide +kernel
theorem dX12_whole_96 : decode cX12_whole 96 = .ok (.if_icmp .ne 7, 3) := by decide +kernel
theorem dX12_whole_99 : decode cX12_whole 99 = .ok (.iconst 1, 1) := by decide +kernel
theorem dX12_whole_100 : decode cX12_whole 100 = .ok (.goto 4, 3) := by decide +kernel
theorem dX12_whole_103 : decode cX12_whole 103 = .ok (.iconst 0, 1) := by decide +kernel
theorem dX12_whole_104 : decode cX12_whole 104 = .ok (.istore 4, 2) := by decide +kernel
theorem dX12_whole_106 : decode cX12_whole 106 = .ok (.aload_n 0, 1) := by decide +kernel
theorem dX12_whole_107 : decode cX12_whole 107 = .ok (.iload 4, 2) := by decide +kernel
theorem dX12_whole_109 : decode cX12_whole 109 = .ok (.ifCond .eq 7, 3) := by decide +kernel
theorem dX12_whole_112 : decode cX12_whole 112 = .ok (.iload_n 2, 1) := by decide +kernel
theorem dX12_whole_113 : decode cX12_whole 113 = .ok (.goto 8, 3) := by decide +kernel
theorem dX12_whole_116 : decode cX12_whole 116 = .ok (.aload_n 0, 1) := by decide +kernel
theorem dX12_whole_117 : decode cX12_whole 117 = .ok (.iload_n 1, 1) := by decide +kernel
theorem dX12_whole_118 : decode cX12_whole 118 = .ok (.invokevirtual 643, 3) := by decide +kernel
theorem dX12_whole_121 : decode cX12_whole 121 = .ok (.invokevirtual 585, 3) := by decide +kernel
theorem dX12_whole_124 : decode cX12_whole 124 = .ok (.return_, 1) := by decide +kernel
theorem dX12_layMade_0 : decode cX12_layMade 0 = .ok (.aload_n 0, 1) := by decide +kernel
theorem dX12_layMade_1 : decode cX12_layMade 1 = .ok (.iconst 0, 1) := by decide +kernel
theorem dX12_layMade_2 : decode cX12_layMade 2 = .ok (.putfield 707, 3) := by decide +kernel
theorem dX12_layMade_5 : decode cX12_layMade 5 = .ok (.iconst 0, 1) := by decide +kernel
theorem dX12_layMade_6 : decode cX12_layMade 6 = .ok (.istore_n 2, 1) := by decide +kernel
theorem dX12_layMade_7 : decode cX12_layMade 7 = .ok (.iload_n 1, 1) := by decide +kernel
theorem dX12_layMade_8 : decode cX12_layMade 8 = .ok (.iconst 1, 1) := by decide +kernel
theorem dX12_layMade_9 : decode cX12_layMade 9 = .ok (.isub, 1) := by decide +kernel
theorem dX12_layMade_10 : decode cX12_layMade 10 = .ok (.istore_n 3, 1) := by decide +kernel
theorem dX12_layMade_11 : decode cX12_layMade 11 = .ok (.iload_n 3, 1) := by decide +kernel
theorem dX12_layMade_12 : decode cX12_layMade 12 = .ok (.ifCond .lt 24, 3) := by decide +kernel
theorem dX12_layMade_15 : decode cX12_layMade 15 = .ok (.aload_n 0, 1) := by decide +kernel
theorem dX12_layMade_16 : decode cX12_layMade 16 = .ok (.getfield 181, 3) := by decide +kernel
theorem dX12_layMade_19 : decode cX12_layMade 19 = .ok (.iload_n 2, 1) := by decide +kernel
theorem dX12_layMade_20 : decode cX12_layMade 20 = .ok (.aload_n 0, 1) := by decide +kernel
theorem dX12_layMade_21 : decode cX12_layMade 21 = .ok (.getfield 151, 3) := by decide +kernel
theorem dX12_layMade_24 : decode cX12_layMade 24 = .ok (.iload_n 3, 1) := by decide +kernel
theorem dX12_layMade_25 : decode cX12_layMade 25 = .ok (.iaload, 1) := by decide +kernel
theorem dX12_layMade_26 : decode cX12_layMade 26 = .ok (.iastore, 1) := by decide +kernel
theorem dX12_layMade_27 : decode cX12_layMade 27 = .ok (.iinc 2 1, 3) := by decide +kernel
theorem dX12_layMade_30 : decode cX12_layMade 30 = .ok (.iinc 3 (-1), 3) := by decide +kernel
theorem dX12_layMade_33 : decode cX12_layMade 33 = .ok (.goto (-22), 3) := by decide +kernel
theorem dX12_layMade_36 : decode cX12_layMade 36 = .ok (.iload_n 2, 1) := by decide +kernel
theorem dX12_layMade_37 : decode cX12_layMade 37 = .ok (.ifCond .le 124, 3) := by decide +kernel
theorem dX12_layMade_40 : decode cX12_layMade 40 = .ok (.iinc 2 (-1), 3) := by decide +kernel
theorem dX12_layMade_43 : decode cX12_layMade 43 = .ok (.aload_n 0, 1) := by decide +kernel
theorem dX12_layMade_44 : decode cX12_layMade 44 = .ok (.getfield 181, 3) := by decide +kernel
theorem dX12_layMade_47 : decode cX12_layMade 47 = .ok (.iload_n 2, 1) := by decide +kernel
theorem dX12_layMade_48 : decode cX12_layMade 48 = .ok (.iaload, 1) := by decide +kernel
theorem dX12_layMade_49 : decode cX12_layMade 49 = .ok (.istore_n 3, 1) := by decide +kernel
theorem dX12_layMade_50 : decode cX12_layMade 50 = .ok (.aload_n 0, 1) := by decide +kernel
theorem dX12_layMade_51 : decode cX12_layMade 51 = .ok (.getfield 217, 3) := by decide +kernel
theorem dX12_layMade_54 : decode cX12_layMade 54 = .ok (.aload_n 0, 1) := by decide +kernel
theorem dX12_layMade_55 : decode cX12_layMade 55 = .ok (.getfield 707, 3) := by decide +kernel
theorem dX12_layMade_58 : decode cX12_layMade 58 = .ok (.aload_n 0, 1) := by decide +kernel
theorem dX12_layMade_59 : decode cX12_layMade 59 = .ok (.getfield 106, 3) := by decide +kernel
theorem dX12_layMade_62 : decode cX12_layMade 62 = .ok (.iload_n 3, 1) := by decide +kernel
theorem dX12_layMade_63 : decode cX12_layMade 63 = .ok (.iaload, 1) := by decide +kernel
theorem dX12_layMade_64 : decode cX12_layMade 64 = .ok (.iastore, 1) := by decide +kernel
theorem dX12_layMade_65 : decode cX12_layMade 65 = .ok (.aload_n 0, 1) := by decide +kernel
theorem dX12_layMade_66 : decode cX12_layMade 66 = .ok (.getfield 220, 3) := by decide +kernel
theorem dX12_layMade_69 : decode cX12_layMade 69 = .ok (.aload_n 0, 1) := by decide +kernel
theorem dX12_layMade_70 : decode cX12_layMade 70 = .ok (.getfield 707, 3) := by decide +kernel
theorem dX12_layMade_73 : decode cX12_layMade 73 = .ok (.aload_n 0, 1) := by decide +kernel
theorem dX12_layMade_74 : decode cX12_layMade 74 = .ok (.getfield 106, 3) := by decide +kernel
theorem dX12_layMade_77 : decode cX12_layMade 77 = .ok (.iload_n 3, 1) := by decide +kernel
theorem dX12_layMade_78 : decode cX12_layMade 78 = .ok (.iaload, 1) := by decide +kernel
theorem dX12_layMade_79 : decode cX12_layMade 79 = .ok (.invokestatic 710, 3) := by decide +kernel
theorem dX12_layMade_82 : decode cX12_layMade 82 = .ok (.ifCond .eq 12, 3) := by decide +kernel
theorem dX12_layMade_85 : decode cX12_layMade 85 = .ok (.aload_n 0, 1) := by decide +kernel
theorem dX12_layMade_86 : decode cX12_layMade 86 = .ok (.getfield 109, 3) := by decide +kernel
theorem dX12_layMade_89 : decode cX12_layMade 89 = .ok (.iload_n 3, 1) := by decide +kernel
theorem dX12_layMade_90 : decode cX12_layMade 90 = .ok (.iaload, 1) := by decide +kernel
theorem dX12_layMade_91 : decode cX12_layMade 91 = .ok (.goto 4, 3) := by decide +kernel
theorem dX12_layMade_94 : decode cX12_layMade 94 = .ok (.iconst 0, 1) := by decide +kernel
theorem dX12_layMade_95 : decode cX12_layMade 95 = .ok (.iastore, 1) := by decide +kernel
theorem dX12_layMade_96 : decode cX12_layMade 96 = .ok (.aload_n 0, 1) := by decide +kernel
theorem dX12_layMade_97 : decode cX12_layMade 97 = .ok (.getfield 223, 3) := by decide +kernel
theorem dX12_layMade_100 : decode cX12_layMade 100 = .ok (.aload_n 0, 1) := by decide +kernel
theorem dX12_layMade_101 : decode cX12_layMade 101 = .ok (.getfield 707, 3) := by decide +kernel
theorem dX12_layMade_104 : decode cX12_layMade 104 = .ok (.iload_n 3, 1) := by decide +kernel
theorem dX12_layMade_105 : decode cX12_layMade 105 = .ok (.iastore, 1) := by decide +kernel
theorem dX12_layMade_106 : decode cX12_layMade 106 = .ok (.aload_n 0, 1) := by decide +kernel
theorem dX12_layMade_107 : decode cX12_layMade 107 = .ok (.dup, 1) := by decide +kernel
theorem dX12_layMade_108 : decode cX12_layMade 108 = .ok (.getfield 707, 3) := by decide +kernel
theorem dX12_layMade_111 : decode cX12_layMade 111 = .ok (.iconst 1, 1) := by decide +kernel
theorem dX12_layMade_112 : decode cX12_layMade 112 = .ok (.iadd, 1) := by decide +kernel
theorem dX12_layMade_113 : decode cX12_layMade 113 = .ok (.putfield 707, 3) := by decide +kernel
theorem dX12_layMade_116 : decode cX12_layMade 116 = .ok (.aload_n 0, 1) := by decide +kernel
theorem dX12_layMade_117 : decode cX12_layMade 117 = .ok (.getfield 106, 3) := by decide +kernel
theorem dX12_layMade_120 : decode cX12_layMade 120 = .ok (.iload_n 3, 1) := by decide +kernel
theorem dX12_layMade_121 : decode cX12_layMade 121 = .ok (.iaload, 1) := by decide +kernel
theorem dX12_layMade_122 : decode cX12_layMade 122 = .ok (.iconst 2, 1) := by decide +kernel
theorem dX12_layMade_123 : decode cX12_layMade 123 = .ok (.if_icmp .eq 6, 3) := by decide +kernel
theorem dX12_layMade_126 : decode cX12_layMade 126 = .ok (.goto (-90), 3) := by decide +kernel
theorem dX12_layMade_129 : decode cX12_layMade 129 = .ok (.aload_n 0, 1) := by decide +kernel
theorem dX12_layMade_130 : decode cX12_layMade 130 = .ok (.getfield 181, 3) := by decide +kernel
theorem dX12_layMade_133 : decode cX12_layMade 133 = .ok (.iload_n 2, 1) := by decide +kernel
theorem dX12_layMade_134 : decode cX12_layMade 134 = .ok (.aload_n 0, 1) := by decide +kernel
theorem dX12_layMade_135 : decode cX12_layMade 135 = .ok (.getfield 112, 3) := by decide +kernel
theorem dX12_layMade_138 : decode cX12_layMade 138 = .ok (.iload_n 3, 1) := by decide +kernel
theorem dX12_layMade_139 : decode cX12_layMade 139 = .ok (.iaload, 1) := by decide +kernel
theorem dX12_layMade_140 : decode cX12_layMade 140 = .ok (.iastore, 1) := by decide +kernel
theorem dX12_layMade_141 : decode cX12_layMade 141 = .ok (.aload_n 0, 1) := by decide +kernel
theorem dX12_layMade_142 : decode cX12_layMade 142 = .ok (.getfield 181, 3) := by decide +kernel
theorem dX12_layMade_145 : decode cX12_layMade 145 = .ok (.iload_n 2, 1) := by decide +kernel
theorem dX12_layMade_146 : decode cX12_layMade 146 = .ok (.iconst 1, 1) := by decide +kernel
theorem dX12_layMade_147 : decode cX12_layMade 147 = .ok (.iadd, 1) := by decide +kernel
theorem dX12_layMade_148 : decode cX12_layMade 148 = .ok (.aload_n 0, 1) := by decide +kernel
theorem dX12_layMade_149 : decode cX12_layMade 149 = .ok (.getfield 109, 3) := by decide +kernel
theorem dX12_layMade_152 : decode cX12_layMade 152 = .ok (.iload_n 3, 1) := by decide +kernel
theorem dX12_layMade_153 : decode cX12_layMade 153 = .ok (.iaload, 1) := by decide +kernel
theorem dX12_layMade_154 : decode cX12_layMade 154 = .ok (.iastore, 1) := by decide +kernel
theorem dX12_layMade_155 : decode cX12_layMade 155 = .ok (.iinc 2 2, 3) := by decide +kernel
theorem dX12_layMade_158 : decode cX12_layMade 158 = .ok (.goto (-122), 3) := by decide +kernel
theorem dX12_layMade_161 : decode cX12_layMade 161 = .ok (.return_, 1) := by decide +kernel
theorem dX12_isNumber_0 : decode cX12_isNumber 0 = .ok (.iload_n 0, 1) := by decide +kernel
theorem dX12_isNumber_1 : decode cX12_isNumber 1 = .ok (.ifCond .eq 8, 3) := by decide +kernel
theorem dX12_isNumber_4 : decode cX12_isNumber 4 = .ok (.iload_n 0, 1) := by decide +kernel
theorem dX12_isNumber_5 : decode cX12_isNumber 5 = .ok (.iconst 1, 1) := by decide +kernel
theorem dX12_isNumber_6 : decode cX12_isNumber 6 = .ok (.if_icmp .ne 7, 3) := by decide +kernel
theorem dX12_isNumber_9 : decode cX12_isNumber 9 = .ok (.iconst 1, 1) := by decide +kernel
theorem dX12_isNumber_10 : decode cX12_isNumber 10 = .ok (.goto 4, 3) := by decide +kernel
theorem dX12_isNumber_13 : decode cX12_isNumber 13 = .ok (.iconst 0, 1) := by decide +kernel
theorem dX12_isNumber_14 : decode cX12_isNumber 14 = .ok (.ireturn, 1) := by decide +kernel
theorem dX12_behindPart_0 : decode cX12_behindPart 0 = .ok (.iconst 1, 1) := by decide +kernel
theorem dX12_behindPart_1 : decode cX12_behindPart 1 = .ok (.istore_n 2, 1) := by decide +kernel
theorem dX12_behindPart_2 : decode cX12_behindPart 2 = .ok (.iload_n 1, 1) := by decide +kernel
theorem dX12_behindPart_3 : decode cX12_behindPart 3 = .ok (.istore_n 3, 1) := by decide +kernel
theorem dX12_behindPart_4 : decode cX12_behindPart 4 = .ok (.iload_n 2, 1) := by decide +kernel
theorem dX12_behindPart_5 : decode cX12_behindPart 5 = .ok (.ifCond .le 24, 3) := by decide +kernel
theorem dX12_behindPart_8 : decode cX12_behindPart 8 = .ok (.iload_n 2, 1) := by decide +kernel
theorem dX12_behindPart_9 : decode cX12_behindPart 9 = .ok (.aload_n 0, 1) := by decide +kernel
theorem dX12_behindPart_10 : decode cX12_behindPart 10 = .ok (.iload_n 3, 1) := by decide +kernel
theorem dX12_behindPart_11 : decode cX12_behindPart 11 = .ok (.iaload, 1) := by decide +kernel
theorem dX12_behindPart_12 : decode cX12_behindPart 12 = .ok (.iconst 2, 1) := by decide +kernel
theorem dX12_behindPart_13 : decode cX12_behindPart 13 = .ok (.if_icmp .ne 7, 3) := by decide +kernel
theorem dX12_behindPart_16 : decode cX12_behindPart 16 = .ok (.iconst 1, 1) := by decide +kernel
theorem dX12_behindPart_17 : decode cX12_behindPart 17 = .ok (.goto 4, 3) := by decide +kernel
theorem dX12_behindPart_20 : decode cX12_behindPart 20 = .ok (.iconst (-1), 1) := by decide +kernel
theorem dX12_behindPart_21 : decode cX12_behindPart 21 = .ok (.iadd, 1) := by decide +kernel
theorem dX12_behindPart_22 : decode cX12_behindPart 22 = .ok (.istore_n 2, 1) := by decide +kernel
theorem dX12_behindPart_23 : decode cX12_behindPart 23 = .ok (.iinc 3 1, 3) := by decide +kernel
theorem dX12_behindPart_26 : decode cX12_behindPart 26 = .ok (.goto (-22), 3) := by decide +kernel
theorem dX12_behindPart_29 : decode cX12_behindPart 29 = .ok (.iload_n 3, 1) := by decide +kernel
theorem dX12_behindPart_30 : decode cX12_behindPart 30 = .ok (.ireturn, 1) := by decide +kernel
theorem dX12_isGrown_0 : decode cX12_isGrown 0 = .ok (.iload_n 0, 1) := by decide +kernel
theorem dX12_isGrown_1 : decode cX12_isGrown 1 = .ok (.iload_n 2, 1) := by decide +kernel
theorem dX12_isGrown_2 : decode cX12_isGrown 2 = .ok (.if_icmp .ne 10, 3) := by decide +kernel
theorem dX12_isGrown_5 : decode cX12_isGrown 5 = .ok (.iload_n 1, 1) := by decide +kernel
theorem dX12_isGrown_6 : decode cX12_isGrown 6 = .ok (.iload_n 3, 1) := by decide +kernel
theorem dX12_isGrown_7 : decode cX12_isGrown 7 = .ok (.if_icmp .ne 5, 3) := by decide +kernel
theorem dX12_isGrown_10 : decode cX12_isGrown 10 = .ok (.iconst 0, 1) := by decide +kernel
theorem dX12_isGrown_11 : decode cX12_isGrown 11 = .ok (.ireturn, 1) := by decide +kernel
theorem dX12_isGrown_12 : decode cX12_isGrown 12 = .ok (.iload_n 0, 1) := by decide +kernel
theorem dX12_isGrown_13 : decode cX12_isGrown 13 = .ok (.iload_n 1, 1) := by decide +kernel
theorem dX12_isGrown_14 : decode cX12_isGrown 14 = .ok (.invokestatic 328, 3) := by decide +kernel
theorem dX12_isGrown_17 : decode cX12_isGrown 17 = .ok (.ldc_w 311, 3) := by decide +kernel
theorem dX12_isGrown_20 : decode cX12_isGrown 20 = .ok (.iand, 1) := by decide +kernel
theorem dX12_isGrown_21 : decode cX12_isGrown 21 = .ok (.istore 4, 2) := by decide +kernel
theorem dX12_isGrown_23 : decode cX12_isGrown 23 = .ok (.iload_n 2, 1) := by decide +kernel
theorem dX12_isGrown_24 : decode cX12_isGrown 24 = .ok (.iload_n 3, 1) := by decide +kernel
theorem dX12_isGrown_25 : decode cX12_isGrown 25 = .ok (.invokestatic 328, 3) := by decide +kernel
theorem dX12_isGrown_28 : decode cX12_isGrown 28 = .ok (.ldc_w 311, 3) := by decide +kernel
theorem dX12_isGrown_31 : decode cX12_isGrown 31 = .ok (.iand, 1) := by decide +kernel
theorem dX12_isGrown_32 : decode cX12_isGrown 32 = .ok (.istore 5, 2) := by decide +kernel
theorem dX12_isGrown_34 : decode cX12_isGrown 34 = .ok (.iload 4, 2) := by decide +kernel
theorem dX12_isGrown_36 : decode cX12_isGrown 36 = .ok (.iload 5, 2) := by decide +kernel
theorem dX12_isGrown_38 : decode cX12_isGrown 38 = .ok (.invokestatic 331, 3) := by decide +kernel
theorem dX12_isGrown_41 : decode cX12_isGrown 41 = .ok (.ifCond .ne 7, 3) := by decide +kernel
theorem dX12_isGrown_44 : decode cX12_isGrown 44 = .ok (.iconst 1, 1) := by decide +kernel
theorem dX12_isGrown_45 : decode cX12_isGrown 45 = .ok (.goto 4, 3) := by decide +kernel
theorem dX12_isGrown_48 : decode cX12_isGrown 48 = .ok (.iconst 0, 1) := by decide +kernel
theorem dX12_isGrown_49 : decode cX12_isGrown 49 = .ok (.ireturn, 1) := by decide +kernel
theorem dX12_growBy_0 : decode cX12_growBy 0 = .ok (.iconst 0, 1) := by decide +kernel
theorem dX12_growBy_1 : decode cX12_growBy 1 = .ok (.istore_n 2, 1) := by decide +kernel
theorem dX12_growBy_2 : decode cX12_growBy 2 = .ok (.sipush 210, 3) := by decide +kernel
theorem dX12_growBy_5 : decode cX12_growBy 5 = .ok (.iload_n 1, 1) := by decide +kernel
theorem dX12_growBy_6 : decode cX12_growBy 6 = .ok (.imul, 1) := by decide +kernel
theorem dX12_growBy_7 : decode cX12_growBy 7 = .ok (.istore_n 3, 1) := by decide +kernel
theorem dX12_growBy_8 : decode cX12_growBy 8 = .ok (.iconst 0, 1) := by decide +kernel
theorem dX12_growBy_9 : decode cX12_growBy 9 = .ok (.istore 4, 2) := by decide +kernel
theorem dX12_growBy_11 : decode cX12_growBy 11 = .ok (.iload_n 2, 1) := by decide +kernel
theorem dX12_growBy_12 : decode cX12_growBy 12 = .ok (.aload_n 0, 1) := by decide +kernel
theorem dX12_growBy_13 : decode cX12_growBy 13 = .ok (.getfield 707, 3) := by decide +kernel
theorem dX12_growBy_16 : decode cX12_growBy 16 = .ok (.if_icmp .ge 263, 3) := by decide +kernel
theorem dX12_growBy_19 : decode cX12_growBy 19 = .ok (.aload_n 0, 1) := by decide +kernel
theorem dX12_growBy_20 : decode cX12_growBy 20 = .ok (.getfield 217, 3) := by decide +kernel
theorem dX12_growBy_23 : decode cX12_growBy 23 = .ok (.iload_n 2, 1) := by decide +kernel
theorem dX12_growBy_24 : decode cX12_growBy 24 = .ok (.iaload, 1) := by decide +kernel
theorem dX12_growBy_25 : decode cX12_growBy 25 = .ok (.istore 5, 2) := by decide +kernel
theorem dX12_growBy_27 : decode cX12_growBy 27 = .ok (.aload_n 0, 1) := by decide +kernel
theorem dX12_growBy_28 : decode cX12_growBy 28 = .ok (.getfield 196, 3) := by decide +kernel
theorem dX12_growBy_31 : decode cX12_growBy 31 = .ok (.iload_n 3, 1) := by decide +kernel
theorem dX12_growBy_32 : decode cX12_growBy 32 = .ok (.iaload, 1) := by decide +kernel
theorem dX12_growBy_33 : decode cX12_growBy 33 = .ok (.istore 6, 2) := by decide +kernel
theorem dX12_growBy_35 : decode cX12_growBy 35 = .ok (.iload 5, 2) := by decide +kernel
theorem dX12_growBy_37 : decode cX12_growBy 37 = .ok (.invokestatic 710, 3) := by decide +kernel
theorem dX12_growBy_40 : decode cX12_growBy 40 = .ok (.ifCond .eq 33, 3) := by decide +kernel
theorem dX12_growBy_43 : decode cX12_growBy 43 = .ok (.iload 6, 2) := by decide +kernel
theorem dX12_growBy_45 : decode cX12_growBy 45 = .ok (.invokestatic 710, 3) := by decide +kernel
theorem dX12_growBy_48 : decode cX12_growBy 48 = .ok (.ifCond .eq 25, 3) := by decide +kernel
theorem dX12_growBy_51 : decode cX12_growBy 51 = .ok (.iload 5, 2) := by decide +kernel
theorem dX12_growBy_53 : decode cX12_growBy 53 = .ok (.aload_n 0, 1) := by decide +kernel
theorem dX12_growBy_54 : decode cX12_growBy 54 = .ok (.getfield 220, 3) := by decide +kernel
theorem dX12_growBy_57 : decode cX12_growBy 57 = .ok (.iload_n 2, 1) := by decide +kernel
theorem dX12_growBy_58 : decode cX12_growBy 58 = .ok (.iaload, 1) := by decide +kernel
theorem dX12_growBy_59 : decode cX12_growBy 59 = .ok (.iload 6, 2) := by decide +kernel
theorem dX12_growBy_61 : decode cX12_growBy 61 = .ok (.aload_n 0, 1) := by decide +kernel
theorem dX12_growBy_62 : decode cX12_growBy 62 = .ok (.getfield 199, 3) := by decide +kernel
theorem dX12_growBy_65 : decode cX12_growBy 65 = .ok (.iload_n 3, 1) := by decide +kernel
theorem dX12_growBy_66 : decode cX12_growBy 66 = .ok (.iaload, 1) := by decide +kernel
theorem dX12_growBy_67 : decode cX12_growBy 67 = .ok (.invokestatic 713, 3) := by decide +kernel
theorem dX12_growBy_70 : decode cX12_growBy 70 = .ok (.ifCond .ne 17, 3) := by decide +kernel
theorem dX12_growBy_73 : decode cX12_growBy 73 = .ok (.iload 5, 2) := by decide +kernel
theorem dX12_growBy_75 : decode cX12_growBy 75 = .ok (.iconst 2, 1) := by decide +kernel
theorem dX12_growBy_76 : decode cX12_growBy 76 = .ok (.if_icmp .ne 15, 3) := by decide +kernel
theorem dX12_growBy_79 : decode cX12_growBy 79 = .ok (.iload 6, 2) := by decide +kernel
theorem dX12_growBy_81 : decode cX12_growBy 81 = .ok (.invokestatic 710, 3) := by decide +kernel
theorem dX12_growBy_84 : decode cX12_growBy 84 = .ok (.ifCond .eq 7, 3) := by decide +kernel
theorem dX12_growBy_87 : decode cX12_growBy 87 = .ok (.iconst 1, 1) := by decide +kernel
theorem dX12_growBy_88 : decode cX12_growBy 88 = .ok (.goto 4, 3) := by decide +kernel
theorem dX12_growBy_91 : decode cX12_growBy 91 = .ok (.iconst 0, 1) := by decide +kernel
theorem dX12_growBy_92 : decode cX12_growBy 92 = .ok (.istore 7, 2) := by decide +kernel
theorem dX12_growBy_94 : decode cX12_growBy 94 = .ok (.aload_n 0, 1) := by decide +kernel
theorem dX12_growBy_95 : decode cX12_growBy 95 = .ok (.getfield 226, 3) := by decide +kernel
theorem dX12_growBy_98 : decode cX12_growBy 98 = .ok (.iload 4, 2) := by decide +kernel
theorem dX12_growBy_100 : decode cX12_growBy 100 = .ok (.iload 7, 2) := by decide +kernel
theorem dX12_growBy_102 : decode cX12_growBy 102 = .ok (.ifCond .eq 7, 3) := by decide +kernel
theorem dX12_growBy_105 : decode cX12_growBy 105 = .ok (.iconst 3, 1) := by decide +kernel
theorem dX12_growBy_106 : decode cX12_growBy 106 = .ok (.goto 5, 3) := by decide +kernel
theorem dX12_growBy_109 : decode cX12_growBy 109 = .ok (.iload 5, 2) := by decide +kernel
theorem dX12_growBy_111 : decode cX12_growBy 111 = .ok (.iastore, 1) := by decide +kernel
theorem dX12_growBy_112 : decode cX12_growBy 112 = .ok (.aload_n 0, 1) := by decide +kernel
theorem dX12_growBy_113 : decode cX12_growBy 113 = .ok (.getfield 229, 3) := by decide +kernel
theorem dX12_growBy_116 : decode cX12_growBy 116 = .ok (.iload 4, 2) := by decide +kernel
theorem dX12_growBy_118 : decode cX12_growBy 118 = .ok (.iload 7, 2) := by decide +kernel
theorem dX12_growBy_120 : decode cX12_growBy 120 = .ok (.ifCond .eq 7, 3) := by decide +kernel
theorem dX12_growBy_123 : decode cX12_growBy 123 = .ok (.iconst 0, 1) := by decide +kernel
theorem dX12_growBy_124 : decode cX12_growBy 124 = .ok (.goto 9, 3) := by decide +kernel
theorem dX12_growBy_127 : decode cX12_growBy 127 = .ok (.aload_n 0, 1) := by decide +kernel
theorem dX12_growBy_128 : decode cX12_growBy 128 = .ok (.getfield 220, 3) := by decide +kernel
theorem dX12_growBy_131 : decode cX12_growBy 131 = .ok (.iload_n 2, 1) := by decide +kernel
theorem dX12_growBy_132 : decode cX12_growBy 132 = .ok (.iaload, 1) := by decide +kernel
theorem dX12_growBy_133 : decode cX12_growBy 133 = .ok (.iastore, 1) := by decide +kernel
theorem dX12_growBy_134 : decode cX12_growBy 134 = .ok (.aload_n 0, 1) := by decide +kernel
theorem dX12_growBy_135 : decode cX12_growBy 135 = .ok (.getfield 232, 3) := by decide +kernel
theorem dX12_growBy_138 : decode cX12_growBy 138 = .ok (.iload 4, 2) := by decide +kernel
theorem dX12_growBy_140 : decode cX12_growBy 140 = .ok (.aload_n 0, 1) := by decide +kernel
theorem dX12_growBy_141 : decode cX12_growBy 141 = .ok (.getfield 223, 3) := by decide +kernel
theorem dX12_growBy_144 : decode cX12_growBy 144 = .ok (.iload_n 2, 1) := by decide +kernel
theorem dX12_growBy_145 : decode cX12_growBy 145 = .ok (.iaload, 1) := by decide +kernel
theorem dX12_growBy_146 : decode cX12_growBy 146 = .ok (.iastore, 1) := by decide +kernel
theorem dX12_growBy_147 : decode cX12_growBy 147 = .ok (.iinc 4 1, 3) := by decide +kernel
theorem dX12_growBy_150 : decode cX12_growBy 150 = .ok (.iload 7, 2) := by decide +kernel
theorem dX12_growBy_152 : decode cX12_growBy 152 = .ok (.ifCond .eq 13, 3) := by decide +kernel
theorem dX12_growBy_155 : decode cX12_growBy 155 = .ok (.aload_n 0, 1) := by decide +kernel
theorem dX12_growBy_156 : decode cX12_growBy 156 = .ok (.dup, 1) := by decide +kernel
theorem dX12_growBy_157 : decode cX12_growBy 157 = .ok (.getfield 717, 3) := by decide +kernel
theorem dX12_growBy_160 : decode cX12_growBy 160 = .ok (.iconst 1, 1) := by decide +kernel
theorem dX12_growBy_161 : decode cX12_growBy 161 = .ok (.iadd, 1) := by decide +kernel
theorem dX12_growBy_162 : decode cX12_growBy 162 = .ok (.putfield 717, 3) := by decide +kernel
theorem dX12_growBy_165 : decode cX12_growBy 165 = .ok (.iload 5, 2) := by decide +kernel
theorem dX12_growBy_167 : decode cX12_growBy 167 = .ok (.iconst 2, 1) := by decide +kernel
theorem dX12_growBy_168 : decode cX12_growBy 168 = .ok (.if_icmp .ne 18, 3) := by decide +kernel
theorem dX12_growBy_171 : decode cX12_growBy 171 = .ok (.iload 6, 2) := by decide +kernel
theorem dX12_growBy_173 : decode cX12_growBy 173 = .ok (.iconst 2, 1) := by decide +kernel
theorem dX12_growBy_174 : decode cX12_growBy 174 = .ok (.if_icmp .ne 12, 3) := by decide +kernel
theorem dX12_growBy_177 : decode cX12_growBy 177 = .ok (.iinc 2 1, 3) := by decide +kernel
theorem dX12_growBy_180 : decode cX12_growBy 180 = .ok (.iinc 3 1, 3) := by decide +kernel
theorem dX12_growBy_183 : decode cX12_growBy 183 = .ok (.goto (-172), 3) := by decide +kernel
theorem dX12_growBy_186 : decode cX12_growBy 186 = .ok (.aload_n 0, 1) := by decide +kernel
theorem dX12_growBy_187 : decode cX12_growBy 187 = .ok (.getfield 217, 3) := by decide +kernel
theorem dX12_growBy_190 : decode cX12_growBy 190 = .ok (.iload_n 2, 1) := by decide +kernel
theorem dX12_growBy_191 : decode cX12_growBy 191 = .ok (.invokestatic 720, 3) := by decide +kernel
theorem dX12_growBy_194 : decode cX12_growBy 194 = .ok (.istore 8, 2) := by decide +kernel
theorem dX12_growBy_196 : decode cX12_growBy 196 = .ok (.iload_n 2, 1) := by decide +kernel
theorem dX12_growBy_197 : decode cX12_growBy 197 = .ok (.iconst 1, 1) := by decide +kernel
theorem dX12_growBy_198 : decode cX12_growBy 198 = .ok (.iadd, 1) := by decide +kernel
theorem dX12_growBy_199 : decode cX12_growBy 199 = .ok (.istore 9, 2) := by decide +kernel
theorem dX12_growBy_201 : decode cX12_growBy 201 = .ok (.iload 9, 2) := by decide +kernel
theorem dX12_growBy_203 : decode cX12_growBy 203 = .ok (.iload 8, 2) := by decide +kernel
theorem dX12_growBy_205 : decode cX12_growBy 205 = .ok (.if_icmp .ge 59, 3) := by decide +kernel
theorem dX12_growBy_208 : decode cX12_growBy 208 = .ok (.iload 7, 2) := by decide +kernel
theorem dX12_growBy_210 : decode cX12_growBy 210 = .ok (.ifCond .ne 54, 3) := by decide +kernel
theorem dX12_growBy_213 : decode cX12_growBy 213 = .ok (.aload_n 0, 1) := by decide +kernel
theorem dX12_growBy_214 : decode cX12_growBy 214 = .ok (.getfield 226, 3) := by decide +kernel
theorem dX12_growBy_217 : decode cX12_growBy 217 = .ok (.iload 4, 2) := by decide +kernel
theorem dX12_growBy_219 : decode cX12_growBy 219 = .ok (.aload_n 0, 1) := by decide +kernel
theorem dX12_growBy_220 : decode cX12_growBy 220 = .ok (.getfield 217, 3) := by decide +kernel
theorem dX12_growBy_223 : decode cX12_growBy 223 = .ok (.iload 9, 2) := by decide +kernel
theorem dX12_growBy_225 : decode cX12_growBy 225 = .ok (.iaload, 1) := by decide +kernel
theorem dX12_growBy_226 : decode cX12_growBy 226 = .ok (.iastore, 1) := by decide +kernel
theorem dX12_growBy_227 : decode cX12_growBy 227 = .ok (.aload_n 0, 1) := by decide +kernel
theorem dX12_growBy_228 : decode cX12_growBy 228 = .ok (.getfield 229, 3) := by decide +kernel
theorem dX12_growBy_231 : decode cX12_growBy 231 = .ok (.iload 4, 2) := by decide +kernel
theorem dX12_growBy_233 : decode cX12_growBy 233 = .ok (.aload_n 0, 1) := by decide +kernel
theorem dX12_growBy_234 : decode cX12_growBy 234 = .ok (.getfield 220, 3) := by decide +kernel
theorem dX12_growBy_237 : decode cX12_growBy 237 = .ok (.iload 9, 2) := by decide +kernel
theorem dX12_growBy_239 : decode cX12_growBy 239 = .ok (.iaload, 1) := by decide +kernel
theorem dX12_growBy_240 : decode cX12_growBy 240 = .ok (.iastore, 1) := by decide +kernel
theorem dX12_growBy_241 : decode cX12_growBy 241 = .ok (.aload_n 0, 1) := by decide +kernel
theorem dX12_growBy_242 : decode cX12_growBy 242 = .ok (.getfield 232, 3) := by decide +kernel
theorem dX12_growBy_245 : decode cX12_growBy 245 = .ok (.iload 4, 2) := by decide +kernel
theorem dX12_growBy_247 : decode cX12_growBy 247 = .ok (.aload_n 0, 1) := by decide +kernel
theorem dX12_growBy_248 : decode cX12_growBy 248 = .ok (.getfield 223, 3) := by decide +kernel
theorem dX12_growBy_251 : decode cX12_growBy 251 = .ok (.iload 9, 2) := by decide +kernel
theorem dX12_growBy_253 : decode cX12_growBy 253 = .ok (.iaload, 1) := by decide +kernel
theorem dX12_growBy_254 : decode cX12_growBy 254 = .ok (.iastore, 1) := by decide +kernel
theorem dX12_growBy_255 : decode cX12_growBy 255 = .ok (.iinc 4 1, 3) := by decide +kernel
theorem dX12_growBy_258 : decode cX12_growBy 258 = .ok (.iinc 9 1, 3) := by decide +kernel
theorem dX12_growBy_261 : decode cX12_growBy 261 = .ok (.goto (-60), 3) := by decide +kernel
theorem dX12_growBy_264 : decode cX12_growBy 264 = .ok (.iload 8, 2) := by decide +kernel
theorem dX12_growBy_266 : decode cX12_growBy 266 = .ok (.istore_n 2, 1) := by decide +kernel
theorem dX12_growBy_267 : decode cX12_growBy 267 = .ok (.aload_n 0, 1) := by decide +kernel
theorem dX12_growBy_268 : decode cX12_growBy 268 = .ok (.getfield 196, 3) := by decide +kernel
theorem dX12_growBy_271 : decode cX12_growBy 271 = .ok (.iload_n 3, 1) := by decide +kernel
theorem dX12_growBy_272 : decode cX12_growBy 272 = .ok (.invokestatic 720, 3) := by decide +kernel
theorem dX12_growBy_275 : decode cX12_growBy 275 = .ok (.istore_n 3, 1) := by decide +kernel
theorem dX12_growBy_276 : decode cX12_growBy 276 = .ok (.goto (-265), 3) := by decide +kernel
theorem dX12_growBy_279 : decode cX12_growBy 279 = .ok (.aload_n 0, 1) := by decide +kernel
theorem dX12_growBy_280 : decode cX12_growBy 280 = .ok (.iload 4, 2) := by decide +kernel
theorem dX12_growBy_282 : decode cX12_growBy 282 = .ok (.putfield 707, 3) := by decide +kernel
theorem dX12_growBy_285 : decode cX12_growBy 285 = .ok (.aload_n 0, 1) := by decide +kernel
theorem dX12_growBy_286 : decode cX12_growBy 286 = .ok (.getfield 226, 3) := by decide +kernel
theorem dX12_growBy_289 : decode cX12_growBy 289 = .ok (.iconst 0, 1) := by decide +kernel
theorem dX12_growBy_290 : decode cX12_growBy 290 = .ok (.iload 4, 2) := by decide +kernel
theorem dX12_growBy_292 : decode cX12_growBy 292 = .ok (.aload_n 0, 1) := by decide +kernel
theorem dX12_growBy_293 : decode cX12_growBy 293 = .ok (.getfield 217, 3) := by decide +kernel
theorem dX12_growBy_296 : decode cX12_growBy 296 = .ok (.iconst 0, 1) := by decide +kernel
theorem dX12_growBy_297 : decode cX12_growBy 297 = .ok (.invokestatic 471, 3) := by decide +kernel
theorem dX12_growBy_300 : decode cX12_growBy 300 = .ok (.aload_n 0, 1) := by decide +kernel
theorem dX12_growBy_301 : decode cX12_growBy 301 = .ok (.getfield 229, 3) := by decide +kernel
theorem dX12_growBy_304 : decode cX12_growBy 304 = .ok (.iconst 0, 1) := by decide +kernel
theorem dX12_growBy_305 : decode cX12_growBy 305 = .ok (.iload 4, 2) := by decide +kernel
theorem dX12_growBy_307 : decode cX12_growBy 307 = .ok (.aload_n 0, 1) := by decide +kernel
theorem dX12_growBy_308 : decode cX12_growBy 308 = .ok (.getfield 220, 3) := by decide +kernel
theorem dX12_growBy_311 : decode cX12_growBy 311 = .ok (.iconst 0, 1) := by decide +kernel
theorem dX12_growBy_312 : decode cX12_growBy 312 = .ok (.invokestatic 471, 3) := by decide +kernel
theorem dX12_growBy_315 : decode cX12_growBy 315 = .ok (.aload_n 0, 1) := by decide +kernel
theorem dX12_growBy_316 : decode cX12_growBy 316 = .ok (.getfield 232, 3) := by decide +kernel
theorem dX12_growBy_319 : decode cX12_growBy 319 = .ok (.iconst 0, 1) := by decide +kernel
theorem dX12_growBy_320 : decode cX12_growBy 320 = .ok (.iload 4, 2) := by decide +kernel
theorem dX12_growBy_322 : decode cX12_growBy 322 = .ok (.aload_n 0, 1) := by decide +kernel
theorem dX12_growBy_323 : decode cX12_growBy 323 = .ok (.getfield 223, 3) := by decide +kernel
theorem dX12_growBy_326 : decode cX12_growBy 326 = .ok (.iconst 0, 1) := by decide +kernel
theorem dX12_growBy_327 : decode cX12_growBy 327 = .ok (.invokestatic 471, 3) := by decide +kernel
theorem dX12_growBy_330 : decode cX12_growBy 330 = .ok (.return_, 1) := by decide +kernel
theorem dX12_starsMade_0 : decode cX12_starsMade 0 = .ok (.iconst 0, 1) := by decide +kernel
theorem dX12_starsMade_1 : decode cX12_starsMade 1 = .ok (.istore_n 1, 1) := by decide +kernel
theorem dX12_starsMade_2 : decode cX12_starsMade 2 = .ok (.iconst 0, 1) := by decide +kernel
theorem dX12_starsMade_3 : decode cX12_starsMade 3 = .ok (.istore_n 2, 1) := by decide +kernel
theorem dX12_starsMade_4 : decode cX12_starsMade 4 = .ok (.iload_n 2, 1) := by decide +kernel
theorem dX12_starsMade_5 : decode cX12_starsMade 5 = .ok (.aload_n 0, 1) := by decide +kernel
theorem dX12_starsMade_6 : decode cX12_starsMade 6 = .ok (.getfield 707, 3) := by decide +kernel
theorem dX12_starsMade_9 : decode cX12_starsMade 9 = .ok (.if_icmp .ge 27, 3) := by decide +kernel
theorem dX12_starsMade_12 : decode cX12_starsMade 12 = .ok (.iload_n 1, 1) := by decide +kernel
theorem dX12_starsMade_13 : decode cX12_starsMade 13 = .ok (.aload_n 0, 1) := by decide +kernel
theorem dX12_starsMade_14 : decode cX12_starsMade 14 = .ok (.getfield 217, 3) := by decide +kernel
theorem dX12_starsMade_17 : decode cX12_starsMade 17 = .ok (.iload_n 2, 1) := by decide +kernel
theorem dX12_starsMade_18 : decode cX12_starsMade 18 = .ok (.iaload, 1) := by decide +kernel
theorem dX12_starsMade_19 : decode cX12_starsMade 19 = .ok (.iconst 3, 1) := by decide +kernel
theorem dX12_starsMade_20 : decode cX12_starsMade 20 = .ok (.if_icmp .ne 7, 3) := by decide +kernel
theorem dX12_starsMade_23 : decode cX12_starsMade 23 = .ok (.iconst 1, 1) := by decide +kernel
theorem dX12_starsMade_24 : decode cX12_starsMade 24 = .ok (.goto 4, 3) := by decide +kernel
theorem dX12_starsMade_27 : decode cX12_starsMade 27 = .ok (.iconst 0, 1) := by decide +kernel
theorem dX12_starsMade_28 : decode cX12_starsMade 28 = .ok (.iadd, 1) := by decide +kernel
theorem dX12_starsMade_29 : decode cX12_starsMade 29 = .ok (.istore_n 1, 1) := by decide +kernel
theorem dX12_starsMade_30 : decode cX12_starsMade 30 = .ok (.iinc 2 1, 3) := by decide +kernel
theorem dX12_starsMade_33 : decode cX12_starsMade 33 = .ok (.goto (-29), 3) := by decide +kernel
theorem dX12_starsMade_36 : decode cX12_starsMade 36 = .ok (.iload_n 1, 1) := by decide +kernel
theorem dX12_starsMade_37 : decode cX12_starsMade 37 = .ok (.ireturn, 1) := by decide +kernel
theorem dX12_isPattern_0 : decode cX12_isPattern 0 = .ok (.aload_n 0, 1) := by decide +kernel
theorem dX12_isPattern_1 : decode cX12_isPattern 1 = .ok (.getfield 187, 3) := by decide +kernel
theorem dX12_isPattern_4 : decode cX12_isPattern 4 = .ok (.iload_n 1, 1) := by decide +kernel
theorem dX12_isPattern_5 : decode cX12_isPattern 5 = .ok (.iaload, 1) := by decide +kernel
theorem dX12_isPattern_6 : decode cX12_isPattern 6 = .ok (.iload_n 2, 1) := by decide +kernel
theorem dX12_isPattern_7 : decode cX12_isPattern 7 = .ok (.if_icmp .ne 16, 3) := by decide +kernel
theorem dX12_isPattern_10 : decode cX12_isPattern 10 = .ok (.aload_n 0, 1) := by decide +kernel
theorem dX12_isPattern_11 : decode cX12_isPattern 11 = .ok (.getfield 190, 3) := by decide +kernel
theorem dX12_isPattern_14 : decode cX12_isPattern 14 = .ok (.iload_n 1, 1) := by decide +kernel
theorem dX12_isPattern_15 : decode cX12_isPattern 15 = .ok (.iaload, 1) := by decide +kernel
theorem dX12_isPattern_16 : decode cX12_isPattern 16 = .ok (.aload_n 0, 1) := by decide +kernel
theorem dX12_isPattern_17 : decode cX12_isPattern 17 = .ok (.getfield 707, 3) := by decide +kernel
theorem dX12_isPattern_20 : decode cX12_isPattern 20 = .ok (.if_icmp .eq 5, 3) := by decide +kernel
theorem dX12_isPattern_23 : decode cX12_isPattern 23 = .ok (.iconst 0, 1) := by decide +kernel
theorem dX12_isPattern_24 : decode cX12_isPattern 24 = .ok (.ireturn, 1) := by decide +kernel
theorem dX12_isPattern_25 : decode cX12_isPattern 25 = .ok (.iconst 0, 1) := by decide +kernel
theorem dX12_isPattern_26 : decode cX12_isPattern 26 = .ok (.istore_n 3, 1) := by decide +kernel
theorem dX12_isPattern_27 : decode cX12_isPattern 27 = .ok (.iload_n 3, 1) := by decide +kernel
theorem dX12_isPattern_28 : decode cX12_isPattern 28 = .ok (.aload_n 0, 1) := by decide +kernel
theorem dX12_isPattern_29 : decode cX12_isPattern 29 = .ok (.getfield 707, 3) := by decide +kernel
theorem dX12_isPattern_32 : decode cX12_isPattern 32 = .ok (.if_icmp .ge 53, 3) := by decide +kernel
theorem dX12_isPattern_35 : decode cX12_isPattern 35 = .ok (.aload_n 0, 1) := by decide +kernel
theorem dX12_isPattern_36 : decode cX12_isPattern 36 = .ok (.getfield 196, 3) := by decide +kernel
theorem dX12_isPattern_39 : decode cX12_isPattern 39 = .ok (.sipush 210, 3) := by decide +kernel
theorem dX12_isPattern_42 : decode cX12_isPattern 42 = .ok (.iload_n 1, 1) := by decide +kernel
theorem dX12_isPattern_43 : decode cX12_isPattern 43 = .ok (.imul, 1) := by decide +kernel
theorem dX12_isPattern_44 : decode cX12_isPattern 44 = .ok (.iload_n 3, 1) := by decide +kernel
theorem dX12_isPattern_45 : decode cX12_isPattern 45 = .ok (.iadd, 1) := by decide +kernel
theorem dX12_isPattern_46 : decode cX12_isPattern 46 = .ok (.iaload, 1) := by decide +kernel
theorem dX12_isPattern_47 : decode cX12_isPattern 47 = .ok (.aload_n 0, 1) := by decide +kernel
theorem dX12_isPattern_48 : decode cX12_isPattern 48 = .ok (.getfield 217, 3) := by decide +kernel
theorem dX12_isPattern_51 : decode cX12_isPattern 51 = .ok (.iload_n 3, 1) := by decide +kernel
theorem dX12_isPattern_52 : decode cX12_isPattern 52 = .ok (.iaload, 1) := by decide +kernel
theorem dX12_isPattern_53 : decode cX12_isPattern 53 = .ok (.if_icmp .ne 24, 3) := by decide +kernel
theorem dX12_isPattern_56 : decode cX12_isPattern 56 = .ok (.aload_n 0, 1) := by decide +kernel
theorem dX12_isPattern_57 : decode cX12_isPattern 57 = .ok (.getfield 199, 3) := by decide +kernel
theorem dX12_isPattern_60 : decode cX12_isPattern 60 = .ok (.sipush 210, 3) := by decide +kernel
theorem dX12_isPattern_63 : decode cX12_isPattern 63 = .ok (.iload_n 1, 1) := by decide +kernel
theorem dX12_isPattern_64 : decode cX12_isPattern 64 = .ok (.imul, 1) := by decide +kernel
theorem dX12_isPattern_65 : decode cX12_isPattern 65 = .ok (.iload_n 3, 1) := by decide +kernel
theorem dX12_isPattern_66 : decode cX12_isPattern 66 = .ok (.iadd, 1) := by decide +kernel
theorem dX12_isPattern_67 : decode cX12_isPattern 67 = .ok (.iaload, 1) := by decide +kernel
theorem dX12_isPattern_68 : decode cX12_isPattern 68 = .ok (.aload_n 0, 1) := by decide +kernel
theorem dX12_isPattern_69 : decode cX12_isPattern 69 = .ok (.getfield 220, 3) := by decide +kernel
theorem dX12_isPattern_72 : decode cX12_isPattern 72 = .ok (.iload_n 3, 1) := by decide +kernel
theorem dX12_isPattern_73 : decode cX12_isPattern 73 = .ok (.iaload, 1) := by decide +kernel
theorem dX12_isPattern_74 : decode cX12_isPattern 74 = .ok (.if_icmp .eq 5, 3) := by decide +kernel
theorem dX12_isPattern_77 : decode cX12_isPattern 77 = .ok (.iconst 0, 1) := by decide +kernel
theorem dX12_isPattern_78 : decode cX12_isPattern 78 = .ok (.ireturn, 1) := by decide +kernel
theorem dX12_isPattern_79 : decode cX12_isPattern 79 = .ok (.iinc 3 1, 3) := by decide +kernel
theorem dX12_isPattern_82 : decode cX12_isPattern 82 = .ok (.goto (-55), 3) := by decide +kernel
theorem dX12_isPattern_85 : decode cX12_isPattern 85 = .ok (.iconst 1, 1) := by decide +kernel
theorem dX12_isPattern_86 : decode cX12_isPattern 86 = .ok (.ireturn, 1) := by decide +kernel
theorem dX12_variantBy_0 : decode cX12_variantBy 0 = .ok (.iconst 0, 1) := by decide +kernel
theorem dX12_variantBy_1 : decode cX12_variantBy 1 = .ok (.istore_n 2, 1) := by decide +kernel
theorem dX12_variantBy_2 : decode cX12_variantBy 2 = .ok (.iload_n 2, 1) := by decide +kernel
theorem dX12_variantBy_3 : decode cX12_variantBy 3 = .ok (.aload_n 0, 1) := by decide +kernel
theorem dX12_variantBy_4 : decode cX12_variantBy 4 = .ok (.getfield 724, 3) := by decide +kernel
theorem dX12_variantBy_7 : decode cX12_variantBy 7 = .ok (.if_icmp .ge 20, 3) := by decide +kernel
theorem dX12_variantBy_10 : decode cX12_variantBy 10 = .ok (.aload_n 0, 1) := by decide +kernel
theorem dX12_variantBy_11 : decode cX12_variantBy 11 = .ok (.iload_n 2, 1) := by decide +kernel
theorem dX12_variantBy_12 : decode cX12_variantBy 12 = .ok (.iload_n 1, 1) := by decide +kernel
theorem dX12_variantBy_13 : decode cX12_variantBy 13 = .ok (.invokevirtual 727, 3) := by decide +kernel
theorem dX12_variantBy_16 : decode cX12_variantBy 16 = .ok (.ifCond .eq 5, 3) := by decide +kernel
theorem dX12_variantBy_19 : decode cX12_variantBy 19 = .ok (.iload_n 2, 1) := by decide +kernel
theorem dX12_variantBy_20 : decode cX12_variantBy 20 = .ok (.ireturn, 1) := by decide +kernel
theorem dX12_variantBy_21 : decode cX12_variantBy 21 = .ok (.iinc 2 1, 3) := by decide +kernel
theorem dX12_variantBy_24 : decode cX12_variantBy 24 = .ok (.goto (-22), 3) := by decide +kernel
theorem dX12_variantBy_27 : decode cX12_variantBy 27 = .ok (.iconst (-1), 1) := by decide +kernel
theorem dX12_variantBy_28 : decode cX12_variantBy 28 = .ok (.ireturn, 1) := by decide +kernel
theorem dX12_variantsOf_0 : decode cX12_variantsOf 0 = .ok (.iconst 0, 1) := by decide +kernel
theorem dX12_variantsOf_1 : decode cX12_variantsOf 1 = .ok (.istore_n 2, 1) := by decide +kernel
theorem dX12_variantsOf_2 : decode cX12_variantsOf 2 = .ok (.iconst 0, 1) := by decide +kernel
theorem dX12_variantsOf_3 : decode cX12_variantsOf 3 = .ok (.istore_n 3, 1) := by decide +kernel
theorem dX12_variantsOf_4 : decode cX12_variantsOf 4 = .ok (.iload_n 3, 1) := by decide +kernel
theorem dX12_variantsOf_5 : decode cX12_variantsOf 5 = .ok (.aload_n 0, 1) := by decide +kernel
theorem dX12_variantsOf_6 : decode cX12_variantsOf 6 = .ok (.getfield 724, 3) := by decide +kernel
theorem dX12_variantsOf_9 : decode cX12_variantsOf 9 = .ok (.if_icmp .ge 27, 3) := by decide +kernel
theorem dX12_variantsOf_12 : decode cX12_variantsOf 12 = .ok (.iload_n 2, 1) := by decide +kernel
theorem dX12_variantsOf_13 : decode cX12_variantsOf 13 = .ok (.aload_n 0, 1) := by decide +kernel
theorem dX12_variantsOf_14 : decode cX12_variantsOf 14 = .ok (.getfield 187, 3) := by decide +kernel
theorem dX12_variantsOf_17 : decode cX12_variantsOf 17 = .ok (.iload_n 3, 1) := by decide +kernel
theorem dX12_variantsOf_18 : decode cX12_variantsOf 18 = .ok (.iaload, 1) := by decide +kernel
theorem dX12_variantsOf_19 : decode cX12_variantsOf 19 = .ok (.iload_n 1, 1) := by decide +kernel
theorem dX12_variantsOf_20 : decode cX12_variantsOf 20 = .ok (.if_icmp .ne 7, 3) := by decide +kernel
theorem dX12_variantsOf_23 : decode cX12_variantsOf 23 = .ok (.iconst 1, 1) := by decide +kernel
theorem dX12_variantsOf_24 : decode cX12_variantsOf 24 = .ok (.goto 4, 3) := by decide +kernel
theorem dX12_variantsOf_27 : decode cX12_variantsOf 27 = .ok (.iconst 0, 1) := by decide +kernel
theorem dX12_variantsOf_28 : decode cX12_variantsOf 28 = .ok (.iadd, 1) := by decide +kernel
theorem dX12_variantsOf_29 : decode cX12_variantsOf 29 = .ok (.istore_n 2, 1) := by decide +kernel
theorem dX12_variantsOf_30 : decode cX12_variantsOf 30 = .ok (.iinc 3 1, 3) := by decide +kernel
theorem dX12_variantsOf_33 : decode cX12_variantsOf 33 = .ok (.goto (-29), 3) := by decide +kernel
theorem dX12_variantsOf_36 : decode cX12_variantsOf 36 = .ok (.iload_n 2, 1) := by decide +kernel
theorem dX12_variantsOf_37 : decode cX12_variantsOf 37 = .ok (.ireturn, 1) := by decide +kernel
theorem dX12_newVariant_0 : decode cX12_newVariant 0 = .ok (.aload_n 0, 1) := by decide +kernel
theorem dX12_newVariant_1 : decode cX12_newVariant 1 = .ok (.getfield 724, 3) := by decide +kernel
theorem dX12_newVariant_4 : decode cX12_newVariant 4 = .ok (.bipush 24, 2) := by decide +kernel
theorem dX12_newVariant_6 : decode cX12_newVariant 6 = .ok (.if_icmp .ne 11, 3) := by decide +kernel
theorem dX12_newVariant_9 : decode cX12_newVariant 9 = .ok (.aload_n 0, 1) := by decide +kernel
theorem dX12_newVariant_10 : decode cX12_newVariant 10 = .ok (.bipush (-4), 2) := by decide +kernel
theorem dX12_newVariant_12 : decode cX12_newVariant 12 = .ok (.putfield 557, 3) := by decide +kernel
theorem dX12_newVariant_15 : decode cX12_newVariant 15 = .ok (.iconst (-1), 1) := by decide +kernel
theorem dX12_newVariant_16 : decode cX12_newVariant 16 = .ok (.ireturn, 1) := by decide +kernel
theorem dX12_newVariant_17 : decode cX12_newVariant 17 = .ok (.aload_n 0, 1) := by decide +kernel
theorem dX12_newVariant_18 : decode cX12_newVariant 18 = .ok (.getfield 724, 3) := by decide +kernel
theorem dX12_newVariant_21 : decode cX12_newVariant 21 = .ok (.istore_n 3, 1) := by decide +kernel
theorem dX12_newVariant_22 : decode cX12_newVariant 22 = .ok (.aload_n 0, 1) := by decide +kernel
theorem dX12_newVariant_23 : decode cX12_newVariant 23 = .ok (.dup, 1) := by decide +kernel
theorem dX12_newVariant_24 : decode cX12_newVariant 24 = .ok (.getfield 724, 3) := by decide +kernel
theorem dX12_newVariant_27 : decode cX12_newVariant 27 = .ok (.iconst 1, 1) := by decide +kernel
theorem dX12_newVariant_28 : decode cX12_newVariant 28 = .ok (.iadd, 1) := by decide +kernel
theorem dX12_newVariant_29 : decode cX12_newVariant 29 = .ok (.putfield 724, 3) := by decide +kernel
theorem dX12_newVariant_32 : decode cX12_newVariant 32 = .ok (.aload_n 0, 1) := by decide +kernel
theorem dX12_newVariant_33 : decode cX12_newVariant 33 = .ok (.getfield 187, 3) := by decide +kernel
theorem dX12_newVariant_36 : decode cX12_newVariant 36 = .ok (.iload_n 3, 1) := by decide +kernel
theorem dX12_newVariant_37 : decode cX12_newVariant 37 = .ok (.iload_n 1, 1) := by decide +kernel
theorem dX12_newVariant_38 : decode cX12_newVariant 38 = .ok (.iastore, 1) := by decide +kernel
theorem dX12_newVariant_39 : decode cX12_newVariant 39 = .ok (.aload_n 0, 1) := by decide +kernel
theorem dX12_newVariant_40 : decode cX12_newVariant 40 = .ok (.getfield 214, 3) := by decide +kernel
theorem dX12_newVariant_43 : decode cX12_newVariant 43 = .ok (.iload_n 3, 1) := by decide +kernel
theorem dX12_newVariant_44 : decode cX12_newVariant 44 = .ok (.iload_n 2, 1) := by decide +kernel
theorem dX12_newVariant_45 : decode cX12_newVariant 45 = .ok (.iastore, 1) := by decide +kernel
theorem dX12_newVariant_46 : decode cX12_newVariant 46 = .ok (.aload_n 0, 1) := by decide +kernel
theorem dX12_newVariant_47 : decode cX12_newVariant 47 = .ok (.getfield 190, 3) := by decide +kernel
theorem dX12_newVariant_50 : decode cX12_newVariant 50 = .ok (.iload_n 3, 1) := by decide +kernel
theorem dX12_newVariant_51 : decode cX12_newVariant 51 = .ok (.aload_n 0, 1) := by decide +kernel
theorem dX12_newVariant_52 : decode cX12_newVariant 52 = .ok (.getfield 707, 3) := by decide +kernel
theorem dX12_newVariant_55 : decode cX12_newVariant 55 = .ok (.iastore, 1) := by decide +kernel
theorem dX12_newVariant_56 : decode cX12_newVariant 56 = .ok (.aload_n 0, 1) := by decide +kernel
theorem dX12_newVariant_57 : decode cX12_newVariant 57 = .ok (.getfield 193, 3) := by decide +kernel
theorem dX12_newVariant_60 : decode cX12_newVariant 60 = .ok (.iload_n 3, 1) := by decide +kernel
theorem dX12_newVariant_61 : decode cX12_newVariant 61 = .ok (.aload_n 0, 1) := by decide +kernel
theorem dX12_newVariant_62 : decode cX12_newVariant 62 = .ok (.invokevirtual 730, 3) := by decide +kernel
theorem dX12_newVariant_65 : decode cX12_newVariant 65 = .ok (.iastore, 1) := by decide +kernel
theorem dX12_newVariant_66 : decode cX12_newVariant 66 = .ok (.aload_n 0, 1) := by decide +kernel
theorem dX12_newVariant_67 : decode cX12_newVariant 67 = .ok (.getfield 217, 3) := by decide +kernel
theorem dX12_newVariant_70 : decode cX12_newVariant 70 = .ok (.iconst 0, 1) := by decide +kernel
theorem dX12_newVariant_71 : decode cX12_newVariant 71 = .ok (.aload_n 0, 1) := by decide +kernel
theorem dX12_newVariant_72 : decode cX12_newVariant 72 = .ok (.getfield 707, 3) := by decide +kernel
theorem dX12_newVariant_75 : decode cX12_newVariant 75 = .ok (.aload_n 0, 1) := by decide +kernel
theorem dX12_newVariant_76 : decode cX12_newVariant 76 = .ok (.getfield 196, 3) := by decide +kernel
theorem dX12_newVariant_79 : decode cX12_newVariant 79 = .ok (.sipush 210, 3) := by decide +kernel
theorem dX12_newVariant_82 : decode cX12_newVariant 82 = .ok (.iload_n 3, 1) := by decide +kernel
theorem dX12_newVariant_83 : decode cX12_newVariant 83 = .ok (.imul, 1) := by decide +kernel
theorem dX12_newVariant_84 : decode cX12_newVariant 84 = .ok (.invokestatic 471, 3) := by decide +kernel
theorem dX12_newVariant_87 : decode cX12_newVariant 87 = .ok (.aload_n 0, 1) := by decide +kernel
theorem dX12_newVariant_88 : decode cX12_newVariant 88 = .ok (.getfield 220, 3) := by decide +kernel
theorem dX12_newVariant_91 : decode cX12_newVariant 91 = .ok (.iconst 0, 1) := by decide +kernel
theorem dX12_newVariant_92 : decode cX12_newVariant 92 = .ok (.aload_n 0, 1) := by decide +kernel
theorem dX12_newVariant_93 : decode cX12_newVariant 93 = .ok (.getfield 707, 3) := by decide +kernel
theorem dX12_newVariant_96 : decode cX12_newVariant 96 = .ok (.aload_n 0, 1) := by decide +kernel
theorem dX12_newVariant_97 : decode cX12_newVariant 97 = .ok (.getfield 199, 3) := by decide +kernel
theorem dX12_newVariant_100 : decode cX12_newVariant 100 = .ok (.sipush 210, 3) := by decide +kernel
theorem dX12_newVariant_103 : decode cX12_newVariant 103 = .ok (.iload_n 3, 1) := by decide +kernel
theorem dX12_newVariant_104 : decode cX12_newVariant 104 = .ok (.imul, 1) := by decide +kernel
theorem dX12_newVariant_105 : decode cX12_newVariant 105 = .ok (.invokestatic 471, 3) := by decide +kernel
theorem dX12_newVariant_108 : decode cX12_newVariant 108 = .ok (.iload_n 3, 1) := by decide +kernel
theorem dX12_newVariant_109 : decode cX12_newVariant 109 = .ok (.ireturn, 1) := by decide +kernel
theorem dX12_thinkCall_0 : decode cX12_thinkCall 0 = .ok (.iload_n 1, 1) := by decide +kernel
theorem dX12_thinkCall_1 : decode cX12_thinkCall 1 = .ok (.iconst (-1), 1) := by decide +kernel
theorem dX12_thinkCall_2 : decode cX12_thinkCall 2 = .ok (.if_icmp .ne 30, 3) := by decide +kernel
theorem dX12_thinkCall_5 : decode cX12_thinkCall 5 = .ok (.aload_n 0, 1) := by decide +kernel
theorem dX12_thinkCall_6 : decode cX12_thinkCall 6 = .ok (.bipush 12, 2) := by decide +kernel
theorem dX12_thinkCall_8 : decode cX12_thinkCall 8 = .ok (.iconst 1, 1) := by decide +kernel
theorem dX12_thinkCall_9 : decode cX12_thinkCall 9 = .ok (.invokevirtual 639, 3) := by decide +kernel
theorem dX12_thinkCall_12 : decode cX12_thinkCall 12 = .ok (.istore_n 3, 1) := by decide +kernel
theorem dX12_thinkCall_13 : decode cX12_thinkCall 13 = .ok (.aload_n 0, 1) := by decide +kernel
theorem dX12_thinkCall_14 : decode cX12_thinkCall 14 = .ok (.getfield 557, 3) := by decide +kernel
theorem dX12_thinkCall_17 : decode cX12_thinkCall 17 = .ok (.ifCond .ne 12, 3) := by decide +kernel
theorem dX12_thinkCall_20 : decode cX12_thinkCall 20 = .ok (.aload_n 0, 1) := by decide +kernel
theorem dX12_thinkCall_21 : decode cX12_thinkCall 21 = .ok (.aload_n 0, 1) := by decide +kernel
theorem dX12_thinkCall_22 : decode cX12_thinkCall 22 = .ok (.iload_n 3, 1) := by decide +kernel
theorem dX12_thinkCall_23 : decode cX12_thinkCall 23 = .ok (.invokevirtual 643, 3) := by decide +kernel
theorem dX12_thinkCall_26 : decode cX12_thinkCall 26 = .ok (.invokevirtual 585, 3) := by decide +kernel
theorem dX12_thinkCall_29 : decode cX12_thinkCall 29 = .ok (.goto 74, 3) := by decide +kernel
theorem dX12_thinkCall_32 : decode cX12_thinkCall 32 = .ok (.aload_n 0, 1) := by decide +kernel
theorem dX12_thinkCall_33 : decode cX12_thinkCall 33 = .ok (.getfield 612, 3) := by decide +kernel
theorem dX12_thinkCall_36 : decode cX12_thinkCall 36 = .ok (.ifCond .ne 61, 3) := by decide +kernel
theorem dX12_thinkCall_39 : decode cX12_thinkCall 39 = .ok (.aload_n 0, 1) := by decide +kernel
theorem dX12_thinkCall_40 : decode cX12_thinkCall 40 = .ok (.getfield 679, 3) := by decide +kernel
theorem dX12_thinkCall_43 : decode cX12_thinkCall 43 = .ok (.aload_n 0, 1) := by decide +kernel
theorem dX12_thinkCall_44 : decode cX12_thinkCall 44 = .ok (.getfield 102, 3) := by decide +kernel
theorem dX12_thinkCall_47 : decode cX12_thinkCall 47 = .ok (.iconst 0, 1) := by decide +kernel
theorem dX12_thinkCall_48 : decode cX12_thinkCall 48 = .ok (.iaload, 1) := by decide +kernel
theorem dX12_thinkCall_49 : decode cX12_thinkCall 49 = .ok (.if_icmp .ge 48, 3) := by decide +kernel
theorem dX12_thinkCall_52 : decode cX12_thinkCall 52 = .ok (.aload_n 0, 1) := by decide +kernel
theorem dX12_thinkCall_53 : decode cX12_thinkCall 53 = .ok (.getfield 733, 3) := by decide +kernel
theorem dX12_thinkCall_56 : decode cX12_thinkCall 56 = .ok (.sipush 200, 3) := by decide +kernel
theorem dX12_thinkCall_59 : decode cX12_thinkCall 59 = .ok (.if_icmp .ne 10, 3) := by decide +kernel
theorem dX12_thinkCall_62 : decode cX12_thinkCall 62 = .ok (.aload_n 0, 1) := by decide +kernel
theorem dX12_thinkCall_63 : decode cX12_thinkCall 63 = .ok (.bipush (-3), 2) := by decide +kernel
theorem dX12_thinkCall_65 : decode cX12_thinkCall 65 = .ok (.putfield 557, 3) := by decide +kernel
theorem dX12_thinkCall_68 : decode cX12_thinkCall 68 = .ok (.return_, 1) := by decide +kernel
theorem dX12_thinkCall_69 : decode cX12_thinkCall 69 = .ok (.aload_n 0, 1) := by decide +kernel
theorem dX12_thinkCall_70 : decode cX12_thinkCall 70 = .ok (.dup, 1) := by decide +kernel
theorem dX12_thinkCall_71 : decode cX12_thinkCall 71 = .ok (.getfield 733, 3) := by decide +kernel
theorem dX12_thinkCall_74 : decode cX12_thinkCall 74 = .ok (.iconst 1, 1) := by decide +kernel
theorem dX12_thinkCall_75 : decode cX12_thinkCall 75 = .ok (.iadd, 1) := by decide +kernel
theorem dX12_thinkCall_76 : decode cX12_thinkCall 76 = .ok (.putfield 733, 3) := by decide +kernel
theorem dX12_thinkCall_79 : decode cX12_thinkCall 79 = .ok (.aload_n 0, 1) := by decide +kernel
theorem dX12_thinkCall_80 : decode cX12_thinkCall 80 = .ok (.dup, 1) := by decide +kernel
theorem dX12_thinkCall_81 : decode cX12_thinkCall 81 = .ok (.getfield 679, 3) := by decide +kernel
theorem dX12_thinkCall_84 : decode cX12_thinkCall 84 = .ok (.iconst 1, 1) := by decide +kernel
theorem dX12_thinkCall_85 : decode cX12_thinkCall 85 = .ok (.iadd, 1) := by decide +kernel
theorem dX12_thinkCall_86 : decode cX12_thinkCall 86 = .ok (.putfield 679, 3) := by decide +kernel
theorem dX12_thinkCall_89 : decode cX12_thinkCall 89 = .ok (.aload_n 0, 1) := by decide +kernel
theorem dX12_thinkCall_90 : decode cX12_thinkCall 90 = .ok (.iload_n 1, 1) := by decide +kernel
theorem dX12_thinkCall_91 : decode cX12_thinkCall 91 = .ok (.invokevirtual 676, 3) := by decide +kernel
theorem dX12_thinkCall_94 : decode cX12_thinkCall 94 = .ok (.goto 9, 3) := by decide +kernel
theorem dX12_thinkCall_97 : decode cX12_thinkCall 97 = .ok (.aload_n 0, 1) := by decide +kernel
theorem dX12_thinkCall_98 : decode cX12_thinkCall 98 = .ok (.iload_n 1, 1) := by decide +kernel
theorem dX12_thinkCall_99 : decode cX12_thinkCall 99 = .ok (.iload_n 2, 1) := by decide +kernel
theorem dX12_thinkCall_100 : decode cX12_thinkCall 100 = .ok (.invokevirtual 736, 3) := by decide +kernel
theorem dX12_thinkCall_103 : decode cX12_thinkCall 103 = .ok (.return_, 1) := by decide +kernel
theorem dX12_layStars_0 : decode cX12_layStars 0 = .ok (.iconst 0, 1) := by decide +kernel
theorem dX12_layStars_1 : decode cX12_layStars 1 = .ok (.istore_n 2, 1) := by decide +kernel
theorem dX12_layStars_2 : decode cX12_layStars 2 = .ok (.iload_n 2, 1) := by decide +kernel
theorem dX12_layStars_3 : decode cX12_layStars 3 = .ok (.iload_n 1, 1) := by decide +kernel
theorem dX12_layStars_4 : decode cX12_layStars 4 = .ok (.if_icmp .ge 35, 3) := by decide +kernel
theorem dX12_layStars_7 : decode cX12_layStars 7 = .ok (.aload_n 0, 1) := by decide +kernel
theorem dX12_layStars_8 : decode cX12_layStars 8 = .ok (.getfield 217, 3) := by decide +kernel
theorem dX12_layStars_11 : decode cX12_layStars 11 = .ok (.iload_n 2, 1) := by decide +kernel
theorem dX12_layStars_12 : decode cX12_layStars 12 = .ok (.iconst 3, 1) := by decide +kernel
theorem dX12_layStars_13 : decode cX12_layStars 13 = .ok (.iastore, 1) := by decide +kernel
theorem dX12_layStars_14 : decode cX12_layStars 14 = .ok (.aload_n 0, 1) := by decide +kernel
theorem dX12_layStars_15 : decode cX12_layStars 15 = .ok (.getfield 220, 3) := by decide +kernel
theorem dX12_layStars_18 : decode cX12_layStars 18 = .ok (.iload_n 2, 1) := by decide +kernel
theorem dX12_layStars_19 : decode cX12_layStars 19 = .ok (.iconst 0, 1) := by decide +kernel
theorem dX12_layStars_20 : decode cX12_layStars 20 = .ok (.iastore, 1) := by decide +kernel
theorem dX12_layStars_21 : decode cX12_layStars 21 = .ok (.aload_n 0, 1) := by decide +kernel
theorem dX12_layStars_22 : decode cX12_layStars 22 = .ok (.getfield 223, 3) := by decide +kernel
theorem dX12_layStars_25 : decode cX12_layStars 25 = .ok (.iload_n 2, 1) := by decide +kernel
theorem dX12_layStars_26 : decode cX12_layStars 26 = .ok (.aload_n 0, 1) := by decide +kernel
theorem dX12_layStars_27 : decode cX12_layStars 27 = .ok (.getfield 151, 3) := by decide +kernel
theorem dX12_layStars_30 : decode cX12_layStars 30 = .ok (.iload_n 2, 1) := by decide +kernel
theorem dX12_layStars_31 : decode cX12_layStars 31 = .ok (.iaload, 1) := by decide +kernel
theorem dX12_layStars_32 : decode cX12_layStars 32 = .ok (.iastore, 1) := by decide +kernel
theorem dX12_layStars_33 : decode cX12_layStars 33 = .ok (.iinc 2 1, 3) := by decide +kernel
theorem dX12_layStars_36 : decode cX12_layStars 36 = .ok (.goto (-34), 3) := by decide +kernel
theorem dX12_layStars_39 : decode cX12_layStars 39 = .ok (.aload_n 0, 1) := by decide +kernel
theorem dX12_layStars_40 : decode cX12_layStars 40 = .ok (.iload_n 1, 1) := by decide +kernel
theorem dX12_layStars_41 : decode cX12_layStars 41 = .ok (.putfield 707, 3) := by decide +kernel
theorem dX12_layStars_44 : decode cX12_layStars 44 = .ok (.return_, 1) := by decide +kernel
theorem dX12_leaveCall_0 : decode cX12_leaveCall 0 = .ok (.aload_n 0, 1) := by decide +kernel
theorem dX12_leaveCall_1 : decode cX12_leaveCall 1 = .ok (.iload_n 2, 1) := by decide +kernel
theorem dX12_leaveCall_2 : decode cX12_leaveCall 2 = .ok (.invokevirtual 739, 3) := by decide +kernel
theorem dX12_leaveCall_5 : decode cX12_leaveCall 5 = .ok (.aload_n 0, 1) := by decide +kernel
theorem dX12_leaveCall_6 : decode cX12_leaveCall 6 = .ok (.getfield 742, 3) := by decide +kernel
theorem dX12_leaveCall_9 : decode cX12_leaveCall 9 = .ok (.istore_n 3, 1) := by decide +kernel
theorem dX12_leaveCall_10 : decode cX12_leaveCall 10 = .ok (.iload_n 3, 1) := by decide +kernel
theorem dX12_leaveCall_11 : decode cX12_leaveCall 11 = .ok (.iconst (-1), 1) := by decide +kernel
theorem dX12_leaveCall_12 : decode cX12_leaveCall 12 = .ok (.if_icmp .eq 28, 3) := by decide +kernel
theorem dX12_leaveCall_15 : decode cX12_leaveCall 15 = .ok (.aload_n 0, 1) := by decide +kernel
theorem dX12_leaveCall_16 : decode cX12_leaveCall 16 = .ok (.getfield 187, 3) := by decide +kernel
theorem dX12_leaveCall_19 : decode cX12_leaveCall 19 = .ok (.iload_n 3, 1) := by decide +kernel
theorem dX12_leaveCall_20 : decode cX12_leaveCall 20 = .ok (.iaload, 1) := by decide +kernel
theorem dX12_leaveCall_21 : decode cX12_leaveCall 21 = .ok (.iload_n 1, 1) := by decide +kernel
theorem dX12_leaveCall_22 : decode cX12_leaveCall 22 = .ok (.if_icmp .ne 8, 3) := by decide +kernel
theorem dX12_leaveCall_25 : decode cX12_leaveCall 25 = .ok (.aload_n 0, 1) := by decide +kernel
theorem dX12_leaveCall_26 : decode cX12_leaveCall 26 = .ok (.iload_n 3, 1) := by decide +kernel
theorem dX12_leaveCall_27 : decode cX12_leaveCall 27 = .ok (.invokevirtual 745, 3) := by decide +kernel
theorem dX12_leaveCall_30 : decode cX12_leaveCall 30 = .ok (.aload_n 0, 1) := by decide +kernel
theorem dX12_leaveCall_31 : decode cX12_leaveCall 31 = .ok (.getfield 214, 3) := by decide +kernel
theorem dX12_leaveCall_34 : decode cX12_leaveCall 34 = .ok (.iload_n 3, 1) := by decide +kernel
theorem dX12_leaveCall_35 : decode cX12_leaveCall 35 = .ok (.iaload, 1) := by decide +kernel
theorem dX12_leaveCall_36 : decode cX12_leaveCall 36 = .ok (.istore_n 3, 1) := by decide +kernel
theorem dX12_leaveCall_37 : decode cX12_leaveCall 37 = .ok (.goto (-27), 3) := by decide +kernel
theorem dX12_leaveCall_40 : decode cX12_leaveCall 40 = .ok (.aload_n 0, 1) := by decide +kernel
theorem dX12_leaveCall_41 : decode cX12_leaveCall 41 = .ok (.iload_n 1, 1) := by decide +kernel
theorem dX12_leaveCall_42 : decode cX12_leaveCall 42 = .ok (.invokevirtual 748, 3) := by decide +kernel
theorem dX12_leaveCall_45 : decode cX12_leaveCall 45 = .ok (.istore_n 3, 1) := by decide +kernel
theorem dX12_leaveCall_46 : decode cX12_leaveCall 46 = .ok (.iload_n 3, 1) := by decide +kernel
theorem dX12_leaveCall_47 : decode cX12_leaveCall 47 = .ok (.iconst (-1), 1) := by decide +kernel
theorem dX12_leaveCall_48 : decode cX12_leaveCall 48 = .ok (.if_icmp .ne 60, 3) := by decide +kernel
theorem dX12_leaveCall_51 : decode cX12_leaveCall 51 = .ok (.aload_n 0, 1) := by decide +kernel
theorem dX12_leaveCall_52 : decode cX12_leaveCall 52 = .ok (.iload_n 1, 1) := by decide +kernel
theorem dX12_leaveCall_53 : decode cX12_leaveCall 53 = .ok (.invokevirtual 751, 3) := by decide +kernel
theorem dX12_leaveCall_56 : decode cX12_leaveCall 56 = .ok (.aload_n 0, 1) := by decide +kernel
theorem dX12_leaveCall_57 : decode cX12_leaveCall 57 = .ok (.getfield 102, 3) := by decide +kernel
theorem dX12_leaveCall_60 : decode cX12_leaveCall 60 = .ok (.iconst 1, 1) := by decide +kernel
theorem dX12_leaveCall_61 : decode cX12_leaveCall 61 = .ok (.iaload, 1) := by decide +kernel
theorem dX12_leaveCall_62 : decode cX12_leaveCall 62 = .ok (.if_icmp .ge 25, 3) := by decide +kernel
theorem dX12_leaveCall_65 : decode cX12_leaveCall 65 = .ok (.aload_n 0, 1) := by decide +kernel
theorem dX12_leaveCall_66 : decode cX12_leaveCall 66 = .ok (.getfield 688, 3) := by decide +kernel
theorem dX12_leaveCall_69 : decode cX12_leaveCall 69 = .ok (.aload_n 0, 1) := by decide +kernel
theorem dX12_leaveCall_70 : decode cX12_leaveCall 70 = .ok (.getfield 102, 3) := by decide +kernel
theorem dX12_leaveCall_73 : decode cX12_leaveCall 73 = .ok (.iconst 2, 1) := by decide +kernel
theorem dX12_leaveCall_74 : decode cX12_leaveCall 74 = .ok (.iaload, 1) := by decide +kernel
theorem dX12_leaveCall_75 : decode cX12_leaveCall 75 = .ok (.if_icmp .ge 12, 3) := by decide +kernel
theorem dX12_leaveCall_78 : decode cX12_leaveCall 78 = .ok (.aload_n 0, 1) := by decide +kernel
theorem dX12_leaveCall_79 : decode cX12_leaveCall 79 = .ok (.invokevirtual 730, 3) := by decide +kernel
theorem dX12_leaveCall_82 : decode cX12_leaveCall 82 = .ok (.bipush 8, 2) := by decide +kernel
theorem dX12_leaveCall_84 : decode cX12_leaveCall 84 = .ok (.if_icmp .le 24, 3) := by decide +kernel
theorem dX12_leaveCall_87 : decode cX12_leaveCall 87 = .ok (.aload_n 0, 1) := by decide +kernel
theorem dX12_leaveCall_88 : decode cX12_leaveCall 88 = .ok (.iload_n 2, 1) := by decide +kernel
theorem dX12_leaveCall_89 : decode cX12_leaveCall 89 = .ok (.invokevirtual 754, 3) := by decide +kernel
theorem dX12_leaveCall_92 : decode cX12_leaveCall 92 = .ok (.aload_n 0, 1) := by decide +kernel
theorem dX12_leaveCall_93 : decode cX12_leaveCall 93 = .ok (.dup, 1) := by decide +kernel
theorem dX12_leaveCall_94 : decode cX12_leaveCall 94 = .ok (.getfield 757, 3) := by decide +kernel
theorem dX12_leaveCall_97 : decode cX12_leaveCall 97 = .ok (.iconst 1, 1) := by decide +kernel
theorem dX12_leaveCall_98 : decode cX12_leaveCall 98 = .ok (.iadd, 1) := by decide +kernel
theorem dX12_leaveCall_99 : decode cX12_leaveCall 99 = .ok (.putfield 757, 3) := by decide +kernel
theorem dX12_leaveCall_102 : decode cX12_leaveCall 102 = .ok (.aload_n 0, 1) := by decide +kernel
theorem dX12_leaveCall_103 : decode cX12_leaveCall 103 = .ok (.iload_n 1, 1) := by decide +kernel
theorem dX12_leaveCall_104 : decode cX12_leaveCall 104 = .ok (.invokevirtual 748, 3) := by decide +kernel
theorem dX12_leaveCall_107 : decode cX12_leaveCall 107 = .ok (.istore_n 3, 1) := by decide +kernel
theorem dX12_leaveCall_108 : decode cX12_leaveCall 108 = .ok (.iload_n 3, 1) := by decide +kernel
theorem dX12_leaveCall_109 : decode cX12_leaveCall 109 = .ok (.iconst (-1), 1) := by decide +kernel
theorem dX12_leaveCall_110 : decode cX12_leaveCall 110 = .ok (.if_icmp .ne 13, 3) := by decide +kernel
theorem dX12_leaveCall_113 : decode cX12_leaveCall 113 = .ok (.aload_n 0, 1) := by decide +kernel
theorem dX12_leaveCall_114 : decode cX12_leaveCall 114 = .ok (.iload_n 1, 1) := by decide +kernel
theorem dX12_leaveCall_115 : decode cX12_leaveCall 115 = .ok (.aload_n 0, 1) := by decide +kernel
theorem dX12_leaveCall_116 : decode cX12_leaveCall 116 = .ok (.getfield 742, 3) := by decide +kernel
theorem dX12_leaveCall_119 : decode cX12_leaveCall 119 = .ok (.invokevirtual 760, 3) := by decide +kernel
theorem dX12_leaveCall_122 : decode cX12_leaveCall 122 = .ok (.istore_n 3, 1) := by decide +kernel
theorem dX12_leaveCall_123 : decode cX12_leaveCall 123 = .ok (.iconst 0, 1) := by decide +kernel
theorem dX12_leaveCall_124 : decode cX12_leaveCall 124 = .ok (.istore 4, 2) := by decide +kernel
theorem dX12_leaveCall_126 : decode cX12_leaveCall 126 = .ok (.iconst 0, 1) := by decide +kernel
theorem dX12_leaveCall_127 : decode cX12_leaveCall 127 = .ok (.istore 5, 2) := by decide +kernel
theorem dX12_leaveCall_129 : decode cX12_leaveCall 129 = .ok (.iload 5, 2) := by decide +kernel
theorem dX12_leaveCall_131 : decode cX12_leaveCall 131 = .ok (.aload_n 0, 1) := by decide +kernel
theorem dX12_leaveCall_132 : decode cX12_leaveCall 132 = .ok (.getfield 707, 3) := by decide +kernel
theorem dX12_leaveCall_135 : decode cX12_leaveCall 135 = .ok (.if_icmp .ge 51, 3) := by decide +kernel
theorem dX12_leaveCall_138 : decode cX12_leaveCall 138 = .ok (.aload_n 0, 1) := by decide +kernel
theorem dX12_leaveCall_139 : decode cX12_leaveCall 139 = .ok (.getfield 557, 3) := by decide +kernel
theorem dX12_leaveCall_142 : decode cX12_leaveCall 142 = .ok (.ifCond .ne 44, 3) := by decide +kernel
theorem dX12_leaveCall_145 : decode cX12_leaveCall 145 = .ok (.aload_n 0, 1) := by decide +kernel
theorem dX12_leaveCall_146 : decode cX12_leaveCall 146 = .ok (.getfield 217, 3) := by decide +kernel
theorem dX12_leaveCall_149 : decode cX12_leaveCall 149 = .ok (.iload 5, 2) := by decide +kernel
theorem dX12_leaveCall_151 : decode cX12_leaveCall 151 = .ok (.iaload, 1) := by decide +kernel
theorem dX12_leaveCall_152 : decode cX12_leaveCall 152 = .ok (.iconst 3, 1) := by decide +kernel
theorem dX12_leaveCall_153 : decode cX12_leaveCall 153 = .ok (.if_icmp .eq 6, 3) := by decide +kernel
theorem dX12_leaveCall_156 : decode cX12_leaveCall 156 = .ok (.goto 24, 3) := by decide +kernel
theorem dX12_leaveCall_159 : decode cX12_leaveCall 159 = .ok (.aload_n 0, 1) := by decide +kernel
theorem dX12_leaveCall_160 : decode cX12_leaveCall 160 = .ok (.getfield 223, 3) := by decide +kernel
theorem dX12_leaveCall_163 : decode cX12_leaveCall 163 = .ok (.iload 4, 2) := by decide +kernel
theorem dX12_leaveCall_165 : decode cX12_leaveCall 165 = .ok (.aload_n 0, 1) := by decide +kernel
theorem dX12_leaveCall_166 : decode cX12_leaveCall 166 = .ok (.aload_n 0, 1) := by decide +kernel
theorem dX12_leaveCall_167 : decode cX12_leaveCall 167 = .ok (.getfield 223, 3) := by decide +kernel
theorem dX12_leaveCall_170 : decode cX12_leaveCall 170 = .ok (.iload 5, 2) := by decide +kernel
theorem dX12_leaveCall_172 : decode cX12_leaveCall 172 = .ok (.iaload, 1) := by decide +kernel
theorem dX12_leaveCall_173 : decode cX12_leaveCall 173 = .ok (.invokevirtual 701, 3) := by decide +kernel
theorem dX12_leaveCall_176 : decode cX12_leaveCall 176 = .ok (.iastore, 1) := by decide +kernel
theorem dX12_leaveCall_177 : decode cX12_leaveCall 177 = .ok (.iinc 4 1, 3) := by decide +kernel
theorem dX12_leaveCall_180 : decode cX12_leaveCall 180 = .ok (.iinc 5 1, 3) := by decide +kernel
theorem dX12_leaveCall_183 : decode cX12_leaveCall 183 = .ok (.goto (-54), 3) := by decide +kernel
theorem dX12_leaveCall_186 : decode cX12_leaveCall 186 = .ok (.aload_n 0, 1) := by decide +kernel
theorem dX12_leaveCall_187 : decode cX12_leaveCall 187 = .ok (.getfield 557, 3) := by decide +kernel
theorem dX12_leaveCall_190 : decode cX12_leaveCall 190 = .ok (.ifCond .eq 4, 3) := by decide +kernel
theorem dX12_leaveCall_193 : decode cX12_leaveCall 193 = .ok (.return_, 1) := by decide +kernel
theorem dX12_leaveCall_194 : decode cX12_leaveCall 194 = .ok (.aload_n 0, 1) := by decide +kernel
theorem dX12_leaveCall_195 : decode cX12_leaveCall 195 = .ok (.bipush 11, 2) := by decide +kernel
theorem dX12_leaveCall_197 : decode cX12_leaveCall 197 = .ok (.iconst 1, 1) := by decide +kernel
theorem dX12_leaveCall_198 : decode cX12_leaveCall 198 = .ok (.invokevirtual 639, 3) := by decide +kernel
theorem dX12_leaveCall_201 : decode cX12_leaveCall 201 = .ok (.istore 5, 2) := by decide +kernel
theorem dX12_leaveCall_203 : decode cX12_leaveCall 203 = .ok (.aload_n 0, 1) := by decide +kernel
theorem dX12_leaveCall_204 : decode cX12_leaveCall 204 = .ok (.getfield 557, 3) := by decide +kernel
theorem dX12_leaveCall_207 : decode cX12_leaveCall 207 = .ok (.ifCond .eq 4, 3) := by decide +kernel
theorem dX12_leaveCall_210 : decode cX12_leaveCall 210 = .ok (.return_, 1) := by decide +kernel
theorem dX12_leaveCall_211 : decode cX12_leaveCall 211 = .ok (.aload_n 0, 1) := by decide +kernel
theorem dX12_leaveCall_212 : decode cX12_leaveCall 212 = .ok (.getfield 160, 3) := by decide +kernel
theorem dX12_leaveCall_215 : decode cX12_leaveCall 215 = .ok (.iload 5, 2) := by decide +kernel
theorem dX12_leaveCall_217 : decode cX12_leaveCall 217 = .ok (.iload_n 3, 1) := by decide +kernel
theorem dX12_leaveCall_218 : decode cX12_leaveCall 218 = .ok (.iastore, 1) := by decide +kernel
theorem dX12_leaveCall_219 : decode cX12_leaveCall 219 = .ok (.iconst 0, 1) := by decide +kernel
theorem dX12_leaveCall_220 : decode cX12_leaveCall 220 = .ok (.istore 6, 2) := by decide +kernel
theorem dX12_leaveCall_222 : decode cX12_leaveCall 222 = .ok (.iload 6, 2) := by decide +kernel
theorem dX12_leaveCall_224 : decode cX12_leaveCall 224 = .ok (.iload 4, 2) := by decide +kernel
theorem dX12_leaveCall_226 : decode cX12_leaveCall 226 = .ok (.if_icmp .ge 22, 3) := by decide +kernel
theorem dX12_leaveCall_229 : decode cX12_leaveCall 229 = .ok (.aload_n 0, 1) := by decide +kernel
theorem dX12_leaveCall_230 : decode cX12_leaveCall 230 = .ok (.iload 5, 2) := by decide +kernel
theorem dX12_leaveCall_232 : decode cX12_leaveCall 232 = .ok (.aload_n 0, 1) := by decide +kernel
theorem dX12_leaveCall_233 : decode cX12_leaveCall 233 = .ok (.getfield 223, 3) := by decide +kernel
theorem dX12_leaveCall_236 : decode cX12_leaveCall 236 = .ok (.iload 6, 2) := by decide +kernel
theorem dX12_leaveCall_238 : decode cX12_leaveCall 238 = .ok (.iaload, 1) := by decide +kernel
theorem dX12_leaveCall_239 : decode cX12_leaveCall 239 = .ok (.invokevirtual 609, 3) := by decide +kernel
theorem dX12_leaveCall_242 : decode cX12_leaveCall 242 = .ok (.iinc 6 1, 3) := by decide +kernel
theorem dX12_leaveCall_245 : decode cX12_leaveCall 245 = .ok (.goto (-23), 3) := by decide +kernel
theorem dX12_leaveCall_248 : decode cX12_leaveCall 248 = .ok (.aload_n 0, 1) := by decide +kernel
theorem dX12_leaveCall_249 : decode cX12_leaveCall 249 = .ok (.aload_n 0, 1) := by decide +kernel
theorem dX12_leaveCall_250 : decode cX12_leaveCall 250 = .ok (.iload 5, 2) := by decide +kernel
theorem dX12_leaveCall_252 : decode cX12_leaveCall 252 = .ok (.invokevirtual 643, 3) := by decide +kernel
theorem dX12_leaveCall_255 : decode cX12_leaveCall 255 = .ok (.invokevirtual 585, 3) := by decide +kernel
theorem dX12_leaveCall_258 : decode cX12_leaveCall 258 = .ok (.return_, 1) := by decide +kernel
theorem dX12_makeVariant_0 : decode cX12_makeVariant 0 = .ok (.aload_n 0, 1) := by decide +kernel
theorem dX12_makeVariant_1 : decode cX12_makeVariant 1 = .ok (.iconst 1, 1) := by decide +kernel
theorem dX12_makeVariant_2 : decode cX12_makeVariant 2 = .ok (.invokevirtual 763, 3) := by decide +kernel
theorem dX12_makeVariant_5 : decode cX12_makeVariant 5 = .ok (.aload_n 0, 1) := by decide +kernel
theorem dX12_makeVariant_6 : decode cX12_makeVariant 6 = .ok (.iload_n 1, 1) := by decide +kernel
theorem dX12_makeVariant_7 : decode cX12_makeVariant 7 = .ok (.putfield 742, 3) := by decide +kernel
theorem dX12_makeVariant_10 : decode cX12_makeVariant 10 = .ok (.aload_n 0, 1) := by decide +kernel
theorem dX12_makeVariant_11 : decode cX12_makeVariant 11 = .ok (.iconst 0, 1) := by decide +kernel
theorem dX12_makeVariant_12 : decode cX12_makeVariant 12 = .ok (.putfield 612, 3) := by decide +kernel
theorem dX12_makeVariant_15 : decode cX12_makeVariant 15 = .ok (.aload_n 0, 1) := by decide +kernel
theorem dX12_makeVariant_16 : decode cX12_makeVariant 16 = .ok (.iconst 0, 1) := by decide +kernel
theorem dX12_makeVariant_17 : decode cX12_makeVariant 17 = .ok (.putfield 679, 3) := by decide +kernel
theorem dX12_makeVariant_20 : decode cX12_makeVariant 20 = .ok (.aload_n 0, 1) := by decide +kernel
theorem dX12_makeVariant_21 : decode cX12_makeVariant 21 = .ok (.aload_n 0, 1) := by decide +kernel
theorem dX12_makeVariant_22 : decode cX12_makeVariant 22 = .ok (.getfield 193, 3) := by decide +kernel
theorem dX12_makeVariant_25 : decode cX12_makeVariant 25 = .ok (.iload_n 1, 1) := by decide +kernel
theorem dX12_makeVariant_26 : decode cX12_makeVariant 26 = .ok (.iaload, 1) := by decide +kernel
theorem dX12_makeVariant_27 : decode cX12_makeVariant 27 = .ok (.putfield 691, 3) := by decide +kernel
theorem dX12_makeVariant_30 : decode cX12_makeVariant 30 = .ok (.aload_n 0, 1) := by decide +kernel
theorem dX12_makeVariant_31 : decode cX12_makeVariant 31 = .ok (.getfield 202, 3) := by decide +kernel
theorem dX12_makeVariant_34 : decode cX12_makeVariant 34 = .ok (.iload_n 1, 1) := by decide +kernel
theorem dX12_makeVariant_35 : decode cX12_makeVariant 35 = .ok (.aload_n 0, 1) := by decide +kernel
theorem dX12_makeVariant_36 : decode cX12_makeVariant 36 = .ok (.getfield 682, 3) := by decide +kernel
theorem dX12_makeVariant_39 : decode cX12_makeVariant 39 = .ok (.iastore, 1) := by decide +kernel
theorem dX12_makeVariant_40 : decode cX12_makeVariant 40 = .ok (.aload_n 0, 1) := by decide +kernel
theorem dX12_makeVariant_41 : decode cX12_makeVariant 41 = .ok (.getfield 193, 3) := by decide +kernel
theorem dX12_makeVariant_44 : decode cX12_makeVariant 44 = .ok (.iload_n 1, 1) := by decide +kernel
theorem dX12_makeVariant_45 : decode cX12_makeVariant 45 = .ok (.iaload, 1) := by decide +kernel
theorem dX12_makeVariant_46 : decode cX12_makeVariant 46 = .ok (.istore_n 2, 1) := by decide +kernel
theorem dX12_makeVariant_47 : decode cX12_makeVariant 47 = .ok (.aload_n 0, 1) := by decide +kernel
theorem dX12_makeVariant_48 : decode cX12_makeVariant 48 = .ok (.iconst 0, 1) := by decide +kernel
theorem dX12_makeVariant_49 : decode cX12_makeVariant 49 = .ok (.putfield 530, 3) := by decide +kernel
theorem dX12_makeVariant_52 : decode cX12_makeVariant 52 = .ok (.aload_n 0, 1) := by decide +kernel
theorem dX12_makeVariant_53 : decode cX12_makeVariant 53 = .ok (.getfield 190, 3) := by decide +kernel
theorem dX12_makeVariant_56 : decode cX12_makeVariant 56 = .ok (.iload_n 1, 1) := by decide +kernel
theorem dX12_makeVariant_57 : decode cX12_makeVariant 57 = .ok (.iaload, 1) := by decide +kernel
theorem dX12_makeVariant_58 : decode cX12_makeVariant 58 = .ok (.iconst 1, 1) := by decide +kernel
theorem dX12_makeVariant_59 : decode cX12_makeVariant 59 = .ok (.isub, 1) := by decide +kernel
theorem dX12_makeVariant_60 : decode cX12_makeVariant 60 = .ok (.istore_n 3, 1) := by decide +kernel
theorem dX12_makeVariant_61 : decode cX12_makeVariant 61 = .ok (.iload_n 3, 1) := by decide +kernel
theorem dX12_makeVariant_62 : decode cX12_makeVariant 62 = .ok (.ifCond .lt 65, 3) := by decide +kernel
theorem dX12_makeVariant_65 : decode cX12_makeVariant 65 = .ok (.aload_n 0, 1) := by decide +kernel
theorem dX12_makeVariant_66 : decode cX12_makeVariant 66 = .ok (.getfield 196, 3) := by decide +kernel
theorem dX12_makeVariant_69 : decode cX12_makeVariant 69 = .ok (.sipush 210, 3) := by decide +kernel
theorem dX12_makeVariant_72 : decode cX12_makeVariant 72 = .ok (.iload_n 1, 1) := by decide +kernel
theorem dX12_makeVariant_73 : decode cX12_makeVariant 73 = .ok (.imul, 1) := by decide +kernel
theorem dX12_makeVariant_74 : decode cX12_makeVariant 74 = .ok (.iload_n 3, 1) := by decide +kernel
theorem dX12_makeVariant_75 : decode cX12_makeVariant 75 = .ok (.iadd, 1) := by decide +kernel
theorem dX12_makeVariant_76 : decode cX12_makeVariant 76 = .ok (.iaload, 1) := by decide +kernel
theorem dX12_makeVariant_77 : decode cX12_makeVariant 77 = .ok (.istore 4, 2) := by decide +kernel
theorem dX12_makeVariant_79 : decode cX12_makeVariant 79 = .ok (.iload_n 2, 1) := by decide +kernel
theorem dX12_makeVariant_80 : decode cX12_makeVariant 80 = .ok (.iload 4, 2) := by decide +kernel
theorem dX12_makeVariant_82 : decode cX12_makeVariant 82 = .ok (.iconst 3, 1) := by decide +kernel
theorem dX12_makeVariant_83 : decode cX12_makeVariant 83 = .ok (.if_icmp .ne 7, 3) := by decide +kernel
theorem dX12_makeVariant_86 : decode cX12_makeVariant 86 = .ok (.iconst 1, 1) := by decide +kernel
theorem dX12_makeVariant_87 : decode cX12_makeVariant 87 = .ok (.goto 4, 3) := by decide +kernel
theorem dX12_makeVariant_90 : decode cX12_makeVariant 90 = .ok (.iconst 0, 1) := by decide +kernel
theorem dX12_makeVariant_91 : decode cX12_makeVariant 91 = .ok (.isub, 1) := by decide +kernel
theorem dX12_makeVariant_92 : decode cX12_makeVariant 92 = .ok (.istore_n 2, 1) := by decide +kernel
theorem dX12_makeVariant_93 : decode cX12_makeVariant 93 = .ok (.aload_n 0, 1) := by decide +kernel
theorem dX12_makeVariant_94 : decode cX12_makeVariant 94 = .ok (.iload 4, 2) := by decide +kernel
theorem dX12_makeVariant_96 : decode cX12_makeVariant 96 = .ok (.iload 4, 2) := by decide +kernel
theorem dX12_makeVariant_98 : decode cX12_makeVariant 98 = .ok (.iconst 3, 1) := by decide +kernel
theorem dX12_makeVariant_99 : decode cX12_makeVariant 99 = .ok (.if_icmp .ne 7, 3) := by decide +kernel
theorem dX12_makeVariant_102 : decode cX12_makeVariant 102 = .ok (.iload_n 2, 1) := by decide +kernel
theorem dX12_makeVariant_103 : decode cX12_makeVariant 103 = .ok (.goto 15, 3) := by decide +kernel
theorem dX12_makeVariant_106 : decode cX12_makeVariant 106 = .ok (.aload_n 0, 1) := by decide +kernel
theorem dX12_makeVariant_107 : decode cX12_makeVariant 107 = .ok (.getfield 199, 3) := by decide +kernel
theorem dX12_makeVariant_110 : decode cX12_makeVariant 110 = .ok (.sipush 210, 3) := by decide +kernel
theorem dX12_makeVariant_113 : decode cX12_makeVariant 113 = .ok (.iload_n 1, 1) := by decide +kernel
theorem dX12_makeVariant_114 : decode cX12_makeVariant 114 = .ok (.imul, 1) := by decide +kernel
theorem dX12_makeVariant_115 : decode cX12_makeVariant 115 = .ok (.iload_n 3, 1) := by decide +kernel
theorem dX12_makeVariant_116 : decode cX12_makeVariant 116 = .ok (.iadd, 1) := by decide +kernel
theorem dX12_makeVariant_117 : decode cX12_makeVariant 117 = .ok (.iaload, 1) := by decide +kernel
theorem dX12_makeVariant_118 : decode cX12_makeVariant 118 = .ok (.invokevirtual 542, 3) := by decide +kernel
theorem dX12_makeVariant_121 : decode cX12_makeVariant 121 = .ok (.iinc 3 (-1), 3) := by decide +kernel
theorem dX12_makeVariant_124 : decode cX12_makeVariant 124 = .ok (.goto (-63), 3) := by decide +kernel
theorem dX12_makeVariant_127 : decode cX12_makeVariant 127 = .ok (.aload_n 0, 1) := by decide +kernel
theorem dX12_makeVariant_128 : decode cX12_makeVariant 128 = .ok (.getfield 187, 3) := by decide +kernel
theorem dX12_makeVariant_131 : decode cX12_makeVariant 131 = .ok (.iload_n 1, 1) := by decide +kernel
theorem dX12_makeVariant_132 : decode cX12_makeVariant 132 = .ok (.iaload, 1) := by decide +kernel
theorem dX12_makeVariant_133 : decode cX12_makeVariant 133 = .ok (.istore_n 3, 1) := by decide +kernel
theorem dX12_makeVariant_134 : decode cX12_makeVariant 134 = .ok (.iconst 0, 1) := by decide +kernel
theorem dX12_makeVariant_135 : decode cX12_makeVariant 135 = .ok (.istore 4, 2) := by decide +kernel
theorem dX12_makeVariant_137 : decode cX12_makeVariant 137 = .ok (.iload 4, 2) := by decide +kernel
theorem dX12_makeVariant_139 : decode cX12_makeVariant 139 = .ok (.aload_n 0, 1) := by decide +kernel
theorem dX12_makeVariant_140 : decode cX12_makeVariant 140 = .ok (.getfield 21, 3) := by decide +kernel
theorem dX12_makeVariant_143 : decode cX12_makeVariant 143 = .ok (.iload_n 3, 1) := by decide +kernel
theorem dX12_makeVariant_144 : decode cX12_makeVariant 144 = .ok (.iaload, 1) := by decide +kernel
theorem dX12_makeVariant_145 : decode cX12_makeVariant 145 = .ok (.if_icmp .ge 29, 3) := by decide +kernel
theorem dX12_makeVariant_148 : decode cX12_makeVariant 148 = .ok (.aload_n 0, 1) := by decide +kernel
theorem dX12_makeVariant_149 : decode cX12_makeVariant 149 = .ok (.getfield 139, 3) := by decide +kernel
theorem dX12_makeVariant_152 : decode cX12_makeVariant 152 = .ok (.aload_n 0, 1) := by decide +kernel
theorem dX12_makeVariant_153 : decode cX12_makeVariant 153 = .ok (.getfield 24, 3) := by decide +kernel
theorem dX12_makeVariant_156 : decode cX12_makeVariant 156 = .ok (.iconst 5, 1) := by decide +kernel
theorem dX12_makeVariant_157 : decode cX12_makeVariant 157 = .ok (.iload_n 3, 1) := by decide +kernel
theorem dX12_makeVariant_158 : decode cX12_makeVariant 158 = .ok (.imul, 1) := by decide +kernel
theorem dX12_makeVariant_159 : decode cX12_makeVariant 159 = .ok (.iload 4, 2) := by decide +kernel
theorem dX12_makeVariant_161 : decode cX12_makeVariant 161 = .ok (.iadd, 1) := by decide +kernel
theorem dX12_makeVariant_162 : decode cX12_makeVariant 162 = .ok (.iaload, 1) := by decide +kernel
theorem dX12_makeVariant_163 : decode cX12_makeVariant 163 = .ok (.aload_n 0, 1) := by decide +kernel
theorem dX12_makeVariant_164 : decode cX12_makeVariant 164 = .ok (.invokevirtual 536, 3) := by decide +kernel
theorem dX12_makeVariant_167 : decode cX12_makeVariant 167 = .ok (.iastore, 1) := by decide +kernel
theorem dX12_makeVariant_168 : decode cX12_makeVariant 168 = .ok (.iinc 4 1, 3) := by decide +kernel
theorem dX12_makeVariant_171 : decode cX12_makeVariant 171 = .ok (.goto (-34), 3) := by decide +kernel
theorem dX12_makeVariant_174 : decode cX12_makeVariant 174 = .ok (.aload_n 0, 1) := by decide +kernel
theorem dX12_makeVariant_175 : decode cX12_makeVariant 175 = .ok (.iconst 0, 1) := by decide +kernel
theorem dX12_makeVariant_176 : decode cX12_makeVariant 176 = .ok (.aload_n 0, 1) := by decide +kernel
theorem dX12_makeVariant_177 : decode cX12_makeVariant 177 = .ok (.getfield 27, 3) := by decide +kernel
theorem dX12_makeVariant_180 : decode cX12_makeVariant 180 = .ok (.iload_n 3, 1) := by decide +kernel
theorem dX12_makeVariant_181 : decode cX12_makeVariant 181 = .ok (.iaload, 1) := by decide +kernel
theorem dX12_makeVariant_182 : decode cX12_makeVariant 182 = .ok (.iconst 0, 1) := by decide +kernel
theorem dX12_makeVariant_183 : decode cX12_makeVariant 183 = .ok (.invokevirtual 588, 3) := by decide +kernel
theorem dX12_makeVariant_186 : decode cX12_makeVariant 186 = .ok (.aload_n 0, 1) := by decide +kernel
theorem dX12_makeVariant_187 : decode cX12_makeVariant 187 = .ok (.invokevirtual 767, 3) := by decide +kernel
theorem dX12_makeVariant_190 : decode cX12_makeVariant 190 = .ok (.aload_n 0, 1) := by decide +kernel
theorem dX12_makeVariant_191 : decode cX12_makeVariant 191 = .ok (.getfield 557, 3) := by decide +kernel
theorem dX12_makeVariant_194 : decode cX12_makeVariant 194 = .ok (.ifCond .eq 4, 3) := by decide +kernel
theorem dX12_makeVariant_197 : decode cX12_makeVariant 197 = .ok (.return_, 1) := by decide +kernel
theorem dX12_makeVariant_198 : decode cX12_makeVariant 198 = .ok (.aload_n 0, 1) := by decide +kernel
theorem dX12_makeVariant_199 : decode cX12_makeVariant 199 = .ok (.aload_n 0, 1) := by decide +kernel
theorem dX12_makeVariant_200 : decode cX12_makeVariant 200 = .ok (.invokevirtual 594, 3) := by decide +kernel
theorem dX12_makeVariant_203 : decode cX12_makeVariant 203 = .ok (.invokevirtual 701, 3) := by decide +kernel
theorem dX12_makeVariant_206 : decode cX12_makeVariant 206 = .ok (.istore 4, 2) := by decide +kernel
theorem dX12_makeVariant_208 : decode cX12_makeVariant 208 = .ok (.aload_n 0, 1) := by decide +kernel
theorem dX12_makeVariant_209 : decode cX12_makeVariant 209 = .ok (.getfield 205, 3) := by decide +kernel
theorem dX12_makeVariant_212 : decode cX12_makeVariant 212 = .ok (.iload_n 1, 1) := by decide +kernel
theorem dX12_makeVariant_213 : decode cX12_makeVariant 213 = .ok (.aload_n 0, 1) := by decide +kernel
theorem dX12_makeVariant_214 : decode cX12_makeVariant 214 = .ok (.getfield 682, 3) := by decide +kernel
theorem dX12_makeVariant_217 : decode cX12_makeVariant 217 = .ok (.iastore, 1) := by decide +kernel
theorem dX12_makeVariant_218 : decode cX12_makeVariant 218 = .ok (.aload_n 0, 1) := by decide +kernel
theorem dX12_makeVariant_219 : decode cX12_makeVariant 219 = .ok (.getfield 208, 3) := by decide +kernel
theorem dX12_makeVariant_222 : decode cX12_makeVariant 222 = .ok (.iload_n 1, 1) := by decide +kernel
theorem dX12_makeVariant_223 : decode cX12_makeVariant 223 = .ok (.aload_n 0, 1) := by decide +kernel
theorem dX12_makeVariant_224 : decode cX12_makeVariant 224 = .ok (.getfield 685, 3) := by decide +kernel
theorem dX12_makeVariant_227 : decode cX12_makeVariant 227 = .ok (.iastore, 1) := by decide +kernel
theorem dX12_makeVariant_228 : decode cX12_makeVariant 228 = .ok (.aload_n 0, 1) := by decide +kernel
theorem dX12_makeVariant_229 : decode cX12_makeVariant 229 = .ok (.getfield 175, 3) := by decide +kernel
theorem dX12_makeVariant_232 : decode cX12_makeVariant 232 = .ok (.aload_n 0, 1) := by decide +kernel
theorem dX12_makeVariant_233 : decode cX12_makeVariant 233 = .ok (.getfield 685, 3) := by decide +kernel
theorem dX12_makeVariant_236 : decode cX12_makeVariant 236 = .ok (.aload_n 0, 1) := by decide +kernel
theorem dX12_makeVariant_237 : decode cX12_makeVariant 237 = .ok (.getfield 106, 3) := by decide +kernel
theorem dX12_makeVariant_240 : decode cX12_makeVariant 240 = .ok (.iload 4, 2) := by decide +kernel
theorem dX12_makeVariant_242 : decode cX12_makeVariant 242 = .ok (.iaload, 1) := by decide +kernel
theorem dX12_makeVariant_243 : decode cX12_makeVariant 243 = .ok (.iastore, 1) := by decide +kernel
theorem dX12_makeVariant_244 : decode cX12_makeVariant 244 = .ok (.aload_n 0, 1) := by decide +kernel
theorem dX12_makeVariant_245 : decode cX12_makeVariant 245 = .ok (.getfield 178, 3) := by decide +kernel
theorem dX12_makeVariant_248 : decode cX12_makeVariant 248 = .ok (.aload_n 0, 1) := by decide +kernel
theorem dX12_makeVariant_249 : decode cX12_makeVariant 249 = .ok (.getfield 685, 3) := by decide +kernel
theorem dX12_makeVariant_252 : decode cX12_makeVariant 252 = .ok (.aload_n 0, 1) := by decide +kernel
theorem dX12_makeVariant_253 : decode cX12_makeVariant 253 = .ok (.getfield 109, 3) := by decide +kernel
theorem dX12_makeVariant_256 : decode cX12_makeVariant 256 = .ok (.iload 4, 2) := by decide +kernel
theorem dX12_makeVariant_258 : decode cX12_makeVariant 258 = .ok (.iaload, 1) := by decide +kernel
theorem dX12_makeVariant_259 : decode cX12_makeVariant 259 = .ok (.iastore, 1) := by decide +kernel
theorem dX12_makeVariant_260 : decode cX12_makeVariant 260 = .ok (.aload_n 0, 1) := by decide +kernel
theorem dX12_makeVariant_261 : decode cX12_makeVariant 261 = .ok (.dup, 1) := by decide +kernel
theorem dX12_makeVariant_262 : decode cX12_makeVariant 262 = .ok (.getfield 685, 3) := by decide +kernel
theorem dX12_makeVariant_265 : decode cX12_makeVariant 265 = .ok (.iconst 1, 1) := by decide +kernel
theorem dX12_makeVariant_266 : decode cX12_makeVariant 266 = .ok (.iadd, 1) := by decide +kernel
theorem dX12_makeVariant_267 : decode cX12_makeVariant 267 = .ok (.putfield 685, 3) := by decide +kernel
theorem dX12_makeVariant_270 : decode cX12_makeVariant 270 = .ok (.aload_n 0, 1) := by decide +kernel
theorem dX12_makeVariant_271 : decode cX12_makeVariant 271 = .ok (.getfield 211, 3) := by decide +kernel
theorem dX12_makeVariant_274 : decode cX12_makeVariant 274 = .ok (.iload_n 1, 1) := by decide +kernel
theorem dX12_makeVariant_275 : decode cX12_makeVariant 275 = .ok (.aload_n 0, 1) := by decide +kernel
theorem dX12_makeVariant_276 : decode cX12_makeVariant 276 = .ok (.getfield 691, 3) := by decide +kernel
theorem dX12_makeVariant_279 : decode cX12_makeVariant 279 = .ok (.iastore, 1) := by decide +kernel
theorem dX12_makeVariant_280 : decode cX12_makeVariant 280 = .ok (.return_, 1) := by decide +kernel
theorem dX12_buildTask_0 : decode cX12_buildTask 0 = .ok (.aload_n 0, 1) := by decide +kernel
theorem dX12_buildTask_1 : decode cX12_buildTask 1 = .ok (.getfield 509, 3) := by decide +kernel
theorem dX12_buildTask_4 : decode cX12_buildTask 4 = .ok (.istore_n 2, 1) := by decide +kernel
theorem dX12_buildTask_5 : decode cX12_buildTask 5 = .ok (.aload_n 0, 1) := by decide +kernel
theorem dX12_buildTask_6 : decode cX12_buildTask 6 = .ok (.iconst 0, 1) := by decide +kernel
theorem dX12_buildTask_7 : decode cX12_buildTask 7 = .ok (.putfield 530, 3) := by decide +kernel
theorem dX12_buildTask_10 : decode cX12_buildTask 10 = .ok (.aload_n 0, 1) := by decide +kernel
theorem dX12_buildTask_11 : decode cX12_buildTask 11 = .ok (.getfield 506, 3) := by decide +kernel
theorem dX12_buildTask_14 : decode cX12_buildTask 14 = .ok (.iconst 1, 1) := by decide +kernel
theorem dX12_buildTask_15 : decode cX12_buildTask 15 = .ok (.isub, 1) := by decide +kernel
theorem dX12_buildTask_16 : decode cX12_buildTask 16 = .ok (.istore_n 3, 1) := by decide +kernel
theorem dX12_buildTask_17 : decode cX12_buildTask 17 = .ok (.iload_n 3, 1) := by decide +kernel
theorem dX12_buildTask_18 : decode cX12_buildTask 18 = .ok (.ifCond .lt 64, 3) := by decide +kernel
theorem dX12_buildTask_21 : decode cX12_buildTask 21 = .ok (.aload_n 0, 1) := by decide +kernel
theorem dX12_buildTask_22 : decode cX12_buildTask 22 = .ok (.getfield 87, 3) := by decide +kernel
theorem dX12_buildTask_25 : decode cX12_buildTask 25 = .ok (.iload_n 3, 1) := by decide +kernel
theorem dX12_buildTask_26 : decode cX12_buildTask 26 = .ok (.iaload, 1) := by decide +kernel
theorem dX12_buildTask_27 : decode cX12_buildTask 27 = .ok (.iconst 3, 1) := by decide +kernel
theorem dX12_buildTask_28 : decode cX12_buildTask 28 = .ok (.if_icmp .eq 22, 3) := by decide +kernel
theorem dX12_buildTask_31 : decode cX12_buildTask 31 = .ok (.aload_n 0, 1) := by decide +kernel
theorem dX12_buildTask_32 : decode cX12_buildTask 32 = .ok (.aload_n 0, 1) := by decide +kernel
theorem dX12_buildTask_33 : decode cX12_buildTask 33 = .ok (.getfield 87, 3) := by decide +kernel
theorem dX12_buildTask_36 : decode cX12_buildTask 36 = .ok (.iload_n 3, 1) := by decide +kernel
theorem dX12_buildTask_37 : decode cX12_buildTask 37 = .ok (.iaload, 1) := by decide +kernel
theorem dX12_buildTask_38 : decode cX12_buildTask 38 = .ok (.aload_n 0, 1) := by decide +kernel
theorem dX12_buildTask_39 : decode cX12_buildTask 39 = .ok (.getfield 90, 3) := by decide +kernel
theorem dX12_buildTask_42 : decode cX12_buildTask 42 = .ok (.iload_n 3, 1) := by decide +kernel
theorem dX12_buildTask_43 : decode cX12_buildTask 43 = .ok (.iaload, 1) := by decide +kernel
theorem dX12_buildTask_44 : decode cX12_buildTask 44 = .ok (.invokevirtual 542, 3) := by decide +kernel
theorem dX12_buildTask_47 : decode cX12_buildTask 47 = .ok (.goto 29, 3) := by decide +kernel
theorem dX12_buildTask_50 : decode cX12_buildTask 50 = .ok (.iinc 2 (-1), 3) := by decide +kernel
theorem dX12_buildTask_53 : decode cX12_buildTask 53 = .ok (.aload_n 0, 1) := by decide +kernel
theorem dX12_buildTask_54 : decode cX12_buildTask 54 = .ok (.iload_n 1, 1) := by decide +kernel
theorem dX12_buildTask_55 : decode cX12_buildTask 55 = .ok (.ifCond .eq 12, 3) := by decide +kernel
theorem dX12_buildTask_58 : decode cX12_buildTask 58 = .ok (.aload_n 0, 1) := by decide +kernel
theorem dX12_buildTask_59 : decode cX12_buildTask 59 = .ok (.getfield 124, 3) := by decide +kernel
theorem dX12_buildTask_62 : decode cX12_buildTask 62 = .ok (.iload_n 2, 1) := by decide +kernel
theorem dX12_buildTask_63 : decode cX12_buildTask 63 = .ok (.iaload, 1) := by decide +kernel
theorem dX12_buildTask_64 : decode cX12_buildTask 64 = .ok (.goto 9, 3) := by decide +kernel
theorem dX12_buildTask_67 : decode cX12_buildTask 67 = .ok (.aload_n 0, 1) := by decide +kernel
theorem dX12_buildTask_68 : decode cX12_buildTask 68 = .ok (.iconst 3, 1) := by decide +kernel
theorem dX12_buildTask_69 : decode cX12_buildTask 69 = .ok (.iload_n 2, 1) := by decide +kernel
theorem dX12_buildTask_70 : decode cX12_buildTask 70 = .ok (.invokevirtual 527, 3) := by decide +kernel
theorem dX12_buildTask_73 : decode cX12_buildTask 73 = .ok (.invokevirtual 533, 3) := by decide +kernel
theorem dX12_buildTask_76 : decode cX12_buildTask 76 = .ok (.iinc 3 (-1), 3) := by decide +kernel
theorem dX12_buildTask_79 : decode cX12_buildTask 79 = .ok (.goto (-62), 3) := by decide +kernel
theorem dX12_buildTask_82 : decode cX12_buildTask 82 = .ok (.iconst 0, 1) := by decide +kernel
theorem dX12_buildTask_83 : decode cX12_buildTask 83 = .ok (.istore_n 3, 1) := by decide +kernel
theorem dX12_buildTask_84 : decode cX12_buildTask 84 = .ok (.iload_n 3, 1) := by decide +kernel
theorem dX12_buildTask_85 : decode cX12_buildTask 85 = .ok (.aload_n 0, 1) := by decide +kernel
theorem dX12_buildTask_86 : decode cX12_buildTask 86 = .ok (.getfield 503, 3) := by decide +kernel
theorem dX12_buildTask_89 : decode cX12_buildTask 89 = .ok (.if_icmp .ge 19, 3) := by decide +kernel
theorem dX12_buildTask_92 : decode cX12_buildTask 92 = .ok (.aload_n 0, 1) := by decide +kernel
theorem dX12_buildTask_93 : decode cX12_buildTask 93 = .ok (.getfield 151, 3) := by decide +kernel
theorem dX12_buildTask_96 : decode cX12_buildTask 96 = .ok (.iload_n 3, 1) := by decide +kernel
theorem dX12_buildTask_97 : decode cX12_buildTask 97 = .ok (.aload_n 0, 1) := by decide +kernel
theorem dX12_buildTask_98 : decode cX12_buildTask 98 = .ok (.invokevirtual 536, 3) := by decide +kernel
theorem dX12_buildTask_101 : decode cX12_buildTask 101 = .ok (.iastore, 1) := by decide +kernel
theorem dX12_buildTask_102 : decode cX12_buildTask 102 = .ok (.iinc 3 1, 3) := by decide +kernel
theorem dX12_buildTask_105 : decode cX12_buildTask 105 = .ok (.goto (-21), 3) := by decide +kernel
theorem dX12_buildTask_108 : decode cX12_buildTask 108 = .ok (.return_, 1) := by decide +kernel
theorem dX12_specialiseNow_0 : decode cX12_specialiseNow 0 = .ok (.aload_n 0, 1) := by decide +kernel
theorem dX12_specialiseNow_1 : decode cX12_specialiseNow 1 = .ok (.iconst 0, 1) := by decide +kernel
theorem dX12_specialiseNow_2 : decode cX12_specialiseNow 2 = .ok (.putfield 524, 3) := by decide +kernel
theorem dX12_specialiseNow_5 : decode cX12_specialiseNow 5 = .ok (.aload_n 0, 1) := by decide +kernel
theorem dX12_specialiseNow_6 : decode cX12_specialiseNow 6 = .ok (.iconst 0, 1) := by decide +kernel
theorem dX12_specialiseNow_7 : decode cX12_specialiseNow 7 = .ok (.putfield 557, 3) := by decide +kernel
theorem dX12_specialiseNow_10 : decode cX12_specialiseNow 10 = .ok (.aload_n 0, 1) := by decide +kernel
theorem dX12_specialiseNow_11 : decode cX12_specialiseNow 11 = .ok (.iconst 0, 1) := by decide +kernel
theorem dX12_specialiseNow_12 : decode cX12_specialiseNow 12 = .ok (.putfield 682, 3) := by decide +kernel
theorem dX12_specialiseNow_15 : decode cX12_specialiseNow 15 = .ok (.aload_n 0, 1) := by decide +kernel
theorem dX12_specialiseNow_16 : decode cX12_specialiseNow 16 = .ok (.iconst 0, 1) := by decide +kernel
theorem dX12_specialiseNow_17 : decode cX12_specialiseNow 17 = .ok (.putfield 685, 3) := by decide +kernel
theorem dX12_specialiseNow_20 : decode cX12_specialiseNow 20 = .ok (.aload_n 0, 1) := by decide +kernel
theorem dX12_specialiseNow_21 : decode cX12_specialiseNow 21 = .ok (.iconst 0, 1) := by decide +kernel
theorem dX12_specialiseNow_22 : decode cX12_specialiseNow 22 = .ok (.putfield 688, 3) := by decide +kernel
theorem dX12_specialiseNow_25 : decode cX12_specialiseNow 25 = .ok (.aload_n 0, 1) := by decide +kernel
theorem dX12_specialiseNow_26 : decode cX12_specialiseNow 26 = .ok (.iconst 0, 1) := by decide +kernel
theorem dX12_specialiseNow_27 : decode cX12_specialiseNow 27 = .ok (.putfield 733, 3) := by decide +kernel
theorem dX12_specialiseNow_30 : decode cX12_specialiseNow 30 = .ok (.aload_n 0, 1) := by decide +kernel
theorem dX12_specialiseNow_31 : decode cX12_specialiseNow 31 = .ok (.iconst 0, 1) := by decide +kernel
theorem dX12_specialiseNow_32 : decode cX12_specialiseNow 32 = .ok (.putfield 724, 3) := by decide +kernel
theorem dX12_specialiseNow_35 : decode cX12_specialiseNow 35 = .ok (.aload_n 0, 1) := by decide +kernel
theorem dX12_specialiseNow_36 : decode cX12_specialiseNow 36 = .ok (.iconst 0, 1) := by decide +kernel
theorem dX12_specialiseNow_37 : decode cX12_specialiseNow 37 = .ok (.putfield 717, 3) := by decide +kernel
theorem dX12_specialiseNow_40 : decode cX12_specialiseNow 40 = .ok (.aload_n 0, 1) := by decide +kernel
theorem dX12_specialiseNow_41 : decode cX12_specialiseNow 41 = .ok (.iconst 0, 1) := by decide +kernel
theorem dX12_specialiseNow_42 : decode cX12_specialiseNow 42 = .ok (.putfield 757, 3) := by decide +kernel
theorem dX12_specialiseNow_45 : decode cX12_specialiseNow 45 = .ok (.aload_n 0, 1) := by decide +kernel
theorem dX12_specialiseNow_46 : decode cX12_specialiseNow 46 = .ok (.aload_n 0, 1) := by decide +kernel
theorem dX12_specialiseNow_47 : decode cX12_specialiseNow 47 = .ok (.getfield 99, 3) := by decide +kernel
theorem dX12_specialiseNow_50 : decode cX12_specialiseNow 50 = .ok (.aload_n 0, 1) := by decide +kernel
theorem dX12_specialiseNow_51 : decode cX12_specialiseNow 51 = .ok (.getfield 503, 3) := by decide +kernel
theorem dX12_specialiseNow_54 : decode cX12_specialiseNow 54 = .ok (.invokevirtual 667, 3) := by decide +kernel
theorem dX12_specialiseNow_57 : decode cX12_specialiseNow 57 = .ok (.istore_n 1, 1) := by decide +kernel
theorem dX12_specialiseNow_58 : decode cX12_specialiseNow 58 = .ok (.iload_n 1, 1) := by decide +kernel
theorem dX12_specialiseNow_59 : decode cX12_specialiseNow 59 = .ok (.iconst (-1), 1) := by decide +kernel
theorem dX12_specialiseNow_60 : decode cX12_specialiseNow 60 = .ok (.if_icmp .ne 10, 3) := by decide +kernel
theorem dX12_specialiseNow_63 : decode cX12_specialiseNow 63 = .ok (.aload_n 0, 1) := by decide +kernel
theorem dX12_specialiseNow_64 : decode cX12_specialiseNow 64 = .ok (.bipush (-6), 2) := by decide +kernel
theorem dX12_specialiseNow_66 : decode cX12_specialiseNow 66 = .ok (.putfield 557, 3) := by decide +kernel
theorem dX12_specialiseNow_69 : decode cX12_specialiseNow 69 = .ok (.return_, 1) := by decide +kernel
theorem dX12_specialiseNow_70 : decode cX12_specialiseNow 70 = .ok (.aload_n 0, 1) := by decide +kernel
theorem dX12_specialiseNow_71 : decode cX12_specialiseNow 71 = .ok (.iconst 0, 1) := by decide +kernel
theorem dX12_specialiseNow_72 : decode cX12_specialiseNow 72 = .ok (.invokevirtual 770, 3) := by decide +kernel
theorem dX12_specialiseNow_75 : decode cX12_specialiseNow 75 = .ok (.aload_n 0, 1) := by decide +kernel
theorem dX12_specialiseNow_76 : decode cX12_specialiseNow 76 = .ok (.aload_n 0, 1) := by decide +kernel
theorem dX12_specialiseNow_77 : decode cX12_specialiseNow 77 = .ok (.getfield 503, 3) := by decide +kernel
theorem dX12_specialiseNow_80 : decode cX12_specialiseNow 80 = .ok (.invokevirtual 739, 3) := by decide +kernel
theorem dX12_specialiseNow_83 : decode cX12_specialiseNow 83 = .ok (.aload_n 0, 1) := by decide +kernel
theorem dX12_specialiseNow_84 : decode cX12_specialiseNow 84 = .ok (.iload_n 1, 1) := by decide +kernel
theorem dX12_specialiseNow_85 : decode cX12_specialiseNow 85 = .ok (.iconst (-1), 1) := by decide +kernel
theorem dX12_specialiseNow_86 : decode cX12_specialiseNow 86 = .ok (.invokevirtual 760, 3) := by decide +kernel
theorem dX12_specialiseNow_89 : decode cX12_specialiseNow 89 = .ok (.istore_n 2, 1) := by decide +kernel
theorem dX12_specialiseNow_90 : decode cX12_specialiseNow 90 = .ok (.iconst 0, 1) := by decide +kernel
theorem dX12_specialiseNow_91 : decode cX12_specialiseNow 91 = .ok (.istore_n 3, 1) := by decide +kernel
theorem dX12_specialiseNow_92 : decode cX12_specialiseNow 92 = .ok (.iload_n 3, 1) := by decide +kernel
theorem dX12_specialiseNow_93 : decode cX12_specialiseNow 93 = .ok (.aload_n 0, 1) := by decide +kernel
theorem dX12_specialiseNow_94 : decode cX12_specialiseNow 94 = .ok (.getfield 724, 3) := by decide +kernel
theorem dX12_specialiseNow_97 : decode cX12_specialiseNow 97 = .ok (.if_icmp .ge 26, 3) := by decide +kernel
theorem dX12_specialiseNow_100 : decode cX12_specialiseNow 100 = .ok (.aload_n 0, 1) := by decide +kernel
theorem dX12_specialiseNow_101 : decode cX12_specialiseNow 101 = .ok (.getfield 557, 3) := by decide +kernel
theorem dX12_specialiseNow_104 : decode cX12_specialiseNow 104 = .ok (.ifCond .ne 19, 3) := by decide +kernel
theorem dX12_specialiseNow_107 : decode cX12_specialiseNow 107 = .ok (.aload_n 0, 1) := by decide +kernel
theorem dX12_specialiseNow_108 : decode cX12_specialiseNow 108 = .ok (.iconst 0, 1) := by decide +kernel
theorem dX12_specialiseNow_109 : decode cX12_specialiseNow 109 = .ok (.putfield 524, 3) := by decide +kernel
theorem dX12_specialiseNow_112 : decode cX12_specialiseNow 112 = .ok (.aload_n 0, 1) := by decide +kernel
theorem dX12_specialiseNow_113 : decode cX12_specialiseNow 113 = .ok (.iload_n 3, 1) := by decide +kernel
theorem dX12_specialiseNow_114 : decode cX12_specialiseNow 114 = .ok (.invokevirtual 773, 3) := by decide +kernel
theorem dX12_specialiseNow_117 : decode cX12_specialiseNow 117 = .ok (.iinc 3 1, 3) := by decide +kernel
theorem dX12_specialiseNow_120 : decode cX12_specialiseNow 120 = .ok (.goto (-28), 3) := by decide +kernel
theorem dX12_specialiseNow_123 : decode cX12_specialiseNow 123 = .ok (.return_, 1) := by decide +kernel
theorem dX12_specialise_0 : decode cX12_specialise 0 = .ok (.aload_n 0, 1) := by decide +kernel
theorem dX12_specialise_1 : decode cX12_specialise 1 = .ok (.invokevirtual 776, 3) := by decide +kernel
theorem dX12_specialise_4 : decode cX12_specialise 4 = .ok (.aload_n 0, 1) := by decide +kernel
theorem dX12_specialise_5 : decode cX12_specialise 5 = .ok (.aload_n 0, 1) := by decide +kernel
theorem dX12_specialise_6 : decode cX12_specialise 6 = .ok (.getfield 557, 3) := by decide +kernel
theorem dX12_specialise_9 : decode cX12_specialise 9 = .ok (.ifCond .ne 7, 3) := by decide +kernel
theorem dX12_specialise_12 : decode cX12_specialise 12 = .ok (.iconst 1, 1) := by decide +kernel
theorem dX12_specialise_13 : decode cX12_specialise 13 = .ok (.goto 4, 3) := by decide +kernel
theorem dX12_specialise_16 : decode cX12_specialise 16 = .ok (.iconst 0, 1) := by decide +kernel
theorem dX12_specialise_17 : decode cX12_specialise 17 = .ok (.putfield 464, 3) := by decide +kernel
theorem dX12_specialise_20 : decode cX12_specialise 20 = .ok (.aload_n 0, 1) := by decide +kernel
theorem dX12_specialise_21 : decode cX12_specialise 21 = .ok (.getfield 464, 3) := by decide +kernel
theorem dX12_specialise_24 : decode cX12_specialise 24 = .ok (.ifCond .eq 10, 3) := by decide +kernel
theorem dX12_specialise_27 : decode cX12_specialise 27 = .ok (.aload_n 0, 1) := by decide +kernel
theorem dX12_specialise_28 : decode cX12_specialise 28 = .ok (.getfield 724, 3) := by decide +kernel
theorem dX12_specialise_31 : decode cX12_specialise 31 = .ok (.goto 7, 3) := by decide +kernel
theorem dX12_specialise_34 : decode cX12_specialise 34 = .ok (.aload_n 0, 1) := by decide +kernel
theorem dX12_specialise_35 : decode cX12_specialise 35 = .ok (.getfield 557, 3) := by decide +kernel
theorem dX12_specialise_38 : decode cX12_specialise 38 = .ok (.ireturn, 1) := by decide +kernel
theorem dX12_countKind_0 : decode cX12_countKind 0 = .ok (.iconst 0, 1) := by decide +kernel
theorem dX12_countKind_1 : decode cX12_countKind 1 = .ok (.istore_n 3, 1) := by decide +kernel
theorem dX12_countKind_2 : decode cX12_countKind 2 = .ok (.aload_n 0, 1) := by decide +kernel
theorem dX12_countKind_3 : decode cX12_countKind 3 = .ok (.getfield 202, 3) := by decide +kernel
theorem dX12_countKind_6 : decode cX12_countKind 6 = .ok (.iload_n 1, 1) := by decide +kernel
theorem dX12_countKind_7 : decode cX12_countKind 7 = .ok (.iaload, 1) := by decide +kernel
theorem dX12_countKind_8 : decode cX12_countKind 8 = .ok (.istore 4, 2) := by decide +kernel
theorem dX12_countKind_10 : decode cX12_countKind 10 = .ok (.iload 4, 2) := by decide +kernel
theorem dX12_countKind_12 : decode cX12_countKind 12 = .ok (.aload_n 0, 1) := by decide +kernel
theorem dX12_countKind_13 : decode cX12_countKind 13 = .ok (.getfield 205, 3) := by decide +kernel
theorem dX12_countKind_16 : decode cX12_countKind 16 = .ok (.iload_n 1, 1) := by decide +kernel
theorem dX12_countKind_17 : decode cX12_countKind 17 = .ok (.iaload, 1) := by decide +kernel
theorem dX12_countKind_18 : decode cX12_countKind 18 = .ok (.if_icmp .ge 28, 3) := by decide +kernel
theorem dX12_countKind_21 : decode cX12_countKind 21 = .ok (.iload_n 3, 1) := by decide +kernel
theorem dX12_countKind_22 : decode cX12_countKind 22 = .ok (.aload_n 0, 1) := by decide +kernel
theorem dX12_countKind_23 : decode cX12_countKind 23 = .ok (.getfield 154, 3) := by decide +kernel
theorem dX12_countKind_26 : decode cX12_countKind 26 = .ok (.iload 4, 2) := by decide +kernel
theorem dX12_countKind_28 : decode cX12_countKind 28 = .ok (.iaload, 1) := by decide +kernel
theorem dX12_countKind_29 : decode cX12_countKind 29 = .ok (.iload_n 2, 1) := by decide +kernel
theorem dX12_countKind_30 : decode cX12_countKind 30 = .ok (.if_icmp .ne 7, 3) := by decide +kernel
theorem dX12_countKind_33 : decode cX12_countKind 33 = .ok (.iconst 1, 1) := by decide +kernel
theorem dX12_countKind_34 : decode cX12_countKind 34 = .ok (.goto 4, 3) := by decide +kernel
theorem dX12_countKind_37 : decode cX12_countKind 37 = .ok (.iconst 0, 1) := by decide +kernel
theorem dX12_countKind_38 : decode cX12_countKind 38 = .ok (.iadd, 1) := by decide +kernel
theorem dX12_countKind_39 : decode cX12_countKind 39 = .ok (.istore_n 3, 1) := by decide +kernel
theorem dX12_countKind_40 : decode cX12_countKind 40 = .ok (.iinc 4 1, 3) := by decide +kernel
theorem dX12_countKind_43 : decode cX12_countKind 43 = .ok (.goto (-33), 3) := by decide +kernel
theorem dX12_countKind_46 : decode cX12_countKind 46 = .ok (.iload_n 3, 1) := by decide +kernel
theorem dX12_countKind_47 : decode cX12_countKind 47 = .ok (.ireturn, 1) := by decide +kernel
theorem dX12_countAll_0 : decode cX12_countAll 0 = .ok (.iconst 0, 1) := by decide +kernel
theorem dX12_countAll_1 : decode cX12_countAll 1 = .ok (.istore_n 2, 1) := by decide +kernel
theorem dX12_countAll_2 : decode cX12_countAll 2 = .ok (.iconst 0, 1) := by decide +kernel
theorem dX12_countAll_3 : decode cX12_countAll 3 = .ok (.istore_n 3, 1) := by decide +kernel
theorem dX12_countAll_4 : decode cX12_countAll 4 = .ok (.iload_n 3, 1) := by decide +kernel
theorem dX12_countAll_5 : decode cX12_countAll 5 = .ok (.aload_n 0, 1) := by decide +kernel
theorem dX12_countAll_6 : decode cX12_countAll 6 = .ok (.getfield 724, 3) := by decide +kernel
theorem dX12_countAll_9 : decode cX12_countAll 9 = .ok (.if_icmp .ge 18, 3) := by decide +kernel
theorem dX12_countAll_12 : decode cX12_countAll 12 = .ok (.iload_n 2, 1) := by decide +kernel
theorem dX12_countAll_13 : decode cX12_countAll 13 = .ok (.aload_n 0, 1) := by decide +kernel
theorem dX12_countAll_14 : decode cX12_countAll 14 = .ok (.iload_n 3, 1) := by decide +kernel
theorem dX12_countAll_15 : decode cX12_countAll 15 = .ok (.iload_n 1, 1) := by decide +kernel
theorem dX12_countAll_16 : decode cX12_countAll 16 = .ok (.invokevirtual 779, 3) := by decide +kernel
theorem dX12_countAll_19 : decode cX12_countAll 19 = .ok (.iadd, 1) := by decide +kernel
theorem dX12_countAll_20 : decode cX12_countAll 20 = .ok (.istore_n 2, 1) := by decide +kernel
theorem dX12_countAll_21 : decode cX12_countAll 21 = .ok (.iinc 3 1, 3) := by decide +kernel
theorem dX12_countAll_24 : decode cX12_countAll 24 = .ok (.goto (-20), 3) := by decide +kernel
theorem dX12_countAll_27 : decode cX12_countAll 27 = .ok (.iload_n 2, 1) := by decide +kernel
theorem dX12_countAll_28 : decode cX12_countAll 28 = .ok (.ireturn, 1) := by decide +kernel
theorem dX12_residue_0 : decode cX12_residue 0 = .ok (.aload_n 0, 1) := by decide +kernel
theorem dX12_residue_1 : decode cX12_residue 1 = .ok (.getfield 464, 3) := by decide +kernel
theorem dX12_residue_4 : decode cX12_residue 4 = .ok (.ifCond .ne 5, 3) := by decide +kernel
theorem dX12_residue_7 : decode cX12_residue 7 = .ok (.iconst (-1), 1) := by decide +kernel
theorem dX12_residue_8 : decode cX12_residue 8 = .ok (.ireturn, 1) := by decide +kernel
theorem dX12_residue_9 : decode cX12_residue 9 = .ok (.iload_n 1, 1) := by decide +kernel
theorem dX12_residue_10 : decode cX12_residue 10 = .ok (.tableswitch 121 0 9 #[54, 59, 64, 69, 76, 83, 97, 104, 111, 116], 54) := by decide +kernel
theorem dX12_residue_64 : decode cX12_residue 64 = .ok (.aload_n 0, 1) := by decide +kernel
theorem dX12_residue_65 : decode cX12_residue 65 = .ok (.getfield 724, 3) := by decide +kernel
theorem dX12_residue_68 : decode cX12_residue 68 = .ok (.ireturn, 1) := by decide +kernel
theorem dX12_residue_69 : decode cX12_residue 69 = .ok (.aload_n 0, 1) := by decide +kernel
theorem dX12_residue_70 : decode cX12_residue 70 = .ok (.getfield 688, 3) := by decide +kernel
theorem dX12_residue_73 : decode cX12_residue 73 = .ok (.ireturn, 1) := by decide +kernel
theorem dX12_residue_74 : decode cX12_residue 74 = .ok (.aload_n 0, 1) := by decide +kernel
theorem dX12_residue_75 : decode cX12_residue 75 = .ok (.getfield 733, 3) := by decide +kernel
theorem dX12_residue_78 : decode cX12_residue 78 = .ok (.ireturn, 1) := by decide +kernel
theorem dX12_residue_79 : decode cX12_residue 79 = .ok (.aload_n 0, 1) := by decide +kernel
theorem dX12_residue_80 : decode cX12_residue 80 = .ok (.bipush 11, 2) := by decide +kernel
theorem dX12_residue_82 : decode cX12_residue 82 = .ok (.invokevirtual 782, 3) := by decide +kernel
theorem dX12_residue_85 : decode cX12_residue 85 = .ok (.ireturn, 1) := by decide +kernel
theorem dX12_residue_86 : decode cX12_residue 86 = .ok (.aload_n 0, 1) := by decide +kernel
theorem dX12_residue_87 : decode cX12_residue 87 = .ok (.bipush 7, 2) := by decide +kernel
theorem dX12_residue_89 : decode cX12_residue 89 = .ok (.invokevirtual 782, 3) := by decide +kernel
theorem dX12_residue_92 : decode cX12_residue 92 = .ok (.ireturn, 1) := by decide +kernel
theorem dX12_residue_93 : decode cX12_residue 93 = .ok (.aload_n 0, 1) := by decide +kernel
theorem dX12_residue_94 : decode cX12_residue 94 = .ok (.bipush 8, 2) := by decide +kernel
theorem dX12_residue_96 : decode cX12_residue 96 = .ok (.invokevirtual 782, 3) := by decide +kernel
theorem dX12_residue_99 : decode cX12_residue 99 = .ok (.aload_n 0, 1) := by decide +kernel
theorem dX12_residue_100 : decode cX12_residue 100 = .ok (.bipush 9, 2) := by decide +kernel
theorem dX12_residue_102 : decode cX12_residue 102 = .ok (.invokevirtual 782, 3) := by decide +kernel
theorem dX12_residue_105 : decode cX12_residue 105 = .ok (.iadd, 1) := by decide +kernel
theorem dX12_residue_106 : decode cX12_residue 106 = .ok (.ireturn, 1) := by decide +kernel
theorem dX12_residue_107 : decode cX12_residue 107 = .ok (.aload_n 0, 1) := by decide +kernel
theorem dX12_residue_108 : decode cX12_residue 108 = .ok (.bipush 10, 2) := by decide +kernel
theorem dX12_residue_110 : decode cX12_residue 110 = .ok (.invokevirtual 782, 3) := by decide +kernel
theorem dX12_residue_113 : decode cX12_residue 113 = .ok (.ireturn, 1) := by decide +kernel
theorem dX12_residue_114 : decode cX12_residue 114 = .ok (.aload_n 0, 1) := by decide +kernel
theorem dX12_residue_115 : decode cX12_residue 115 = .ok (.bipush 6, 2) := by decide +kernel
theorem dX12_residue_117 : decode cX12_residue 117 = .ok (.invokevirtual 782, 3) := by decide +kernel
theorem dX12_residue_120 : decode cX12_residue 120 = .ok (.ireturn, 1) := by decide +kernel
theorem dX12_residue_121 : decode cX12_residue 121 = .ok (.aload_n 0, 1) := by decide +kernel
theorem dX12_residue_122 : decode cX12_residue 122 = .ok (.getfield 717, 3) := by decide +kernel
theorem dX12_residue_125 : decode cX12_residue 125 = .ok (.ireturn, 1) := by decide +kernel
theorem dX12_residue_126 : decode cX12_residue 126 = .ok (.aload_n 0, 1) := by decide +kernel
theorem dX12_residue_127 : decode cX12_residue 127 = .ok (.getfield 757, 3) := by decide +kernel
theorem dX12_residue_130 : decode cX12_residue 130 = .ok (.ireturn, 1) := by decide +kernel
theorem dX12_residue_131 : decode cX12_residue 131 = .ok (.iconst (-1), 1) := by decide +kernel
theorem dX12_residue_132 : decode cX12_residue 132 = .ok (.ireturn, 1) := by decide +kernel
theorem dX12_isVariant_0 : decode cX12_isVariant 0 = .ok (.aload_n 0, 1) := by decide +kernel
theorem dX12_isVariant_1 : decode cX12_isVariant 1 = .ok (.getfield 464, 3) := by decide +kernel
theorem dX12_isVariant_4 : decode cX12_isVariant 4 = .ok (.ifCond .eq 21, 3) := by decide +kernel
theorem dX12_isVariant_7 : decode cX12_isVariant 7 = .ok (.iload_n 1, 1) := by decide +kernel
theorem dX12_isVariant_8 : decode cX12_isVariant 8 = .ok (.iconst 0, 1) := by decide +kernel
theorem dX12_isVariant_9 : decode cX12_isVariant 9 = .ok (.aload_n 0, 1) := by decide +kernel
theorem dX12_isVariant_10 : decode cX12_isVariant 10 = .ok (.getfield 724, 3) := by decide +kernel
theorem dX12_isVariant_13 : decode cX12_isVariant 13 = .ok (.iconst 1, 1) := by decide +kernel
theorem dX12_isVariant_14 : decode cX12_isVariant 14 = .ok (.isub, 1) := by decide +kernel
theorem dX12_isVariant_15 : decode cX12_isVariant 15 = .ok (.invokestatic 359, 3) := by decide +kernel
theorem dX12_isVariant_18 : decode cX12_isVariant 18 = .ok (.ifCond .eq 7, 3) := by decide +kernel
theorem dX12_isVariant_21 : decode cX12_isVariant 21 = .ok (.iconst 1, 1) := by decide +kernel
theorem dX12_isVariant_22 : decode cX12_isVariant 22 = .ok (.goto 4, 3) := by decide +kernel
theorem dX12_isVariant_25 : decode cX12_isVariant 25 = .ok (.iconst 0, 1) := by decide +kernel
theorem dX12_isVariant_26 : decode cX12_isVariant 26 = .ok (.ireturn, 1) := by decide +kernel
theorem dX12_knownIn_0 : decode cX12_knownIn 0 = .ok (.iconst 0, 1) := by decide +kernel
theorem dX12_knownIn_1 : decode cX12_knownIn 1 = .ok (.istore_n 2, 1) := by decide +kernel
theorem dX12_knownIn_2 : decode cX12_knownIn 2 = .ok (.sipush 210, 3) := by decide +kernel
theorem dX12_knownIn_5 : decode cX12_knownIn 5 = .ok (.iload_n 1, 1) := by decide +kernel
theorem dX12_knownIn_6 : decode cX12_knownIn 6 = .ok (.imul, 1) := by decide +kernel
theorem dX12_knownIn_7 : decode cX12_knownIn 7 = .ok (.istore_n 3, 1) := by decide +kernel
theorem dX12_knownIn_8 : decode cX12_knownIn 8 = .ok (.iload_n 3, 1) := by decide +kernel
theorem dX12_knownIn_9 : decode cX12_knownIn 9 = .ok (.sipush 210, 3) := by decide +kernel
theorem dX12_knownIn_12 : decode cX12_knownIn 12 = .ok (.iload_n 1, 1) := by decide +kernel
theorem dX12_knownIn_13 : decode cX12_knownIn 13 = .ok (.imul, 1) := by decide +kernel
theorem dX12_knownIn_14 : decode cX12_knownIn 14 = .ok (.aload_n 0, 1) := by decide +kernel
theorem dX12_knownIn_15 : decode cX12_knownIn 15 = .ok (.getfield 190, 3) := by decide +kernel
theorem dX12_knownIn_18 : decode cX12_knownIn 18 = .ok (.iload_n 1, 1) := by decide +kernel
theorem dX12_knownIn_19 : decode cX12_knownIn 19 = .ok (.iaload, 1) := by decide +kernel
theorem dX12_knownIn_20 : decode cX12_knownIn 20 = .ok (.iadd, 1) := by decide +kernel
theorem dX12_knownIn_21 : decode cX12_knownIn 21 = .ok (.if_icmp .ge 29, 3) := by decide +kernel
theorem dX12_knownIn_24 : decode cX12_knownIn 24 = .ok (.iload_n 2, 1) := by decide +kernel
theorem dX12_knownIn_25 : decode cX12_knownIn 25 = .ok (.aload_n 0, 1) := by decide +kernel
theorem dX12_knownIn_26 : decode cX12_knownIn 26 = .ok (.getfield 196, 3) := by decide +kernel
theorem dX12_knownIn_29 : decode cX12_knownIn 29 = .ok (.iload_n 3, 1) := by decide +kernel
theorem dX12_knownIn_30 : decode cX12_knownIn 30 = .ok (.iaload, 1) := by decide +kernel
theorem dX12_knownIn_31 : decode cX12_knownIn 31 = .ok (.invokestatic 710, 3) := by decide +kernel
theorem dX12_knownIn_34 : decode cX12_knownIn 34 = .ok (.ifCond .eq 7, 3) := by decide +kernel
theorem dX12_knownIn_37 : decode cX12_knownIn 37 = .ok (.iconst 1, 1) := by decide +kernel
theorem dX12_knownIn_38 : decode cX12_knownIn 38 = .ok (.goto 4, 3) := by decide +kernel
theorem dX12_knownIn_41 : decode cX12_knownIn 41 = .ok (.iconst 0, 1) := by decide +kernel
theorem dX12_knownIn_42 : decode cX12_knownIn 42 = .ok (.iadd, 1) := by decide +kernel
theorem dX12_knownIn_43 : decode cX12_knownIn 43 = .ok (.istore_n 2, 1) := by decide +kernel
theorem dX12_knownIn_44 : decode cX12_knownIn 44 = .ok (.iinc 3 1, 3) := by decide +kernel
theorem dX12_knownIn_47 : decode cX12_knownIn 47 = .ok (.goto (-39), 3) := by decide +kernel
theorem dX12_knownIn_50 : decode cX12_knownIn 50 = .ok (.iload_n 2, 1) := by decide +kernel
theorem dX12_knownIn_51 : decode cX12_knownIn 51 = .ok (.ireturn, 1) := by decide +kernel
theorem dX12_callsOf_0 : decode cX12_callsOf 0 = .ok (.iconst 0, 1) := by decide +kernel
theorem dX12_callsOf_1 : decode cX12_callsOf 1 = .ok (.istore_n 2, 1) := by decide +kernel
theorem dX12_callsOf_2 : decode cX12_callsOf 2 = .ok (.iconst 0, 1) := by decide +kernel
theorem dX12_callsOf_3 : decode cX12_callsOf 3 = .ok (.istore_n 3, 1) := by decide +kernel
theorem dX12_callsOf_4 : decode cX12_callsOf 4 = .ok (.iload_n 3, 1) := by decide +kernel
theorem dX12_callsOf_5 : decode cX12_callsOf 5 = .ok (.aload_n 0, 1) := by decide +kernel
theorem dX12_callsOf_6 : decode cX12_callsOf 6 = .ok (.getfield 682, 3) := by decide +kernel
theorem dX12_callsOf_9 : decode cX12_callsOf 9 = .ok (.if_icmp .ge 38, 3) := by decide +kernel
theorem dX12_callsOf_12 : decode cX12_callsOf 12 = .ok (.iload_n 2, 1) := by decide +kernel
theorem dX12_callsOf_13 : decode cX12_callsOf 13 = .ok (.aload_n 0, 1) := by decide +kernel
theorem dX12_callsOf_14 : decode cX12_callsOf 14 = .ok (.getfield 154, 3) := by decide +kernel
theorem dX12_callsOf_17 : decode cX12_callsOf 17 = .ok (.iload_n 3, 1) := by decide +kernel
theorem dX12_callsOf_18 : decode cX12_callsOf 18 = .ok (.iaload, 1) := by decide +kernel
theorem dX12_callsOf_19 : decode cX12_callsOf 19 = .ok (.bipush 11, 2) := by decide +kernel
theorem dX12_callsOf_21 : decode cX12_callsOf 21 = .ok (.if_icmp .ne 17, 3) := by decide +kernel
theorem dX12_callsOf_24 : decode cX12_callsOf 24 = .ok (.aload_n 0, 1) := by decide +kernel
theorem dX12_callsOf_25 : decode cX12_callsOf 25 = .ok (.getfield 160, 3) := by decide +kernel
theorem dX12_callsOf_28 : decode cX12_callsOf 28 = .ok (.iload_n 3, 1) := by decide +kernel
theorem dX12_callsOf_29 : decode cX12_callsOf 29 = .ok (.iaload, 1) := by decide +kernel
theorem dX12_callsOf_30 : decode cX12_callsOf 30 = .ok (.iload_n 1, 1) := by decide +kernel
theorem dX12_callsOf_31 : decode cX12_callsOf 31 = .ok (.if_icmp .ne 7, 3) := by decide +kernel
theorem dX12_callsOf_34 : decode cX12_callsOf 34 = .ok (.iconst 1, 1) := by decide +kernel
theorem dX12_callsOf_35 : decode cX12_callsOf 35 = .ok (.goto 4, 3) := by decide +kernel
theorem dX12_callsOf_38 : decode cX12_callsOf 38 = .ok (.iconst 0, 1) := by decide +kernel
theorem dX12_callsOf_39 : decode cX12_callsOf 39 = .ok (.iadd, 1) := by decide +kernel
theorem dX12_callsOf_40 : decode cX12_callsOf 40 = .ok (.istore_n 2, 1) := by decide +kernel
theorem dX12_callsOf_41 : decode cX12_callsOf 41 = .ok (.iinc 3 1, 3) := by decide +kernel
theorem dX12_callsOf_44 : decode cX12_callsOf 44 = .ok (.goto (-40), 3) := by decide +kernel
theorem dX12_callsOf_47 : decode cX12_callsOf 47 = .ok (.iload_n 2, 1) := by decide +kernel
theorem dX12_callsOf_48 : decode cX12_callsOf 48 = .ok (.ireturn, 1) := by decide +kernel
theorem dX12_instructionsOf_0 : decode cX12_instructionsOf 0 = .ok (.aload_n 0, 1) := by decide +kernel
theorem dX12_instructionsOf_1 : decode cX12_instructionsOf 1 = .ok (.getfield 205, 3) := by decide +kernel
theorem dX12_instructionsOf_4 : decode cX12_instructionsOf 4 = .ok (.iload_n 1, 1) := by decide +kernel
theorem dX12_instructionsOf_5 : decode cX12_instructionsOf 5 = .ok (.iaload, 1) := by decide +kernel
theorem dX12_instructionsOf_6 : decode cX12_instructionsOf 6 = .ok (.aload_n 0, 1) := by decide +kernel
theorem dX12_instructionsOf_7 : decode cX12_instructionsOf 7 = .ok (.getfield 202, 3) := by decide +kernel
theorem dX12_instructionsOf_10 : decode cX12_instructionsOf 10 = .ok (.iload_n 1, 1) := by decide +kernel
theorem dX12_instructionsOf_11 : decode cX12_instructionsOf 11 = .ok (.iaload, 1) := by decide +kernel
theorem dX12_instructionsOf_12 : decode cX12_instructionsOf 12 = .ok (.isub, 1) := by decide +kernel
theorem dX12_instructionsOf_13 : decode cX12_instructionsOf 13 = .ok (.aload_n 0, 1) := by decide +kernel
theorem dX12_instructionsOf_14 : decode cX12_instructionsOf 14 = .ok (.iload_n 1, 1) := by decide +kernel
theorem dX12_instructionsOf_15 : decode cX12_instructionsOf 15 = .ok (.bipush 13, 2) := by decide +kernel
theorem dX12_instructionsOf_17 : decode cX12_instructionsOf 17 = .ok (.invokevirtual 779, 3) := by decide +kernel
theorem dX12_instructionsOf_20 : decode cX12_instructionsOf 20 = .ok (.isub, 1) := by decide +kernel
theorem dX12_instructionsOf_21 : decode cX12_instructionsOf 21 = .ok (.aload_n 0, 1) := by decide +kernel
theorem dX12_instructionsOf_22 : decode cX12_instructionsOf 22 = .ok (.iload_n 1, 1) := by decide +kernel
theorem dX12_instructionsOf_23 : decode cX12_instructionsOf 23 = .ok (.bipush 14, 2) := by decide +kernel
theorem dX12_instructionsOf_25 : decode cX12_instructionsOf 25 = .ok (.invokevirtual 779, 3) := by decide +kernel
theorem dX12_instructionsOf_28 : decode cX12_instructionsOf 28 = .ok (.isub, 1) := by decide +kernel
theorem dX12_instructionsOf_29 : decode cX12_instructionsOf 29 = .ok (.ireturn, 1) := by decide +kernel
theorem dX12_variant_0 : decode cX12_variant 0 = .ok (.aload_n 0, 1) := by decide +kernel
theorem dX12_variant_1 : decode cX12_variant 1 = .ok (.iload_n 1, 1) := by decide +kernel
theorem dX12_variant_2 : decode cX12_variant 2 = .ok (.invokevirtual 785, 3) := by decide +kernel
theorem dX12_variant_5 : decode cX12_variant 5 = .ok (.ifCond .ne 5, 3) := by decide +kernel
theorem dX12_variant_8 : decode cX12_variant 8 = .ok (.iconst (-1), 1) := by decide +kernel
theorem dX12_variant_9 : decode cX12_variant 9 = .ok (.ireturn, 1) := by decide +kernel
theorem dX12_variant_10 : decode cX12_variant 10 = .ok (.iload_n 2, 1) := by decide +kernel
theorem dX12_variant_11 : decode cX12_variant 11 = .ok (.tableswitch 92 0 6 #[41, 53, 60, 67, 73, 80, 86], 41) := by decide +kernel
theorem dX12_variant_52 : decode cX12_variant 52 = .ok (.aload_n 0, 1) := by decide +kernel
theorem dX12_variant_53 : decode cX12_variant 53 = .ok (.getfield 17, 3) := by decide +kernel
theorem dX12_variant_56 : decode cX12_variant 56 = .ok (.aload_n 0, 1) := by decide +kernel
theorem dX12_variant_57 : decode cX12_variant 57 = .ok (.getfield 187, 3) := by decide +kernel
theorem dX12_variant_60 : decode cX12_variant 60 = .ok (.iload_n 1, 1) := by decide +kernel
theorem dX12_variant_61 : decode cX12_variant 61 = .ok (.iaload, 1) := by decide +kernel
theorem dX12_variant_62 : decode cX12_variant 62 = .ok (.iaload, 1) := by decide +kernel
theorem dX12_variant_63 : decode cX12_variant 63 = .ok (.ireturn, 1) := by decide +kernel
theorem dX12_variant_64 : decode cX12_variant 64 = .ok (.aload_n 0, 1) := by decide +kernel
theorem dX12_variant_65 : decode cX12_variant 65 = .ok (.getfield 211, 3) := by decide +kernel
theorem dX12_variant_68 : decode cX12_variant 68 = .ok (.iload_n 1, 1) := by decide +kernel
theorem dX12_variant_69 : decode cX12_variant 69 = .ok (.iaload, 1) := by decide +kernel
theorem dX12_variant_70 : decode cX12_variant 70 = .ok (.ireturn, 1) := by decide +kernel
theorem dX12_variant_71 : decode cX12_variant 71 = .ok (.aload_n 0, 1) := by decide +kernel
theorem dX12_variant_72 : decode cX12_variant 72 = .ok (.getfield 193, 3) := by decide +kernel
theorem dX12_variant_75 : decode cX12_variant 75 = .ok (.iload_n 1, 1) := by decide +kernel
theorem dX12_variant_76 : decode cX12_variant 76 = .ok (.iaload, 1) := by decide +kernel
theorem dX12_variant_77 : decode cX12_variant 77 = .ok (.ireturn, 1) := by decide +kernel
theorem dX12_variant_78 : decode cX12_variant 78 = .ok (.aload_n 0, 1) := by decide +kernel
theorem dX12_variant_79 : decode cX12_variant 79 = .ok (.iload_n 1, 1) := by decide +kernel
theorem dX12_variant_80 : decode cX12_variant 80 = .ok (.invokevirtual 788, 3) := by decide +kernel
theorem dX12_variant_83 : decode cX12_variant 83 = .ok (.ireturn, 1) := by decide +kernel
theorem dX12_variant_84 : decode cX12_variant 84 = .ok (.aload_n 0, 1) := by decide +kernel
theorem dX12_variant_85 : decode cX12_variant 85 = .ok (.getfield 214, 3) := by decide +kernel
theorem dX12_variant_88 : decode cX12_variant 88 = .ok (.iload_n 1, 1) := by decide +kernel
theorem dX12_variant_89 : decode cX12_variant 89 = .ok (.iaload, 1) := by decide +kernel
